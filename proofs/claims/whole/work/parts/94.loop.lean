theorem lw_sub {n i : Nat} (hn : n ≤ 2560) (hi : i ≤ n) : nI n - 5 < nI i ↔ n < i + 5 := by
  have h1 : (nI n).toInt = (n : Int) := nI_toInt (by omega)
  have h2 : (nI i).toInt = (i : Int) := nI_toInt (by omega)
  have h5 : (5 : Int32).toInt = 5 := rfl
  have h3 : (nI n - 5).toInt = (n : Int) - 5 := by
    rw [Int32.toInt_sub, h1, h5]
    exact Int.bmod_eq_of_le (by omega) (by omega)
  rw [Int32.lt_iff_toInt_lt, h3, h2]
  omega
section Rows94
variable {p : Program} {l : Launch} {e : Env} {s : State} {m : MethodId} {below : List Frame} {meth : Method} {c : Code} {D : va_G} {cy : Nat → ClassId} {ad : Nat → Nat} {b n : Nat} {xs : Nat → Int32}
theorem law_case (X : LX p s m meth c D cy ad b n xs) {x y : Int32} {v : Mm} {L : Lm} (h1 : vp_in (x + 1) n) (h2 : vp_in (x + 2) n) (h3 : vp_in (x + 3) n) (h4 : vp_in (x + 4) n) (hR : R v L) (kk : ∀ v' L', R v' L' → GL p l e s m below meth c D cy ad b x 1084 [] v' L') : GL p l e s m below meth c D cy ad b x 32 [.int y] v L := by
  by_cases ho : y.toInt < 0 ∨ 28 < y.toInt
  · exact l_tabOut X 1084 dL_law_32 ho rfl (kk v L hR)
  · have hlo : ¬ y.toInt < 0 := fun q => ho (Or.inl q)
    have hhi : ¬ 28 < y.toInt := fun q => ho (Or.inr q)
    obtain ⟨k, hk⟩ : ∃ k : Nat, y.toInt = (k : Int) := ⟨y.toInt.toNat, by omega⟩
    have hk2 : k < 29 := by omega
    rcases (show k = 0 ∨ k = 1 ∨ k = 2 ∨ k = 3 ∨ k = 4 ∨ k = 5 ∨ k = 6 ∨ k = 7 ∨ k = 8 ∨ k = 9 ∨ k = 10 ∨ k = 11 ∨ k = 12 ∨ k = 13 ∨ k = 14 ∨ k = 15 ∨ k = 16 ∨ k = 17 ∨ k = 18 ∨ k = 19 ∨ k = 20 ∨ k = 21 ∨ k = 22 ∨ k = 23 ∨ k = 24 ∨ k = 25 ∨ k = 26 ∨ k = 27 ∨ k = 28 by omega) with rfl | rfl | rfl | rfl | rfl | rfl | rfl | rfl | rfl | rfl | rfl | rfl | rfl | rfl | rfl | rfl | rfl | rfl | rfl | rfl | rfl | rfl | rfl | rfl | rfl | rfl | rfl | rfl | rfl
    · exact l_tabIn X 164 dL_law_32 hlo hhi (by rw [hk]; rfl) rfl (case_0 X h1 h2 h3 h4 hR kk)
    · exact l_tabIn X 187 dL_law_32 hlo hhi (by rw [hk]; rfl) rfl (case_1 X h1 h2 h3 h4 hR kk)
    · exact l_tabIn X 200 dL_law_32 hlo hhi (by rw [hk]; rfl) rfl (case_2 X h1 h2 h3 h4 hR kk)
    · exact l_tabIn X 213 dL_law_32 hlo hhi (by rw [hk]; rfl) rfl (case_3 X h1 h2 h3 h4 hR kk)
    · exact l_tabIn X 226 dL_law_32 hlo hhi (by rw [hk]; rfl) rfl (case_4 X h1 h2 h3 h4 hR kk)
    · exact l_tabIn X 289 dL_law_32 hlo hhi (by rw [hk]; rfl) rfl (case_5 X h1 h2 h3 h4 hR kk)
    · exact l_tabIn X 322 dL_law_32 hlo hhi (by rw [hk]; rfl) rfl (case_6 X h1 h2 h3 h4 hR kk)
    · exact l_tabIn X 345 dL_law_32 hlo hhi (by rw [hk]; rfl) rfl (case_7 X h1 h2 h3 h4 hR kk)
    · exact l_tabIn X 378 dL_law_32 hlo hhi (by rw [hk]; rfl) rfl (case_8 X h1 h2 h3 h4 hR kk)
    · exact l_tabIn X 411 dL_law_32 hlo hhi (by rw [hk]; rfl) rfl (case_9 X h1 h2 h3 h4 hR kk)
    · exact l_tabIn X 434 dL_law_32 hlo hhi (by rw [hk]; rfl) rfl (case_10 X h1 h2 h3 h4 hR kk)
    · exact l_tabIn X 457 dL_law_32 hlo hhi (by rw [hk]; rfl) rfl (case_11 X h1 h2 h3 h4 hR kk)
    · exact l_tabIn X 480 dL_law_32 hlo hhi (by rw [hk]; rfl) rfl (case_12 X h1 h2 h3 h4 hR kk)
    · exact l_tabIn X 503 dL_law_32 hlo hhi (by rw [hk]; rfl) rfl (case_13 X h1 h2 h3 h4 hR kk)
    · exact l_tabIn X 516 dL_law_32 hlo hhi (by rw [hk]; rfl) rfl (case_14 X h1 h2 h3 h4 hR kk)
    · exact l_tabIn X 559 dL_law_32 hlo hhi (by rw [hk]; rfl) rfl (case_15 X h1 h2 h3 h4 hR kk)
    · exact l_tabIn X 602 dL_law_32 hlo hhi (by rw [hk]; rfl) rfl (case_16 X h1 h2 h3 h4 hR kk)
    · exact l_tabIn X 645 dL_law_32 hlo hhi (by rw [hk]; rfl) rfl (case_17 X h1 h2 h3 h4 hR kk)
    · exact l_tabIn X 708 dL_law_32 hlo hhi (by rw [hk]; rfl) rfl (case_18 X h1 h2 h3 h4 hR kk)
    · exact l_tabIn X 741 dL_law_32 hlo hhi (by rw [hk]; rfl) rfl (case_19 X h1 h2 h3 h4 hR kk)
    · exact l_tabIn X 754 dL_law_32 hlo hhi (by rw [hk]; rfl) rfl (case_20 X h1 h2 h3 h4 hR kk)
    · exact l_tabIn X 777 dL_law_32 hlo hhi (by rw [hk]; rfl) rfl (case_21 X h1 h2 h3 h4 hR kk)
    · exact l_tabIn X 826 dL_law_32 hlo hhi (by rw [hk]; rfl) rfl (case_22 X h1 h2 h3 h4 hR kk)
    · exact l_tabIn X 869 dL_law_32 hlo hhi (by rw [hk]; rfl) rfl (case_23 X h1 h2 h3 h4 hR kk)
    · exact l_tabIn X 938 dL_law_32 hlo hhi (by rw [hk]; rfl) rfl (case_24 X h1 h2 h3 h4 hR kk)
    · exact l_tabIn X 992 dL_law_32 hlo hhi (by rw [hk]; rfl) rfl (case_25 X h1 h2 h3 h4 hR kk)
    · exact l_tabIn X 1015 dL_law_32 hlo hhi (by rw [hk]; rfl) rfl (case_26 X h1 h2 h3 h4 hR kk)
    · exact l_tabIn X 1038 dL_law_32 hlo hhi (by rw [hk]; rfl) rfl (case_27 X h1 h2 h3 h4 hR kk)
    · exact l_tabIn X 1061 dL_law_32 hlo hhi (by rw [hk]; rfl) rfl (case_28 X h1 h2 h3 h4 hR kk)
theorem law_loop (X : LX p s m meth c D cy ad b n xs) (hn : n ≤ 2560) : ∀ (f i : Nat) (v : Mm) (L : Lm), n < i + f → i ≤ n → R v L → GL p l e s m below meth c D cy ad b (nI i) 18 [] v L
  | 0, i, v, L, hf, hi, hR => absurd hf (by omega)
  | f + 1, i, v, L, hf, hi, hR => by
    refine l_i X dL_law_18 ?_
    refine l_a0 X dL_law_19 ?_
    refine l_len X dL_law_20 ?_
    refine l_c X 5 rfl dL_law_21 ?_
    refine l_sub X dL_law_22 ?_
    refine l_gt X 1090 dL_law_23 rfl (fun _ => ?_) (fun q => ?_)
    · exact l_c X 1 rfl dL_law_1090 (l_ret X dL_law_1091)
    · rw [lw_sub hn hi] at q
      have hin : ∀ k : Nat, k < 5 → vp_in (nI i + nI k) n := fun k hk => by
        rw [nI_add]
        exact vp_in_nI (by omega) (by omega)
      refine l_a0 X dL_law_26 ?_
      refine l_i X dL_law_27 ?_
      refine l_sld X (vp_in_nI (by omega) (by omega)) dL_law_28 ?_
      refine l_bi X 31 rfl dL_law_29 ?_
      refine l_and X dL_law_31 ?_
      refine law_case X (hin 1 (by omega)) (hin 2 (by omega)) (hin 3 (by omega)) (hin 4 (by omega)) hR (fun v' L' hR' => ?_)
      refine l_inc X (nI (i + 5)) dL_law_1084 (nI_add i 5) ?_
      refine l_goto X 18 rfl dL_law_1087 ?_
      exact law_loop X hn f (i + 5) v' L' (by omega) (by omega) hR'
end Rows94
