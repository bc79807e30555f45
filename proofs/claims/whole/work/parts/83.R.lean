/-! the relation of both worlds; what a call must keep -/
def RW (v : Mm) (w : Nat) : Prop := v 3 1 = nI w ∧ v 79 12 = nI w ∧ w ≤ 8 ∧ v 4 = v 86 ∧ WOk (v 86) w
def RS (v : Mm) (n : Nat) : Prop := n ≤ 4 ∧ v 79 0 = nI n ∧ SR v 5 (v 80) (v 81) (lvT 0 v) n ∧ TOk (v 80) (v 81) (lvT 0 v) n
def RK (v : Mm) (n : Nat) : Prop := ∀ s, s < 2 → v (33 + s) 1 = v 91 s ∧ (v 91 s = 0 ∨ (v 91 s = 1 ∧ SR v (19 + 7 * s) (v 80) (v 81) (kpT v s) n ∧ TOk (v 80) (v 81) (kpT v s) n))
def RN (v : Mm) (e : Nat) : Prop := v 68 3 = nI e ∧ v 79 19 = nI e ∧ e ≤ 6 ∧ v 69 = v 89 ∧ v 70 = v 90 ∧ WOk (v 89) e ∧ v 71 1 = 0
/-- an act takes one row of numbers to another; so it is undone -/
def AR (v : Mm) (n a : Nat) (K H T T' : Tn) : Prop := v (40 + a) 4 = T 17 ∧ (∀ j, j < 25 → T (18 + j) = if v (40 + a) 2 = nI j then v (40 + a) 3 else T' (18 + j)) ∧ ((v (40 + a) 1 = -9 ∧ ∀ p, p < n → SP T T' p) ∨ ∃ p, p < n ∧ v (40 + a) 1 = nI p ∧ PR v (54 + a) K H T p ∧ ∀ r, r < n → r ≠ p → SP T T' r)
def TA (v : Mm) (x c i : Nat) : Tn := if i = c then lvT 0 v else rwT v ((x + 14 - c + i) % 14)
def RA (v : Mm) (n f c x : Nat) : Prop := v 38 1 = nI f ∧ f < 14 ∧ v 38 2 = nI c ∧ c ≤ 14 ∧ v 79 15 = nI c ∧ v 79 16 = nI x ∧ x < 14 ∧ ∀ i, i < c → AR v n ((f + i) % 14) (v 80) (v 81) (TA v x c i) (TA v x c (i + 1)) ∧ TOk (v 80) (v 81) (TA v x c i) n
def R (v : Mm) (L : Lm) : Prop := (∃ len, Txt v len) ∧ (∃ w, RW v w) ∧ (∃ n, RS v n ∧ RK v n ∧ ∃ f c x, RA v n f c x) ∧ (∃ e, RN v e) ∧ L 0 = L 79
theorem Txt.k {v u : Mm} {len : Nat} (h : Txt v len) (hu : ∀ k j, ((k = 1 ∧ j = 1) ∨ k = 2 ∨ k = 85 ∨ (k = 79 ∧ j = 9)) → u k j = v k j) : Txt u len := by
  obtain ⟨h1, h2, h3, h4⟩ := h
  refine ⟨by rw [hu 79 9 (by omega)]; exact h1, h2, by rw [hu 1 1 (by omega)]; exact h3, ?_⟩
  funext j
  rw [hu 2 j (by omega), hu 85 j (by omega), h4]
theorem fk {v u : Mm} {k : Nat} (h : ∀ j, u k j = v k j) : u k = v k := funext h
theorem RW.k {v u : Mm} {w : Nat} (h : RW v w) (hu : ∀ k j, (k = 3 ∨ k = 4 ∨ k = 86 ∨ (k = 79 ∧ j = 12)) → u k j = v k j) : RW u w := by
  obtain ⟨h1, h2, h3, h4, h5⟩ := h
  have e86 : u 86 = v 86 := fk (fun j => hu 86 j (by omega))
  have e4 : u 4 = v 4 := fk (fun j => hu 4 j (by omega))
  exact ⟨by rw [hu 3 1 (by omega)]; exact h1, by rw [hu 79 12 (by omega)]; exact h2, h3, by rw [e4, e86]; exact h4, by rw [e86]; exact h5⟩
theorem lv0_k {v u : Mm} (hu : ∀ j, j < 43 → u 82 j = v 82 j) : lvT 0 u = lvT 0 v := by
  apply cut_ext
  intro j hj
  rw [Nat.mul_zero, Nat.zero_add]
  exact hu j hj
theorem RS.k {v u : Mm} {n : Nat} (h : RS v n) (hu : ∀ k j, ((5 ≤ k ∧ k < 12) ∨ (k = 79 ∧ j = 0) ∨ k = 80 ∨ k = 81 ∨ (k = 82 ∧ j < 43)) → u k j = v k j) : RS u n := by
  obtain ⟨h1, h2, h3, h4⟩ := h
  have e80 : u 80 = v 80 := fk (fun j => hu 80 j (by omega))
  have e81 : u 81 = v 81 := fk (fun j => hu 81 j (by omega))
  have eT : lvT 0 u = lvT 0 v := lv0_k (fun j hj => hu 82 j (by omega))
  refine ⟨h1, by rw [hu 79 0 (by omega)]; exact h2, ?_, ?_⟩
  · rw [e80, e81, eT]; exact h3.same h1 (fun a j a1 a2 => hu a j (by omega))
  · rw [e80, e81, eT]; exact h4
theorem RK.k {v u : Mm} {n : Nat} (h : RK v n) (hn : n ≤ 4) (hu : ∀ k j, ((19 ≤ k ∧ k < 35) ∨ k = 91 ∨ k = 92 ∨ k = 80 ∨ k = 81) → u k j = v k j) : RK u n := by
  have e80 : u 80 = v 80 := fk (fun j => hu 80 j (by omega))
  have e81 : u 81 = v 81 := fk (fun j => hu 81 j (by omega))
  intro s hs
  obtain ⟨h1, h2⟩ := h s hs
  have eT : kpT u s = kpT v s := cut_ext (fun j _ => hu 92 _ (by omega))
  refine ⟨by rw [hu _ 1 (by omega), hu 91 s (by omega)]; exact h1, ?_⟩
  rw [hu 91 s (by omega), e80, e81, eT]
  rcases h2 with z | ⟨z1, z2, z3⟩
  · exact Or.inl z
  · exact Or.inr ⟨z1, z2.same hn (fun a j a1 a2 => hu a j (by omega)), z3⟩
theorem AR.k {v u : Mm} {n a : Nat} {K H T T' : Tn} (h : AR v n a K H T T') (h1 : ∀ j, u (40 + a) j = v (40 + a) j) (h2 : ∀ j, u (54 + a) j = v (54 + a) j) : AR u n a K H T T' := by
  obtain ⟨a1, a2, a3⟩ := h
  refine ⟨by rw [h1]; exact a1, fun j hj => by rw [h1, h1]; exact a2 j hj, ?_⟩
  rw [h1]
  rcases a3 with z | ⟨p, z1, z2, z3, z4⟩
  · exact Or.inl z
  · exact Or.inr ⟨p, z1, z2, z3.same h2, z4⟩
theorem RA.k {v u : Mm} {n f c x : Nat} (h : RA v n f c x) (hu : ∀ k j, ((38 ≤ k ∧ k < 68) ∨ (k = 79 ∧ (j = 15 ∨ j = 16)) ∨ k = 87 ∨ k = 80 ∨ k = 81 ∨ (k = 82 ∧ j < 43)) → u k j = v k j) : RA u n f c x := by
  obtain ⟨h1, h2, h3, h4, h5, h6, h7, h8⟩ := h
  have e80 : u 80 = v 80 := fk (fun j => hu 80 j (by omega))
  have e81 : u 81 = v 81 := fk (fun j => hu 81 j (by omega))
  have eT : lvT 0 u = lvT 0 v := lv0_k (fun j hj => hu 82 j (by omega))
  have eA : ∀ i, TA u x c i = TA v x c i := by
    intro i
    unfold TA
    split
    · exact eT
    · exact cut_ext (fun j _ => hu 87 _ (by omega))
  refine ⟨by rw [hu 38 1 (by omega)]; exact h1, h2, by rw [hu 38 2 (by omega)]; exact h3, h4, by rw [hu 79 15 (by omega)]; exact h5, by rw [hu 79 16 (by omega)]; exact h6, h7, fun i hi => ?_⟩
  rw [e80, e81, eA, eA]
  obtain ⟨a1, a2⟩ := h8 i hi
  exact ⟨a1.k (fun j => hu _ j (by omega)) (fun j => hu _ j (by omega)), a2⟩
theorem RN.k {v u : Mm} {e : Nat} (h : RN v e) (hu : ∀ k j, (k = 68 ∨ k = 69 ∨ k = 70 ∨ (k = 71 ∧ j = 1) ∨ (k = 79 ∧ j = 19) ∨ k = 89 ∨ k = 90) → u k j = v k j) : RN u e := by
  obtain ⟨h1, h2, h3, h4, h5, h6, h7⟩ := h
  have e69 : u 69 = v 69 := fk (fun j => hu 69 j (by omega))
  have e70 : u 70 = v 70 := fk (fun j => hu 70 j (by omega))
  have e89 : u 89 = v 89 := fk (fun j => hu 89 j (by omega))
  have e90 : u 90 = v 90 := fk (fun j => hu 90 j (by omega))
  exact ⟨by rw [hu 68 3 (by omega)]; exact h1, by rw [hu 79 19 (by omega)]; exact h2, h3, by rw [e69, e89]; exact h4, by rw [e70, e90]; exact h5, by rw [e89]; exact h6, by rw [hu 71 1 (by omega)]; exact h7⟩
/-- places that questions use -/
def scr (k j : Nat) : Prop := (12 ≤ k ∧ k < 19) ∨ k = 36 ∨ k = 37 ∨ (k = 71 ∧ (j = 2 ∨ j = 3)) ∨ (73 ≤ k ∧ k ≤ 78) ∨ (k = 82 ∧ 43 ≤ j) ∨ (k = 79 ∧ (j = 6 ∨ j = 7 ∨ j = 10 ∨ j = 11 ∨ j = 14)) ∨ k = 83 ∨ k = 84 ∨ k = 88
def Sme (v u : Mm) : Prop := ∀ k j, ¬ scr k j → u k j = v k j
theorem Sme.rf (v : Mm) : Sme v v := fun _ _ _ => rfl
theorem Sme.tr {a b c : Mm} (h : Sme a b) (g : Sme b c) : Sme a c := fun k j hk => (g k j hk).trans (h k j hk)
theorem R.sme {v u : Mm} {L : Lm} (h : R v L) (hu : Sme v u) : R u L := by
  obtain ⟨⟨len, h1⟩, ⟨w, h2⟩, ⟨n, h3, h4, f, c, x, h5⟩, ⟨e, h6⟩, h7⟩ := h
  exact ⟨⟨len, h1.k (fun k j hk => hu k j (by unfold scr; omega))⟩, ⟨w, h2.k (fun k j hk => hu k j (by unfold scr; omega))⟩, ⟨n, h3.k (fun k j hk => hu k j (by unfold scr; omega)), h4.k h3.1 (fun k j hk => hu k j (by unfold scr; omega)), f, c, x, h5.k (fun k j hk => hu k j (by unfold scr; omega))⟩, ⟨e, h6.k (fun k j hk => hu k j (by unfold scr; omega))⟩, h7⟩
theorem Lo.sme {v u : Mm} (h : Lo v u) : Sme v u := fun k j hk => h k j (fun q => hk (by unfold scr; omega)) (fun q => hk (by unfold scr; omega))
/-! both calls at once -/
theorem Fq.mono {y : MethodName} {b : ByteArray} {nL : Nat} {r : Option FieldType} {d : Nat} {as : List Value} {v : Mm} {L : Lm} {Q Q' : Qt} (h : Fq y b nL r d as v L Q) (hQ : ∀ a b c, Q a b c → Q' a b c) : Fq y b nL r d as v L Q' := by
  intro l D cy ad z
  exact MetFree.mono (h l D cy ad z) (fun _ _ q => q) (fun _ _ _ _ _ q => q) (fun a s o t _ q => by
    obtain ⟨⟨⟨res, v', L', c1, c2, c3⟩, c4⟩, c5⟩ := q
    exact ⟨⟨⟨res, v', L', c1, hQ _ _ _ c2, c3⟩, c4⟩, c5⟩)
def Sbt (y9 : MethodName) (b9 : ByteArray) (n9 : Nat) (r9 : Option FieldType) (d9 : Nat) (y0 : MethodName) (b0 : ByteArray) (n0 : Nat) (r0 : Option FieldType) (d0 : Nat) (as : List Value) (v : Mm) (L : Lm) : Prop :=
  Fq y9 b9 n9 r9 d9 (.ref 0 :: as) v L (fun a v1 L1 => Fq y0 b0 n0 r0 d0 (.ref 79 :: as) v1 L1 (fun a' v2 L2 => a' = a ∧ (∃ x : Int32, a = some (.int x)) ∧ R v2 L2))
theorem Sbt.of {y9 : MethodName} {b9 : ByteArray} {n9 : Nat} {r9 : Option FieldType} {d9 : Nat} {y0 : MethodName} {b0 : ByteArray} {n0 : Nat} {r0 : Option FieldType} {d0 : Nat} {as : List Value} {v v1 v2 : Mm} {L L1 L2 : Lm} {x x' : Int32} (h9 : Fn y9 b9 n9 r9 d9 (.ref 0 :: as) v L (some (.int x)) v1 L1) (h0 : Fn y0 b0 n0 r0 d0 (.ref 79 :: as) v1 L1 (some (.int x')) v2 L2) (e : x' = x) (hR : R v2 L2) : Sbt y9 b9 n9 r9 d9 y0 b0 n0 r0 d0 as v L := by
  refine Fq.mono h9 (fun a b c q => ?_)
  obtain ⟨q1, q2, q3⟩ := q
  subst q1 q2 q3
  refine Fq.mono h0 (fun a b c q => ?_)
  obtain ⟨q1, q2, q3⟩ := q
  subst q1 q2 q3
  exact ⟨by rw [e], ⟨x, rfl⟩, hR⟩
/-! a new act in the row -/
theorem RA.note {v u : Mm} {n f c x f' c' a : Nat} (h : RA v n f c x) (hS : RS v n) (hc : (c < 14 ∧ f' = f ∧ c' = c + 1 ∧ a = (f + c) % 14) ∨ (c = 14 ∧ f' = (f + 1) % 14 ∧ c' = 14 ∧ a = f)) (u1 : u 38 1 = nI f') (u2 : u 38 2 = nI c') (u3 : u 79 15 = nI c') (u4 : u 79 16 = nI ((x + 1) % 14)) (hk : ∀ b, b < 14 → b ≠ a → (∀ j, u (40 + b) j = v (40 + b) j) ∧ ∀ j, u (54 + b) j = v (54 + b) j) (hr : ∀ i, i < 14 → i ≠ x → rwT u i = rwT v i) (hx : rwT u x = lvT 0 v) (e80 : u 80 = v 80) (e81 : u 81 = v 81) (hn : AR u n a (v 80) (v 81) (lvT 0 v) (lvT 0 u)) : RA u n f' c' ((x + 1) % 14) := by
  obtain ⟨h1, h2, h3, h4, h5, h6, h7, h8⟩ := h
  have f14 : f' < 14 := by rcases hc with q | q <;> omega
  have c14 : c' ≤ 14 := by rcases hc with q | q <;> omega
  refine ⟨u1, f14, u2, c14, u3, u4, by omega, fun i hi => ?_⟩
  rw [e80, e81]
  rcases hc with ⟨c1, rfl, rfl, rfl⟩ | ⟨rfl, rfl, rfl, rfl⟩
  · by_cases ci : i = c
    · subst ci
      have t1 : TA u ((x + 1) % 14) (i + 1) i = lvT 0 v := by
        unfold TA
        rw [if_neg (by omega), show ((x + 1) % 14 + 14 - (i + 1) + i) % 14 = x by omega]
        exact hx
      have t2 : TA u ((x + 1) % 14) (i + 1) (i + 1) = lvT 0 u := if_pos rfl
      rw [t1, t2]
      exact ⟨hn, hS.2.2.2⟩
    · have t : ∀ j, j < c → TA u ((x + 1) % 14) (c + 1) j = TA v x c j := by
        intro j hj
        unfold TA
        rw [if_neg (by omega), if_neg (by omega), show ((x + 1) % 14 + 14 - (c + 1) + j) % 14 = (x + 14 - c + j) % 14 by omega]
        exact hr _ (by omega) (by omega)
      have tc : TA u ((x + 1) % 14) (c + 1) c = TA v x c c := by
        have t1 : TA u ((x + 1) % 14) (c + 1) c = lvT 0 v := by
          unfold TA
          rw [if_neg (by omega), show ((x + 1) % 14 + 14 - (c + 1) + c) % 14 = x by omega]
          exact hx
        rw [t1]
        exact (if_pos rfl).symm
      have t2 : TA u ((x + 1) % 14) (c + 1) (i + 1) = TA v x c (i + 1) := by
        by_cases z : i + 1 = c
        · rw [z]; exact tc
        · exact t _ (by omega)
      rw [t i (by omega), t2]
      obtain ⟨a1, a2⟩ := h8 i (by omega)
      obtain ⟨b1, b2⟩ := hk ((f' + i) % 14) (by omega) (by omega)
      exact ⟨a1.k b1 b2, a2⟩
  · by_cases ci : i = 13
    · subst ci
      have t1 : TA u ((x + 1) % 14) 14 13 = lvT 0 v := by
        unfold TA
        rw [if_neg (by omega), show ((x + 1) % 14 + 14 - 14 + 13) % 14 = x by omega]
        exact hx
      have t2 : TA u ((x + 1) % 14) 14 (13 + 1) = lvT 0 u := if_pos rfl
      rw [t1, t2, show ((a + 1) % 14 + 13) % 14 = a by omega]
      exact ⟨hn, hS.2.2.2⟩
    · have t : ∀ j, j < 13 → TA u ((x + 1) % 14) 14 j = TA v x 14 (j + 1) := by
        intro j hj
        unfold TA
        rw [if_neg (by omega), if_neg (by omega), show ((x + 1) % 14 + 14 - 14 + j) % 14 = (x + 14 - 14 + (j + 1)) % 14 by omega]
        exact hr _ (by omega) (by omega)
      have t2 : TA u ((x + 1) % 14) 14 (i + 1) = TA v x 14 (i + 1 + 1) := by
        by_cases z : i + 1 = 13
        · have t1 : TA u ((x + 1) % 14) 14 13 = lvT 0 v := by
            unfold TA
            rw [if_neg (by omega), show ((x + 1) % 14 + 14 - 14 + 13) % 14 = x by omega]
            exact hx
          rw [z, t1]
          exact (if_pos rfl).symm
        · exact t _ (by omega)
      rw [t i (by omega), t2]
      obtain ⟨a1, a2⟩ := h8 (i + 1) (by omega)
      obtain ⟨b1, b2⟩ := hk (((a + 1) % 14 + i) % 14) (by omega) (by omega)
      rw [show (a + (i + 1)) % 14 = ((a + 1) % 14 + i) % 14 by omega] at a1
      exact ⟨a1.k b1 b2, a2⟩
