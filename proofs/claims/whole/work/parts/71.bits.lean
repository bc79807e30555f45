/-! bits, how many there are, common divisors -/
theorem andI (a b : Nat) : nI a &&& nI b = nI (a &&& b) := by
  apply Int32.toBitVec_inj.1
  show BitVec.ofNat 32 a &&& BitVec.ofNat 32 b = BitVec.ofNat 32 (a &&& b)
  apply BitVec.eq_of_getLsbD_eq
  intro i hi
  simp [hi]
theorem orI (a b : Nat) : nI a ||| nI b = nI (a ||| b) := by
  apply Int32.toBitVec_inj.1
  show BitVec.ofNat 32 a ||| BitVec.ofNat 32 b = BitVec.ofNat 32 (a ||| b)
  apply BitVec.eq_of_getLsbD_eq
  intro i hi
  simp [hi]
theorem and_split {m c d : Nat} (x : Nat) (hc : c < 2 ^ m) : x &&& (2 ^ m * d + c) = 2 ^ m * (x / 2 ^ m &&& d) + (x % 2 ^ m &&& c) := by
  have h1 : x % 2 ^ m &&& c < 2 ^ m := Nat.lt_of_le_of_lt Nat.and_le_right hc
  apply Nat.eq_of_testBit_eq
  intro i
  rw [Nat.testBit_and, Nat.testBit_two_pow_mul_add _ hc, Nat.testBit_two_pow_mul_add _ h1]
  by_cases h : i < m
  · rw [if_pos h, if_pos h, Nat.testBit_and, Nat.testBit_mod_two_pow]
    simp [h]
  · rw [if_neg h, if_neg h, Nat.testBit_and, Nat.testBit_div_two_pow, show i - m + m = i by omega]
/-- the sum of K figures to the base B -/
def dsN (B : Nat) : Nat → Nat → Nat
  | 0, _ => 0
  | K + 1, N => N % B + dsN B K (N / B)
def dlN (B m : Nat) : Nat → Nat → Prop
  | 0, _ => True
  | K + 1, N => N % B ≤ m ∧ dlN B m K (N / B)
def mkN (k : Nat) : Nat → Nat
  | 0 => 0
  | K + 1 => 2 ^ (2 * k) * mkN k K + (2 ^ k - 1)
theorem stg {k m : Nat} (hm : 2 * m < 2 ^ (2 * k)) : ∀ (K N : Nat), dlN (2 ^ k) m (2 * K) N → N < 2 ^ (2 * k * K) →
    N = (N &&& mkN k K) + 2 ^ k * (N / 2 ^ k &&& mkN k K) ∧ dsN (2 ^ (2 * k)) K ((N &&& mkN k K) + (N / 2 ^ k &&& mkN k K)) = dsN (2 ^ k) (2 * K) N ∧ dlN (2 ^ (2 * k)) (2 * m) K ((N &&& mkN k K) + (N / 2 ^ k &&& mkN k K))
  | 0, N, _, hN => by
    have : N = 0 := by simpa using hN
    subst this
    refine ⟨?_, rfl, trivial⟩
    simp
  | K + 1, N, hd, hN => by
    have hpos : 0 < 2 ^ k := Nat.two_pow_pos k
    have h2 : 2 ^ (2 * k) = 2 ^ k * 2 ^ k := by rw [show 2 * k = k + k by omega, Nat.pow_add]
    have hlt : 2 ^ k - 1 < 2 ^ (2 * k) := by
      have : 2 ^ k ≤ 2 ^ (2 * k) := Nat.pow_le_pow_right (by decide) (by omega)
      omega
    have hd' : N % 2 ^ k ≤ m ∧ (N / 2 ^ k) % 2 ^ k ≤ m ∧ dlN (2 ^ k) m (2 * K) (N / 2 ^ k / 2 ^ k) := by
      rw [show 2 * (K + 1) = 2 * K + 1 + 1 by omega] at hd
      exact ⟨hd.1, hd.2.1, hd.2.2⟩
    have hN2 : N / 2 ^ k / 2 ^ k < 2 ^ (2 * k * K) := by
      rw [Nat.div_div_eq_div_mul, ← h2, Nat.div_lt_iff_lt_mul (Nat.two_pow_pos _), ← Nat.pow_add]
      rw [show 2 * k * K + 2 * k = 2 * k * (K + 1) by rw [Nat.mul_add, Nat.mul_one]]
      exact hN
    obtain ⟨i1, i2, i3⟩ := stg hm K (N / 2 ^ k / 2 ^ k) hd'.2.2 hN2
    have eA : N &&& mkN k (K + 1) = 2 ^ (2 * k) * (N / 2 ^ k / 2 ^ k &&& mkN k K) + N % 2 ^ k := by
      show N &&& (2 ^ (2 * k) * mkN k K + (2 ^ k - 1)) = _
      rw [and_split N hlt, Nat.and_two_pow_sub_one_eq_mod, Nat.div_div_eq_div_mul, ← h2]
      congr 1
      rw [h2]
      exact Nat.mod_mul_left_mod _ _ _
    have eB : N / 2 ^ k &&& mkN k (K + 1) = 2 ^ (2 * k) * (N / 2 ^ k / 2 ^ k / 2 ^ k &&& mkN k K) + (N / 2 ^ k) % 2 ^ k := by
      show N / 2 ^ k &&& (2 ^ (2 * k) * mkN k K + (2 ^ k - 1)) = _
      rw [and_split (N / 2 ^ k) hlt, Nat.and_two_pow_sub_one_eq_mod]
      congr 1
      · rw [Nat.div_div_eq_div_mul (N / 2 ^ k) (2 ^ k) (2 ^ k), ← h2]
      · rw [h2]
        exact Nat.mod_mul_left_mod _ _ _
    have d0 := Nat.div_add_mod N (2 ^ k)
    have d1 := Nat.div_add_mod (N / 2 ^ k) (2 ^ k)
    generalize eX : (N / 2 ^ k / 2 ^ k &&& mkN k K) = X at *
    generalize eY : (N / 2 ^ k / 2 ^ k / 2 ^ k &&& mkN k K) = Y at *
    have hs : 2 ^ (2 * k) * X + N % 2 ^ k + (2 ^ (2 * k) * Y + (N / 2 ^ k) % 2 ^ k) = 2 ^ (2 * k) * (X + Y) + (N % 2 ^ k + (N / 2 ^ k) % 2 ^ k) := by
      rw [Nat.mul_add]
      omega
    have hsm : N % 2 ^ k + (N / 2 ^ k) % 2 ^ k < 2 ^ (2 * k) := by omega
    have hm1 : (2 ^ (2 * k) * (X + Y) + (N % 2 ^ k + (N / 2 ^ k) % 2 ^ k)) % 2 ^ (2 * k) = N % 2 ^ k + (N / 2 ^ k) % 2 ^ k := by
      rw [Nat.mul_add_mod, Nat.mod_eq_of_lt hsm]
    have hm2 : (2 ^ (2 * k) * (X + Y) + (N % 2 ^ k + (N / 2 ^ k) % 2 ^ k)) / 2 ^ (2 * k) = X + Y := by
      rw [Nat.mul_add_div (Nat.two_pow_pos _), Nat.div_eq_of_lt hsm, Nat.add_zero]
    rw [eA, eB]
    refine ⟨?_, ?_, ?_⟩
    · have e1 : N = 2 ^ k * (2 ^ k * (N / 2 ^ k / 2 ^ k) + N / 2 ^ k % 2 ^ k) + N % 2 ^ k := by rw [d1]; exact d0.symm
      have e3 : 2 ^ k * (2 ^ k * (N / 2 ^ k / 2 ^ k) + N / 2 ^ k % 2 ^ k) = 2 ^ (2 * k) * (N / 2 ^ k / 2 ^ k) + 2 ^ k * (N / 2 ^ k % 2 ^ k) := by
        rw [Nat.mul_add, ← Nat.mul_assoc, ← h2]
      have e4 : 2 ^ (2 * k) * (N / 2 ^ k / 2 ^ k) = 2 ^ (2 * k) * X + 2 ^ (2 * k) * (2 ^ k * Y) := by
        rw [← Nat.mul_add, ← i1]
      have e5 : 2 ^ k * (2 ^ (2 * k) * Y + N / 2 ^ k % 2 ^ k) = 2 ^ (2 * k) * (2 ^ k * Y) + 2 ^ k * (N / 2 ^ k % 2 ^ k) := by
        rw [Nat.mul_add, Nat.mul_left_comm]
      rw [e5]
      omega
    · rw [hs]
      show (2 ^ (2 * k) * (X + Y) + (N % 2 ^ k + (N / 2 ^ k) % 2 ^ k)) % 2 ^ (2 * k) + dsN (2 ^ (2 * k)) K ((2 ^ (2 * k) * (X + Y) + (N % 2 ^ k + (N / 2 ^ k) % 2 ^ k)) / 2 ^ (2 * k)) = dsN (2 ^ k) (2 * (K + 1)) N
      rw [hm1, hm2, i2]
      show _ = N % 2 ^ k + ((N / 2 ^ k) % 2 ^ k + dsN (2 ^ k) (2 * K) (N / 2 ^ k / 2 ^ k))
      omega
    · rw [hs]
      show (2 ^ (2 * k) * (X + Y) + (N % 2 ^ k + (N / 2 ^ k) % 2 ^ k)) % 2 ^ (2 * k) ≤ 2 * m ∧ dlN (2 ^ (2 * k)) (2 * m) K ((2 ^ (2 * k) * (X + Y) + (N % 2 ^ k + (N / 2 ^ k) % 2 ^ k)) / 2 ^ (2 * k))
      rw [hm1, hm2]
      exact ⟨by omega, i3⟩
theorem dl_bit : ∀ K N, dlN 2 1 K N
  | 0, _ => trivial
  | K + 1, N => ⟨by omega, dl_bit K (N / 2)⟩
def pcN (N : Nat) : Nat → Nat
  | 0 => 0
  | K + 1 => pcN N K + N / 2 ^ K % 2
theorem pcN_lo (N : Nat) : ∀ K, pcN N (K + 1) = N % 2 + pcN (N / 2) K
  | 0 => by simp [pcN]
  | K + 1 => by
    show pcN N (K + 1) + N / 2 ^ (K + 1) % 2 = N % 2 + (pcN (N / 2) K + N / 2 / 2 ^ K % 2)
    rw [pcN_lo N K, Nat.div_div_eq_div_mul, show 2 * 2 ^ K = 2 ^ (K + 1) by rw [Nat.pow_succ, Nat.mul_comm]]
    omega
theorem ds_pc : ∀ K N, dsN 2 K N = pcN N K
  | 0, _ => rfl
  | K + 1, N => by
    rw [pcN_lo]
    show N % 2 + dsN 2 K (N / 2) = _
    rw [ds_pc K]
theorem mk1 : mkN 1 16 = 1431655765 := by decide +kernel
theorem mk2 : mkN 2 8 = 858993459 := by decide +kernel
theorem mk4 (x : Nat) : x &&& 252645135 = x % 16 + 256 * (x / 256 % 16) + 65536 * (x / 256 / 256 % 16) + 16777216 * (x / 256 / 256 / 256 % 16) := by
  have e0 := and_split (m := 8) (d := 986895) (c := 15) x (by decide)
  have e1 := and_split (m := 8) (d := 3855) (c := 15) (x / 2 ^ 8) (by decide)
  have e2 := and_split (m := 8) (d := 15) (c := 15) (x / 2 ^ 8 / 2 ^ 8) (by decide)
  have a15 : ∀ y : Nat, y &&& 15 = y % 16 := fun y => Nat.and_two_pow_sub_one_eq_mod y 4
  simp only [a15, show 2 ^ 8 * 986895 + 15 = 252645135 from rfl, show 2 ^ 8 * 3855 + 15 = 986895 from rfl, show 2 ^ 8 * 15 + 15 = 3855 from rfl, show (2 : Nat) ^ 8 = 256 from rfl] at e0 e1 e2
  rw [e0, e1, e2]
  have m0 : x % 256 % 16 = x % 16 := by omega
  have m1 : x / 256 % 256 % 16 = x / 256 % 16 := by omega
  have m2 : x / 256 / 256 % 256 % 16 = x / 256 / 256 % 16 := by omega
  rw [m0, m1, m2]
  generalize x % 16 = y0
  generalize x / 256 % 16 = y1
  generalize x / 256 / 256 % 16 = y2
  generalize x / 256 / 256 / 256 % 16 = y3
  omega
theorem bc_sum {g0 g1 g2 g3 C : Nat} (h0 : g0 ≤ 8) (h1 : g1 ≤ 8) (h2 : g2 ≤ 8) (h3 : g3 ≤ 8) (hC : C = g0 + 256 * g1 + 65536 * g2 + 16777216 * g3) : (C + C / 256 + (C + C / 256) / 65536) % 64 = g0 + g1 + g2 + g3 ∧ C < 2 ^ 30 := by
  have e1 : C / 256 = g1 + 256 * g2 + 65536 * g3 := by omega
  have e2 : C + C / 256 = (g0 + g1) + 256 * (g1 + g2) + 65536 * (g2 + g3) + 16777216 * g3 := by omega
  have e3 : (C + C / 256) / 65536 = (g2 + g3) + 256 * g3 := by omega
  refine ⟨?_, by omega⟩
  rw [e3, e2]
  omega
theorem bc_pr {b m1 m2 m3 : Nat} (e1 : b / 16 = m1) (e2 : m1 / 16 = m2) (e3 : m2 / 16 = m3) (h0 : b % 16 ≤ 4) (h1 : m1 % 16 ≤ 4) (h2 : m2 % 16 ≤ 4) : (b + m1) / 256 = m2 + m3 ∧ (b + m1) % 16 = b % 16 + m1 % 16 := by
  have q0 : b = 16 * m1 + b % 16 := by omega
  have q1 : m1 = 16 * m2 + m1 % 16 := by omega
  have q2 : m2 = 16 * m3 + m2 % 16 := by omega
  generalize b % 16 = f0 at *
  generalize m1 % 16 = f1 at *
  generalize m2 % 16 = f2 at *
  clear e1 e2 e3
  have r : b + m1 = 256 * (m2 + m3) + (16 * (f1 + f2) + (f0 + f1)) := by omega
  rw [r]
  clear r q0 q1 q2
  refine ⟨by omega, by omega⟩
theorem bc_end {b : Nat} (h : dlN 16 4 8 b) (hb : b < 2 ^ 32) : ((b + b / 16 &&& 252645135) + (b + b / 16 &&& 252645135) / 256 + ((b + b / 16 &&& 252645135) + (b + b / 16 &&& 252645135) / 256) / 65536) % 64 = dsN 16 8 b ∧ b < 2 ^ 31 ∧ (b + b / 16 &&& 252645135) < 2 ^ 30 := by
  obtain ⟨h0, h1, h2, h3, h4, h5, h6, h7, -⟩ := h
  have ed : dsN 16 8 b = b % 16 + (b / 16 % 16 + (b / 16 / 16 % 16 + (b / 16 / 16 / 16 % 16 + (b / 16 / 16 / 16 / 16 % 16 + (b / 16 / 16 / 16 / 16 / 16 % 16 + (b / 16 / 16 / 16 / 16 / 16 / 16 % 16 + (b / 16 / 16 / 16 / 16 / 16 / 16 / 16 % 16 + 0))))))) := rfl
  rw [ed]
  clear ed
  generalize e1 : b / 16 = m1 at *
  generalize e2 : m1 / 16 = m2 at *
  generalize e3 : m2 / 16 = m3 at *
  generalize e4 : m3 / 16 = m4 at *
  generalize e5 : m4 / 16 = m5 at *
  generalize e6 : m5 / 16 = m6 at *
  generalize e7 : m6 / 16 = m7 at *
  have k1 : m1 < 2 ^ 28 := by clear h0 h1 h2 h3 h4 h5 h6 h7 e2 e3 e4 e5 e6 e7; omega
  have k2 : m2 < 2 ^ 24 := by clear h0 h1 h2 h3 h4 h5 h6 h7 e1 e3 e4 e5 e6 e7 hb; omega
  have k3 : m3 < 2 ^ 20 := by clear h0 h1 h2 h3 h4 h5 h6 h7 e1 e2 e4 e5 e6 e7 hb k1; omega
  have k4 : m4 < 2 ^ 16 := by clear h0 h1 h2 h3 h4 h5 h6 h7 e1 e2 e3 e5 e6 e7 hb k1 k2; omega
  have k5 : m5 < 2 ^ 12 := by clear h0 h1 h2 h3 h4 h5 h6 h7 e1 e2 e3 e4 e6 e7 hb k1 k2 k3; omega
  have k6 : m6 < 2 ^ 8 := by clear h0 h1 h2 h3 h4 h5 h6 h7 e1 e2 e3 e4 e5 e7 hb k1 k2 k3 k4; omega
  have k7 : m7 < 16 := by clear h0 h1 h2 h3 h4 h5 h6 h7 e1 e2 e3 e4 e5 e6 hb k1 k2 k3 k4 k5; omega
  have k8 : m7 / 16 = 0 := Nat.div_eq_of_lt k7
  obtain ⟨d0, c0⟩ := bc_pr e1 e2 e3 h0 h1 h2
  obtain ⟨d1, c1⟩ := bc_pr e3 e4 e5 h2 h3 h4
  obtain ⟨d2, c2⟩ := bc_pr e5 e6 e7 h4 h5 h6
  obtain ⟨d3, c3⟩ := bc_pr e7 k8 (Nat.zero_div 16) h6 h7 (Nat.zero_le 4)
  have eC := mk4 (b + m1)
  rw [d0, d1, d2, c0, c1, c2, c3] at eC
  obtain ⟨s1, s2⟩ := bc_sum (Nat.add_le_add h0 h1) (Nat.add_le_add h2 h3) (Nat.add_le_add h4 h5) (Nat.add_le_add h6 h7) eC
  refine ⟨?_, ?_, s2⟩
  · rw [s1]
    clear h0 h1 h2 h3 h4 h5 h6 h7 e1 e2 e3 e4 e5 e6 e7 hb k1 k2 k3 k4 k5 k6 k7 k8 d0 d1 d2 d3 c0 c1 c2 c3 eC s1 s2
    generalize b % 16 = y0
    generalize m1 % 16 = y1
    generalize m2 % 16 = y2
    generalize m3 % 16 = y3
    generalize m4 % 16 = y4
    generalize m5 % 16 = y5
    generalize m6 % 16 = y6
    generalize m7 % 16 = y7
    simp only [Nat.add_assoc, Nat.add_zero]
  · have j7 : m7 ≤ 4 := by clear h0 h1 h2 h3 h4 h5 h6 e1 e2 e3 e4 e5 e6 e7 d0 d1 d2 d3 c0 c1 c2 c3 eC s1 s2 k1 k2 k3 k4 k5 k6 hb; omega
    have j6 : m6 < 80 := by clear h0 h1 h2 h3 h4 h5 h6 h7 e1 e2 e3 e4 e5 e6 d0 d1 d2 d3 c0 c1 c2 c3 eC s1 s2 k1 k2 k3 k4 k5 k6 k7 k8 hb; omega
    have j5 : m5 < 1280 := by clear h0 h1 h2 h3 h4 h5 h6 h7 e1 e2 e3 e4 e5 e7 d0 d1 d2 d3 c0 c1 c2 c3 eC s1 s2 k1 k2 k3 k4 k5 k6 k7 k8 hb j7; omega
    have j4 : m4 < 20480 := by clear h0 h1 h2 h3 h4 h5 h6 h7 e1 e2 e3 e4 e6 e7 d0 d1 d2 d3 c0 c1 c2 c3 eC s1 s2 k1 k2 k3 k4 k5 k6 k7 k8 hb j7 j6; omega
    have j3 : m3 < 327680 := by clear h0 h1 h2 h3 h4 h5 h6 h7 e1 e2 e3 e5 e6 e7 d0 d1 d2 d3 c0 c1 c2 c3 eC s1 s2 k1 k2 k3 k4 k5 k6 k7 k8 hb j7 j6 j5; omega
    have j2 : m2 < 5242880 := by clear h0 h1 h2 h3 h4 h5 h6 h7 e1 e2 e4 e5 e6 e7 d0 d1 d2 d3 c0 c1 c2 c3 eC s1 s2 k1 k2 k3 k4 k5 k6 k7 k8 hb j7 j6 j5 j4; omega
    have j1 : m1 < 83886080 := by clear h0 h1 h2 h3 h4 h5 h6 h7 e1 e3 e4 e5 e6 e7 d0 d1 d2 d3 c0 c1 c2 c3 eC s1 s2 k1 k2 k3 k4 k5 k6 k7 k8 hb j7 j6 j5 j4 j3; omega
    clear h0 h1 h2 h3 h4 h5 h6 h7 e2 e3 e4 e5 e6 e7 d0 d1 d2 d3 c0 c1 c2 c3 eC s1 s2 k1 k2 k3 k4 k5 k6 k7 k8 hb j7 j6 j5 j4 j3 j2
    omega
theorem stg2 {k m B B2 m2 K K2 M L : Nat} (hB : 2 ^ k = B) (hB2 : 2 ^ (2 * k) = B2) (hm2 : 2 * m = m2) (hK : 2 * K = K2) (hM : mkN k K = M) (hL : 2 ^ (2 * k * K) = L) (hm : m2 < B2) (N : Nat) (hd : dlN B m K2 N) (hN : N < L) : N = (N &&& M) + B * (N / B &&& M) ∧ dsN B2 K ((N &&& M) + (N / B &&& M)) = dsN B K2 N ∧ dlN B2 m2 K ((N &&& M) + (N / B &&& M)) := by
  subst hB hB2 hm2 hK hM hL
  exact stg hm K N hd hN
theorem bc_n {n : Nat} (hn : n < 2 ^ 31) : bcF (nI n) = nI (pcN n 32) := by
  obtain ⟨a1', a2', a3'⟩ := stg2 (k := 1) (m := 1) (B := 2) (B2 := 4) (m2 := 2) (K := 16) (K2 := 32) (M := 1431655765) (L := 4294967296) rfl rfl rfl rfl mk1 (by decide +kernel) (by decide) n (dl_bit _ _) (by omega)
  generalize eX : (n &&& 1431655765) = X at *
  generalize eY : (n / 2 &&& 1431655765) = Y at *
  have ea : n - Y = X + Y := by omega
  rw [← ea] at a2' a3'
  generalize eA : n - Y = A at *
  have hA : A < 2 ^ 31 := by omega
  obtain ⟨b1', b2', b3'⟩ := stg2 (k := 2) (m := 2) (B := 4) (B2 := 16) (m2 := 4) (K := 8) (K2 := 16) (M := 858993459) (L := 4294967296) rfl rfl rfl rfl mk2 (by decide +kernel) (by decide) A a3' (by omega)
  have z1 : (A &&& 858993459) ≤ 858993459 := Nat.and_le_right
  have z2 : (A / 4 &&& 858993459) ≤ 858993459 := Nat.and_le_right
  generalize eb : (A &&& 858993459) + (A / 4 &&& 858993459) = b at *
  obtain ⟨c1, c2, c3⟩ := bc_end b3' (by omega)
  unfold bcF
  dsimp only
  rw [pk_ushrN (by omega) 1 1 (by decide), nI_ofNat 1431655765, andI, Nat.pow_one, eY, pk_sub (by omega), eA]
  rw [pk_ushrN (by omega) 2 2 (by decide), nI_ofNat 858993459, andI, andI, nI_add, show A / 2 ^ 2 = A / 4 from rfl, eb]
  rw [pk_ushrN (by omega) 4 4 (by decide), nI_add, nI_ofNat 252645135, andI, show b / 2 ^ 4 = b / 16 from rfl]
  generalize eC : (b + b / 16 &&& 252645135) = C at *
  rw [pk_ushrN (by omega) 8 8 (by decide), nI_add, show C / 2 ^ 8 = C / 256 from rfl]
  generalize eE : C + C / 256 = E at *
  have hE : E < 2 ^ 31 := by omega
  rw [pk_ushrN (by omega) 16 16 (by decide), nI_add, show E / 2 ^ 16 = E / 65536 from rfl]
  rw [pk_andN (by omega) 6 (by decide), show (E + E / 65536) % 2 ^ 6 = (E + E / 65536) % 64 from rfl, c1, b2', a2', ds_pc]
theorem shN : ∀ i, i < 31 → ((nI i &&& 31).toBitVec.smod 32).toNat = i := by decide +kernel
theorem bit_at {n i : Nat} (hn : n < 2 ^ 31) (hi : i < 31) : (nI n >>> (nI i &&& 31)) &&& 1 = nI (n / 2 ^ i % 2) := by
  have hd : n / 2 ^ i < 2 ^ 32 := Nat.lt_of_le_of_lt (Nat.div_le_self _ _) (by omega)
  rw [pk_shrN hn _ i (shN i hi), pk_andN hd 1 (by decide)]
theorem on_n' {n : Nat} (hn : n < 2 ^ 31) : ∀ K, K ≤ 31 → itr (fun i s => s + ((nI n >>> (nI i &&& 31)) &&& 1)) K 0 = nI (pcN n K)
  | 0, _ => rfl
  | K + 1, h => by
    show itr (fun i s => s + ((nI n >>> (nI i &&& 31)) &&& 1)) K 0 + ((nI n >>> (nI K &&& 31)) &&& 1) = nI (pcN n K + n / 2 ^ K % 2)
    rw [on_n' hn K (by omega), bit_at hn (by omega), nI_add]
theorem pc_hi {n K : Nat} (h : n < 2 ^ K) : ∀ j, pcN n (K + j) = pcN n K
  | 0 => rfl
  | j + 1 => by
    show pcN n (K + j) + n / 2 ^ (K + j) % 2 = pcN n K
    have h2 : 2 ^ K ≤ 2 ^ (K + j) := Nat.pow_le_pow_right (by decide) (by omega)
    rw [pc_hi h j, Nat.div_eq_of_lt (by omega)]
    rfl
theorem bc_on {n : Nat} (hn : n < 2 ^ 25) : bcF (nI n) = onF (nI n) := by
  unfold onF
  rw [bc_n (by omega), on_n' (by omega) 25 (by decide), show 32 = 25 + 7 from rfl, pc_hi hn]
def bN (c : Nat → Bool) : Nat → Nat
  | 0 => 0
  | n + 1 => bN c n + (if c n then 2 ^ n else 0)
def ctB (c : Nat → Bool) : Nat → Nat
  | 0 => 0
  | n + 1 => ctB c n + (if c n then 1 else 0)
theorem bN_lt (c : Nat → Bool) : ∀ n, bN c n < 2 ^ n
  | 0 => Nat.one_pos
  | n + 1 => by
    have := bN_lt c n
    unfold bN
    rw [Nat.pow_succ]
    split <;> omega
theorem bit1_n : ∀ i, i < 31 → bit1 i = nI (2 ^ i) := by decide +kernel
theorem or_top {s n : Nat} (h : s < 2 ^ n) : s ||| 2 ^ n = s + 2 ^ n := by
  rw [Nat.or_comm, Nat.add_comm]
  have := Nat.two_pow_add_eq_or_of_lt h 1
  rw [Nat.mul_one] at this
  exact this.symm
theorem bits_n (c : Nat → Bool) : ∀ n, n ≤ 31 → bitsF c n = nI (bN c n)
  | 0, _ => rfl
  | n + 1, h => by
    show (if c n then bitsF c n ||| bit1 n else bitsF c n) = nI (bN c n + (if c n then 2 ^ n else 0))
    rw [bits_n c n (by omega)]
    by_cases q : c n = true
    · rw [if_pos q, if_pos q, bit1_n n (by omega), orI, or_top (bN_lt c n)]
    · rw [if_neg q, if_neg q, Nat.add_zero]
theorem bN_bit (c : Nat → Bool) {i : Nat} : ∀ n, i < n → bN c n / 2 ^ i % 2 = if c i then 1 else 0
  | 0, h => absurd h (Nat.not_lt_zero i)
  | n + 1, h => by
    unfold bN
    have hl := bN_lt c n
    by_cases e : i = n
    · subst e
      by_cases q : c i = true
      · rw [if_pos q, if_pos q, Nat.add_div_right _ (Nat.two_pow_pos i), Nat.div_eq_of_lt hl]
      · rw [if_neg q, if_neg q, Nat.add_zero, Nat.div_eq_of_lt hl]
    · have ih := bN_bit c n (i := i) (by omega)
      by_cases q : c n = true
      · rw [if_pos q]
        have e2 : 2 ^ n = 2 ^ i * (2 * 2 ^ (n - 1 - i)) := by
          rw [← Nat.mul_assoc, ← Nat.pow_succ, ← Nat.pow_add]
          congr 1
          omega
        rw [e2, Nat.add_mul_div_left _ _ (Nat.two_pow_pos i), Nat.add_mul_mod_self_left]
        exact ih
      · rw [if_neg q, Nat.add_zero]; exact ih
theorem pc_bN (c : Nat → Bool) {n : Nat} : ∀ K, K ≤ n → pcN (bN c n) K = ctB c K
  | 0, _ => rfl
  | K + 1, h => by
    show pcN (bN c n) K + bN c n / 2 ^ K % 2 = ctB c K + (if c K then 1 else 0)
    rw [pc_bN c K (by omega), bN_bit c n h]
theorem bits_bc (c : Nat → Bool) : bcF (bitsF c 25) = nI (ctB c 25) := by
  rw [bits_n c 25 (by decide), bc_on (bN_lt c 25)]
  unfold onF
  have := bN_lt c 25
  rw [on_n' (by omega) 25 (by decide), pc_bN c 25 (Nat.le_refl _)]
theorem bits_on (c : Nat → Bool) : onF (bitsF c 25) = nI (ctB c 25) := by
  rw [bits_n c 25 (by decide)]
  unfold onF
  have := bN_lt c 25
  rw [on_n' (by omega) 25 (by decide), pc_bN c 25 (Nat.le_refl _)]
theorem bitsF_congr {c d : Nat → Bool} : ∀ n, (∀ i, i < n → c i = d i) → bitsF c n = bitsF d n
  | 0, _ => rfl
  | n + 1, h => by
    show (if c n then bitsF c n ||| bit1 n else bitsF c n) = (if d n then bitsF d n ||| bit1 n else bitsF d n)
    rw [bitsF_congr n (fun i hi => h i (by omega)), h n (by omega)]
theorem ctB_congr {c d : Nat → Bool} : ∀ n, (∀ i, i < n → c i = d i) → ctB c n = ctB d n
  | 0, _ => rfl
  | n + 1, h => by
    show ctB c n + (if c n then 1 else 0) = ctB d n + (if d n then 1 else 0)
    rw [ctB_congr n (fun i hi => h i (by omega)), h n (by omega)]
theorem ctB_mono {c d : Nat → Bool} : ∀ n, (∀ i, i < n → c i = true → d i = true) → ctB c n ≤ ctB d n
  | 0, _ => Nat.le_refl _
  | n + 1, h => by
    have ih := ctB_mono n (fun i hi => h i (by omega))
    show ctB c n + (if c n then 1 else 0) ≤ ctB d n + (if d n then 1 else 0)
    by_cases q : c n = true
    · rw [if_pos q, if_pos (h n (by omega) q)]; omega
    · rw [if_neg q]; omega
theorem ctB_le (c : Nat → Bool) : ∀ n, ctB c n ≤ n
  | 0 => Nat.le_refl _
  | n + 1 => by
    have := ctB_le c n
    unfold ctB
    split <;> omega
def blkB (T : Tn) (i : Nat) : Bool := decide (3 ≤ T (18 + i))
def ctT (T : Tn) : Nat := ctB (blkB T) 25
theorem le2 {x : Int32} : ¬ x ≤ 2 ↔ 3 ≤ x := by
  rw [i32le, i32le]
  have h2 : (2 : Int32).toInt = 2 := by decide
  have h3 : (3 : Int32).toInt = 3 := by decide
  omega
theorem or0 (x : Int32) : x ||| 0 = x := by
  apply Int32.toBitVec_inj.1
  show x.toBitVec ||| 0#32 = x.toBitVec
  simp
theorem bk_bits {v : Mm} {l : Nat} : bkF v l = bitsF (blkB (lvT l v)) 25 := by
  have key : ∀ n, n ≤ 25 → itr (fun i s => s ||| (if v 82 (43 * l + 18 + i) ≤ 2 then 0 else bit1 i)) n 0 = bitsF (blkB (lvT l v)) n := by
    intro n
    induction n with
    | zero => intro _; rfl
    | succ n ih =>
      intro h
      show itr (fun i s => s ||| (if v 82 (43 * l + 18 + i) ≤ 2 then 0 else bit1 i)) n 0 ||| (if v 82 (43 * l + 18 + n) ≤ 2 then 0 else bit1 n) = (if blkB (lvT l v) n then bitsF (blkB (lvT l v)) n ||| bit1 n else bitsF (blkB (lvT l v)) n)
      rw [ih (by omega)]
      unfold blkB
      rw [lvT_at (show 18 + n < 43 by omega), ← Nat.add_assoc]
      by_cases q : v 82 (43 * l + 18 + n) ≤ 2
      · rw [if_pos q, or0, if_neg (by rw [decide_eq_true_iff]; exact fun z => le2.mpr z q)]
      · rw [if_neg q, if_pos (by rw [decide_eq_true_iff]; exact le2.mp q)]
  exact key 25 (Nat.le_refl _)
theorem on_bk {v : Mm} {l : Nat} : onF (bkF v l) = nI (ctT (lvT l v)) := by rw [bk_bits, bits_on]; rfl
theorem SR.bk {v : Mm} {n : Nat} {K H T : Tn} (h : SR v 12 K H T n) : blk v = nI (ctT T) := by
  unfold blk
  rw [bitsF_congr (d := blkB T) 25 (fun i hi => by unfold blkB; rw [h.2.2.1 i hi]), bits_bc]
  rfl
theorem lN_z : lN 0 = 0 := rfl
theorem gcR_n : ∀ (k m x y : Nat), y < 2 ^ k → x < 2 ^ 62 → k ≤ 62 → 2 * k ≤ m → gcR m (lN x) (lN y) = lN (Nat.gcd x y)
  | 0, m, x, y, hy, _, _, _ => by
    have : y = 0 := by simpa using hy
    subst this
    cases m with
    | zero => show lN x = _; rw [Nat.gcd_zero_right]
    | succ m => show (if lN 0 = 0 then lN x else _) = _; rw [if_pos lN_z, Nat.gcd_zero_right]
  | k + 1, m, x, y, hy, hx, hk, hm => by
    obtain ⟨m', rfl⟩ : ∃ m', m = m' + 2 := ⟨m - 2, by omega⟩
    have hp : 2 ^ (k + 1) ≤ 2 ^ 62 := Nat.pow_le_pow_right (by decide) hk
    by_cases y0 : y = 0
    · subst y0
      show (if lN 0 = 0 then lN x else _) = _
      rw [if_pos lN_z, Nat.gcd_zero_right]
    · have hne : ¬ lN y = 0 := fun z => y0 ((pk_lEQ (b := 0) (by omega) (by decide)).mp z)
      show (if lN y = 0 then lN x else gcR (m' + 1) (lN y) (rem64 (lN x) (lN y))) = _
      rw [if_neg hne]
      have hr : rem64 (lN x) (lN y) = lN (x % y) := pk_lRem (by omega) (by omega) (by omega)
      rw [hr]
      have hlt : x % y < y := Nat.mod_lt _ (by omega)
      by_cases r0 : x % y = 0
      · rw [r0]
        show (if lN 0 = 0 then lN y else _) = _
        rw [if_pos lN_z, Nat.gcd_comm, Nat.gcd_rec, r0, Nat.gcd_zero_left]
      · have hne2 : ¬ lN (x % y) = 0 := fun z => r0 ((pk_lEQ (b := 0) (by omega) (by decide)).mp z)
        show (if lN (x % y) = 0 then lN y else gcR m' (lN (x % y)) (rem64 (lN y) (lN (x % y)))) = _
        rw [if_neg hne2]
        have hr2 : rem64 (lN y) (lN (x % y)) = lN (y % (x % y)) := pk_lRem (by omega) (by omega) (by omega)
        rw [hr2]
        have h1 : y % (x % y) < x % y := Nat.mod_lt _ (by omega)
        have h2 : y % (x % y) + (x % y) ≤ y := by
          have d := Nat.div_add_mod y (x % y)
          have d2 : 1 ≤ y / (x % y) := (Nat.one_le_div_iff (by omega)).mpr (by omega)
          have d3 : (x % y) * 1 ≤ (x % y) * (y / (x % y)) := Nat.mul_le_mul_left _ d2
          omega
        rw [gcR_n k m' (x % y) (y % (x % y)) (by rw [Nat.pow_succ] at hy; omega) (by omega) (by omega) (by omega)]
        congr 1
        rw [Nat.gcd_comm x y, Nat.gcd_rec y x, Nat.gcd_comm, ← Nat.gcd_rec (x % y) y]
theorem tf_n {s t : Nat} {u : Int32} (hs : s < 2 ^ 31) (ht0 : 0 < t) (ht : t < 2 ^ 31) : tfF (lN s) (lN t) u = if ¬ u = 0 then nI s / nI (Nat.gcd s t) else nI t / nI (Nat.gcd s t) := by
  have hg : gcR 100 (lN s) (lN t) = lN (Nat.gcd s t) := gcR_n 31 100 s t ht (by omega) (by decide) (by decide)
  have g0 : 0 < Nat.gcd s t := Nat.gcd_pos_of_pos_right s ht0
  have gl : Nat.gcd s t ≤ t := Nat.gcd_le_right s ht0
  unfold tfF
  rw [hg, if_pos (by rw [show (1 : Int64) = lN 1 from rfl, pk_lLE (by decide) (by omega)]; exact g0)]
  by_cases c : u = 0
  · rw [if_pos c, if_neg (fun z => z c), pk_lDiv (by omega) g0 (by omega), lN_i, pk_div ht g0 (by omega)]
  · rw [if_neg c, if_pos c, pk_lDiv (by omega) g0 (by omega), lN_i, pk_div hs g0 (by omega)]
