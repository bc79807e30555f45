/-! bits, how many there are, common divisors -/
theorem andI (a b : Nat) : nI a &&& nI b = nI (a &&& b) := by
  apply Int32.toBitVec_inj.1
  show BitVec.ofNat 32 a &&& BitVec.ofNat 32 b = BitVec.ofNat 32 (a &&& b)
  apply BitVec.eq_of_getLsbD_eq
  intro i hi
  simp [hi]
theorem orI (a b : Nat) : nI a ||| nI b = nI (a ||| b) := by
  apply Int32.toBitVec_inj.1
  show BitVec.ofNat 32 a ||| BitVec.ofNat 32 b = BitVec.ofNat 32 (a ||| b)
  apply BitVec.eq_of_getLsbD_eq
  intro i hi
  simp [hi]
theorem and_split {m c d : Nat} (x : Nat) (hc : c < 2 ^ m) : x &&& (2 ^ m * d + c) = 2 ^ m * (x / 2 ^ m &&& d) + (x % 2 ^ m &&& c) := by
  have h1 : x % 2 ^ m &&& c < 2 ^ m := Nat.lt_of_le_of_lt Nat.and_le_right hc
  apply Nat.eq_of_testBit_eq
  intro i
  rw [Nat.testBit_and, Nat.testBit_two_pow_mul_add _ hc, Nat.testBit_two_pow_mul_add _ h1]
  by_cases h : i < m
  · rw [if_pos h, if_pos h, Nat.testBit_and, Nat.testBit_mod_two_pow]
    simp [h]
  · rw [if_neg h, if_neg h, Nat.testBit_and, Nat.testBit_div_two_pow, show i - m + m = i by omega]
/-- the sum of K figures to the base B -/
def dsN (B : Nat) : Nat → Nat → Nat
  | 0, _ => 0
  | K + 1, N => N % B + dsN B K (N / B)
def dlN (B m : Nat) : Nat → Nat → Prop
  | 0, _ => True
  | K + 1, N => N % B ≤ m ∧ dlN B m K (N / B)
def mkN (k : Nat) : Nat → Nat
  | 0 => 0
  | K + 1 => 2 ^ (2 * k) * mkN k K + (2 ^ k - 1)
theorem stg {k m : Nat} (hm : 2 * m < 2 ^ (2 * k)) : ∀ (K N : Nat), dlN (2 ^ k) m (2 * K) N → N < 2 ^ (2 * k * K) →
    N = (N &&& mkN k K) + 2 ^ k * (N / 2 ^ k &&& mkN k K) ∧ dsN (2 ^ (2 * k)) K ((N &&& mkN k K) + (N / 2 ^ k &&& mkN k K)) = dsN (2 ^ k) (2 * K) N ∧ dlN (2 ^ (2 * k)) (2 * m) K ((N &&& mkN k K) + (N / 2 ^ k &&& mkN k K))
  | 0, N, _, hN => by
    have : N = 0 := by simpa using hN
    subst this
    refine ⟨?_, rfl, trivial⟩
    simp
  | K + 1, N, hd, hN => by
    have hpos : 0 < 2 ^ k := Nat.two_pow_pos k
    have h2 : 2 ^ (2 * k) = 2 ^ k * 2 ^ k := by rw [show 2 * k = k + k by omega, Nat.pow_add]
    have hlt : 2 ^ k - 1 < 2 ^ (2 * k) := by
      have : 2 ^ k ≤ 2 ^ (2 * k) := Nat.pow_le_pow_right (by decide) (by omega)
      omega
    have hd' : N % 2 ^ k ≤ m ∧ (N / 2 ^ k) % 2 ^ k ≤ m ∧ dlN (2 ^ k) m (2 * K) (N / 2 ^ k / 2 ^ k) := by
      rw [show 2 * (K + 1) = 2 * K + 1 + 1 by omega] at hd
      exact ⟨hd.1, hd.2.1, hd.2.2⟩
    have hN2 : N / 2 ^ k / 2 ^ k < 2 ^ (2 * k * K) := by
      rw [Nat.div_div_eq_div_mul, ← h2, Nat.div_lt_iff_lt_mul (Nat.two_pow_pos _), ← Nat.pow_add]
      rw [show 2 * k * K + 2 * k = 2 * k * (K + 1) by rw [Nat.mul_add, Nat.mul_one]]
      exact hN
    obtain ⟨i1, i2, i3⟩ := stg hm K (N / 2 ^ k / 2 ^ k) hd'.2.2 hN2
    have eA : N &&& mkN k (K + 1) = 2 ^ (2 * k) * (N / 2 ^ k / 2 ^ k &&& mkN k K) + N % 2 ^ k := by
      show N &&& (2 ^ (2 * k) * mkN k K + (2 ^ k - 1)) = _
      rw [and_split N hlt, Nat.and_two_pow_sub_one_eq_mod, Nat.div_div_eq_div_mul, ← h2]
      congr 1
      rw [h2]
      exact Nat.mod_mul_left_mod _ _ _
    have eB : N / 2 ^ k &&& mkN k (K + 1) = 2 ^ (2 * k) * (N / 2 ^ k / 2 ^ k / 2 ^ k &&& mkN k K) + (N / 2 ^ k) % 2 ^ k := by
      show N / 2 ^ k &&& (2 ^ (2 * k) * mkN k K + (2 ^ k - 1)) = _
      rw [and_split (N / 2 ^ k) hlt, Nat.and_two_pow_sub_one_eq_mod]
      congr 1
      · rw [Nat.div_div_eq_div_mul (N / 2 ^ k) (2 ^ k) (2 ^ k), ← h2]
      · rw [h2]
        exact Nat.mod_mul_left_mod _ _ _
    have d0 := Nat.div_add_mod N (2 ^ k)
    have d1 := Nat.div_add_mod (N / 2 ^ k) (2 ^ k)
    generalize eX : (N / 2 ^ k / 2 ^ k &&& mkN k K) = X at *
    generalize eY : (N / 2 ^ k / 2 ^ k / 2 ^ k &&& mkN k K) = Y at *
    have hs : 2 ^ (2 * k) * X + N % 2 ^ k + (2 ^ (2 * k) * Y + (N / 2 ^ k) % 2 ^ k) = 2 ^ (2 * k) * (X + Y) + (N % 2 ^ k + (N / 2 ^ k) % 2 ^ k) := by
      rw [Nat.mul_add]
      omega
    have hsm : N % 2 ^ k + (N / 2 ^ k) % 2 ^ k < 2 ^ (2 * k) := by omega
    have hm1 : (2 ^ (2 * k) * (X + Y) + (N % 2 ^ k + (N / 2 ^ k) % 2 ^ k)) % 2 ^ (2 * k) = N % 2 ^ k + (N / 2 ^ k) % 2 ^ k := by
      rw [Nat.mul_add_mod, Nat.mod_eq_of_lt hsm]
    have hm2 : (2 ^ (2 * k) * (X + Y) + (N % 2 ^ k + (N / 2 ^ k) % 2 ^ k)) / 2 ^ (2 * k) = X + Y := by
      rw [Nat.mul_add_div (Nat.two_pow_pos _), Nat.div_eq_of_lt hsm, Nat.add_zero]
    rw [eA, eB]
    refine ⟨?_, ?_, ?_⟩
    · have e1 : N = 2 ^ k * (2 ^ k * (N / 2 ^ k / 2 ^ k) + N / 2 ^ k % 2 ^ k) + N % 2 ^ k := by rw [d1]; exact d0.symm
      have e3 : 2 ^ k * (2 ^ k * (N / 2 ^ k / 2 ^ k) + N / 2 ^ k % 2 ^ k) = 2 ^ (2 * k) * (N / 2 ^ k / 2 ^ k) + 2 ^ k * (N / 2 ^ k % 2 ^ k) := by
        rw [Nat.mul_add, ← Nat.mul_assoc, ← h2]
      have e4 : 2 ^ (2 * k) * (N / 2 ^ k / 2 ^ k) = 2 ^ (2 * k) * X + 2 ^ (2 * k) * (2 ^ k * Y) := by
        rw [← Nat.mul_add, ← i1]
      have e5 : 2 ^ k * (2 ^ (2 * k) * Y + N / 2 ^ k % 2 ^ k) = 2 ^ (2 * k) * (2 ^ k * Y) + 2 ^ k * (N / 2 ^ k % 2 ^ k) := by
        rw [Nat.mul_add, Nat.mul_left_comm]
      rw [e5]
      omega
    · rw [hs]
      show (2 ^ (2 * k) * (X + Y) + (N % 2 ^ k + (N / 2 ^ k) % 2 ^ k)) % 2 ^ (2 * k) + dsN (2 ^ (2 * k)) K ((2 ^ (2 * k) * (X + Y) + (N % 2 ^ k + (N / 2 ^ k) % 2 ^ k)) / 2 ^ (2 * k)) = dsN (2 ^ k) (2 * (K + 1)) N
      rw [hm1, hm2, i2]
      show _ = N % 2 ^ k + ((N / 2 ^ k) % 2 ^ k + dsN (2 ^ k) (2 * K) (N / 2 ^ k / 2 ^ k))
      omega
    · rw [hs]
      show (2 ^ (2 * k) * (X + Y) + (N % 2 ^ k + (N / 2 ^ k) % 2 ^ k)) % 2 ^ (2 * k) ≤ 2 * m ∧ dlN (2 ^ (2 * k)) (2 * m) K ((2 ^ (2 * k) * (X + Y) + (N % 2 ^ k + (N / 2 ^ k) % 2 ^ k)) / 2 ^ (2 * k))
      rw [hm1, hm2]
      exact ⟨by omega, i3⟩
theorem dl_bit : ∀ K N, dlN 2 1 K N
  | 0, _ => trivial
  | K + 1, N => ⟨by omega, dl_bit K (N / 2)⟩
def pcN (N : Nat) : Nat → Nat
  | 0 => 0
  | K + 1 => pcN N K + N / 2 ^ K % 2
theorem pcN_lo (N : Nat) : ∀ K, pcN N (K + 1) = N % 2 + pcN (N / 2) K
  | 0 => by simp [pcN]
  | K + 1 => by
    show pcN N (K + 1) + N / 2 ^ (K + 1) % 2 = N % 2 + (pcN (N / 2) K + N / 2 / 2 ^ K % 2)
    rw [pcN_lo N K, Nat.div_div_eq_div_mul, show 2 * 2 ^ K = 2 ^ (K + 1) by rw [Nat.pow_succ, Nat.mul_comm]]
    omega
theorem ds_pc : ∀ K N, dsN 2 K N = pcN N K
  | 0, _ => rfl
  | K + 1, N => by
    rw [pcN_lo]
    show N % 2 + dsN 2 K (N / 2) = _
    rw [ds_pc K]
theorem mk1 : mkN 1 16 = 1431655765 := by decide
theorem mk2 : mkN 2 8 = 858993459 := by decide
theorem mk4 (x : Nat) : x &&& 252645135 = x % 16 + 256 * (x / 256 % 16) + 65536 * (x / 65536 % 16) + 16777216 * (x / 16777216 % 16) := by
  rw [show 252645135 = 2 ^ 8 * (2 ^ 8 * (2 ^ 8 * (2 ^ 4 - 1) + (2 ^ 4 - 1)) + (2 ^ 4 - 1)) + (2 ^ 4 - 1) by decide]
  rw [and_split x (by decide), and_split (x / 2 ^ 8) (by decide), and_split (x / 2 ^ 8 / 2 ^ 8) (by decide)]
  rw [Nat.and_two_pow_sub_one_eq_mod, Nat.and_two_pow_sub_one_eq_mod, Nat.and_two_pow_sub_one_eq_mod, Nat.and_two_pow_sub_one_eq_mod]
  omega
theorem bc_end {b : Nat} (h : dlN 16 4 8 b) (hb : b < 2 ^ 32) : ((b + b / 16 &&& 252645135) + (b + b / 16 &&& 252645135) / 256 + ((b + b / 16 &&& 252645135) + (b + b / 16 &&& 252645135) / 256) / 65536) % 64 = dsN 16 8 b ∧ b + b / 16 < 2 ^ 31 ∧ b < 2 ^ 31 := by
  obtain ⟨h0, h1, h2, h3, h4, h5, h6, h7, -⟩ := h
  rw [mk4]
  simp only [dsN]
  simp only [Nat.div_div_eq_div_mul, Nat.reduceMul] at *
  generalize e0 : b % 16 = f0 at *
  generalize e1 : b / 16 % 16 = f1 at *
  generalize e2 : b / 256 % 16 = f2 at *
  generalize e3 : b / 4096 % 16 = f3 at *
  generalize e4 : b / 65536 % 16 = f4 at *
  generalize e5 : b / 1048576 % 16 = f5 at *
  generalize e6 : b / 16777216 % 16 = f6 at *
  generalize e7 : b / 268435456 % 16 = f7 at *
  have hb2 : b = f0 + 16 * f1 + 256 * f2 + 4096 * f3 + 65536 * f4 + 1048576 * f5 + 16777216 * f6 + 268435456 * f7 := by omega
  clear e0 e1 e2 e3 e4 e5 e6 e7
  have q1 : b + b / 16 = (f0 + f1) + 16 * (f1 + f2) + 256 * (f2 + f3) + 4096 * (f3 + f4) + 65536 * (f4 + f5) + 1048576 * (f5 + f6) + 16777216 * (f6 + f7) + 268435456 * f7 := by omega
  have c0 : (b + b / 16) % 16 = f0 + f1 := by omega
  have c1 : (b + b / 16) / 256 % 16 = f2 + f3 := by omega
  have c2 : (b + b / 16) / 65536 % 16 = f4 + f5 := by omega
  have c3 : (b + b / 16) / 16777216 % 16 = f6 + f7 := by omega
  rw [c0, c1, c2, c3]
  refine ⟨by omega, by omega, by omega⟩
theorem bc_n {n : Nat} (hn : n < 2 ^ 31) : bcF (nI n) = nI (pcN n 32) := by
  obtain ⟨a1, a2, a3⟩ := stg (k := 1) (m := 1) (by decide) 16 n (dl_bit _ _) (by show n < 2 ^ 32; omega)
  simp only [show (2 : Nat) ^ 1 = 2 from rfl, show (2 : Nat) ^ (2 * 1) = 4 from rfl, Nat.mul_one, mk1, show 2 * 16 = 32 from rfl] at a1 a2 a3
  generalize eY : (n / 2 &&& 1431655765) = Y at *
  have ea : n - Y = (n &&& 1431655765) + Y := by omega
  rw [← ea] at a2 a3
  obtain ⟨b1, b2, b3⟩ := stg (k := 2) (m := 2) (by decide) 8 (n - Y) a3 (by show n - Y < 2 ^ 32; omega)
  simp only [show (2 : Nat) ^ 2 = 4 from rfl, show (2 : Nat) ^ (2 * 2) = 16 from rfl, mk2, show 2 * 8 = 16 from rfl, show 2 * 2 = 4 from rfl] at b1 b2 b3
  generalize eb : (n - Y &&& 858993459) + ((n - Y) / 4 &&& 858993459) = b at *
  have hb32 : b < 2 ^ 32 := by
    have z1 : (n - Y &&& 858993459) ≤ 858993459 := Nat.and_le_right
    have z2 : ((n - Y) / 4 &&& 858993459) ≤ 858993459 := Nat.and_le_right
    omega
  obtain ⟨c1, c2, c3⟩ := bc_end b3 hb32
  have cl : (b + b / 16 &&& 252645135) ≤ 252645135 := Nat.and_le_right
  unfold bcF
  dsimp only
  rw [pk_ushrN (by omega) 1 1 (by decide), show (1431655765 : Int32) = nI 1431655765 from rfl, andI, show 2 ^ 1 = 2 from rfl, eY, pk_sub (by omega)]
  rw [pk_ushrN (by omega) 2 2 (by decide), show (858993459 : Int32) = nI 858993459 from rfl, andI, andI, nI_add, show 2 ^ 2 = 4 from rfl, eb]
  rw [pk_ushrN (by omega) 4 4 (by decide), nI_add, show (252645135 : Int32) = nI 252645135 from rfl, andI, show 2 ^ 4 = 16 from rfl]
  generalize eC : (b + b / 16 &&& 252645135) = C at *
  rw [pk_ushrN (by omega) 8 8 (by decide), nI_add, show 2 ^ 8 = 256 from rfl]
  rw [pk_ushrN (by omega) 16 16 (by decide), nI_add, show 2 ^ 16 = 65536 from rfl]
  rw [pk_andN (by omega) 6 (by decide), show 2 ^ 6 = 64 from rfl, c1, b2, a2, ds_pc]
theorem shN : ∀ i, i < 31 → ((nI i &&& 31).toBitVec.smod 32).toNat = i := by decide
theorem bit_at {n i : Nat} (hn : n < 2 ^ 31) (hi : i < 31) : (nI n >>> (nI i &&& 31)) &&& 1 = nI (n / 2 ^ i % 2) := by
  have hd : n / 2 ^ i < 2 ^ 32 := Nat.lt_of_le_of_lt (Nat.div_le_self _ _) (by omega)
  rw [pk_shrN hn _ i (shN i hi), pk_andN hd 1 (by decide)]
theorem on_n' {n : Nat} (hn : n < 2 ^ 31) : ∀ K, K ≤ 31 → itr (fun i s => s + ((nI n >>> (nI i &&& 31)) &&& 1)) K 0 = nI (pcN n K)
  | 0, _ => rfl
  | K + 1, h => by
    show itr (fun i s => s + ((nI n >>> (nI i &&& 31)) &&& 1)) K 0 + ((nI n >>> (nI K &&& 31)) &&& 1) = nI (pcN n K + n / 2 ^ K % 2)
    rw [on_n' hn K (by omega), bit_at hn (by omega), nI_add]
theorem pc_hi {n K : Nat} (h : n < 2 ^ K) : ∀ j, pcN n (K + j) = pcN n K
  | 0 => rfl
  | j + 1 => by
    show pcN n (K + j) + n / 2 ^ (K + j) % 2 = pcN n K
    have h2 : 2 ^ K ≤ 2 ^ (K + j) := Nat.pow_le_pow_right (by decide) (by omega)
    rw [pc_hi h j, Nat.div_eq_of_lt (by omega)]
    rfl
theorem bc_on {n : Nat} (hn : n < 2 ^ 25) : bcF (nI n) = onF (nI n) := by
  unfold onF
  rw [bc_n (by omega), on_n' (by omega) 25 (by decide), show 32 = 25 + 7 from rfl, pc_hi hn]
def bN (c : Nat → Bool) : Nat → Nat
  | 0 => 0
  | n + 1 => bN c n + (if c n then 2 ^ n else 0)
def ctB (c : Nat → Bool) : Nat → Nat
  | 0 => 0
  | n + 1 => ctB c n + (if c n then 1 else 0)
theorem bN_lt (c : Nat → Bool) : ∀ n, bN c n < 2 ^ n
  | 0 => by decide
  | n + 1 => by
    have := bN_lt c n
    unfold bN
    rw [Nat.pow_succ]
    split <;> omega
theorem bit1_n : ∀ i, i < 31 → bit1 i = nI (2 ^ i) := by decide
theorem or_top {s n : Nat} (h : s < 2 ^ n) : s ||| 2 ^ n = s + 2 ^ n := by
  rw [Nat.or_comm, Nat.add_comm]
  have := Nat.two_pow_add_eq_or_of_lt h 1
  rw [Nat.mul_one] at this
  exact this.symm
theorem bits_n (c : Nat → Bool) : ∀ n, n ≤ 31 → bitsF c n = nI (bN c n)
  | 0, _ => rfl
  | n + 1, h => by
    show (if c n then bitsF c n ||| bit1 n else bitsF c n) = nI (bN c n + (if c n then 2 ^ n else 0))
    rw [bits_n c n (by omega)]
    by_cases q : c n = true
    · rw [if_pos q, if_pos q, bit1_n n (by omega), orI, or_top (bN_lt c n)]
    · rw [if_neg q, if_neg q, Nat.add_zero]
theorem bN_bit (c : Nat → Bool) {i : Nat} : ∀ n, i < n → bN c n / 2 ^ i % 2 = if c i then 1 else 0
  | 0, h => absurd h (Nat.not_lt_zero i)
  | n + 1, h => by
    unfold bN
    have hl := bN_lt c n
    by_cases e : i = n
    · subst e
      by_cases q : c i = true
      · rw [if_pos q, if_pos q, Nat.add_div_right _ (Nat.two_pow_pos i), Nat.div_eq_of_lt hl]
      · rw [if_neg q, if_neg q, Nat.add_zero, Nat.div_eq_of_lt hl]
    · have ih := bN_bit c n (i := i) (by omega)
      by_cases q : c n = true
      · rw [if_pos q]
        have e2 : 2 ^ n = 2 ^ i * (2 * 2 ^ (n - 1 - i)) := by
          rw [← Nat.mul_assoc, ← Nat.pow_succ, ← Nat.pow_add]
          congr 1
          omega
        rw [e2, Nat.add_mul_div_left _ _ (Nat.two_pow_pos i), Nat.add_mul_mod_self_left]
        exact ih
      · rw [if_neg q, Nat.add_zero]; exact ih
theorem pc_bN (c : Nat → Bool) {n : Nat} : ∀ K, K ≤ n → pcN (bN c n) K = ctB c K
  | 0, _ => rfl
  | K + 1, h => by
    show pcN (bN c n) K + bN c n / 2 ^ K % 2 = ctB c K + (if c K then 1 else 0)
    rw [pc_bN c K (by omega), bN_bit c n h]
theorem bits_bc (c : Nat → Bool) : bcF (bitsF c 25) = nI (ctB c 25) := by
  rw [bits_n c 25 (by decide), bc_on (bN_lt c 25)]
  unfold onF
  have := bN_lt c 25
  rw [on_n' (by omega) 25 (by decide), pc_bN c 25 (Nat.le_refl _)]
theorem bits_on (c : Nat → Bool) : onF (bitsF c 25) = nI (ctB c 25) := by
  rw [bits_n c 25 (by decide)]
  unfold onF
  have := bN_lt c 25
  rw [on_n' (by omega) 25 (by decide), pc_bN c 25 (Nat.le_refl _)]
theorem bitsF_congr {c d : Nat → Bool} : ∀ n, (∀ i, i < n → c i = d i) → bitsF c n = bitsF d n
  | 0, _ => rfl
  | n + 1, h => by
    show (if c n then bitsF c n ||| bit1 n else bitsF c n) = (if d n then bitsF d n ||| bit1 n else bitsF d n)
    rw [bitsF_congr n (fun i hi => h i (by omega)), h n (by omega)]
theorem ctB_congr {c d : Nat → Bool} : ∀ n, (∀ i, i < n → c i = d i) → ctB c n = ctB d n
  | 0, _ => rfl
  | n + 1, h => by
    show ctB c n + (if c n then 1 else 0) = ctB d n + (if d n then 1 else 0)
    rw [ctB_congr n (fun i hi => h i (by omega)), h n (by omega)]
theorem ctB_mono {c d : Nat → Bool} : ∀ n, (∀ i, i < n → c i = true → d i = true) → ctB c n ≤ ctB d n
  | 0, _ => Nat.le_refl _
  | n + 1, h => by
    have ih := ctB_mono n (fun i hi => h i (by omega))
    show ctB c n + (if c n then 1 else 0) ≤ ctB d n + (if d n then 1 else 0)
    by_cases q : c n = true
    · rw [if_pos q, if_pos (h n (by omega) q)]; omega
    · rw [if_neg q]; omega
theorem ctB_le (c : Nat → Bool) : ∀ n, ctB c n ≤ n
  | 0 => Nat.le_refl _
  | n + 1 => by
    have := ctB_le c n
    unfold ctB
    split <;> omega
def blkB (T : Tn) (i : Nat) : Bool := decide (3 ≤ T (18 + i))
def ctT (T : Tn) : Nat := ctB (blkB T) 25
theorem le2 {x : Int32} : ¬ x ≤ 2 ↔ 3 ≤ x := by
  rw [i32le, i32le]
  have h2 : (2 : Int32).toInt = 2 := by decide
  have h3 : (3 : Int32).toInt = 3 := by decide
  omega
theorem or0 (x : Int32) : x ||| 0 = x := by
  apply Int32.toBitVec_inj.1
  show x.toBitVec ||| 0#32 = x.toBitVec
  simp
theorem bk_bits {v : Mm} {l : Nat} : bkF v l = bitsF (blkB (lvT l v)) 25 := by
  have key : ∀ n, n ≤ 25 → itr (fun i s => s ||| (if v 82 (43 * l + 18 + i) ≤ 2 then 0 else bit1 i)) n 0 = bitsF (blkB (lvT l v)) n := by
    intro n
    induction n with
    | zero => intro _; rfl
    | succ n ih =>
      intro h
      show itr (fun i s => s ||| (if v 82 (43 * l + 18 + i) ≤ 2 then 0 else bit1 i)) n 0 ||| (if v 82 (43 * l + 18 + n) ≤ 2 then 0 else bit1 n) = (if blkB (lvT l v) n then bitsF (blkB (lvT l v)) n ||| bit1 n else bitsF (blkB (lvT l v)) n)
      rw [ih (by omega)]
      unfold blkB
      rw [lvT_at (show 18 + n < 43 by omega), ← Nat.add_assoc]
      by_cases q : v 82 (43 * l + 18 + n) ≤ 2
      · rw [if_pos q, or0, if_neg (by rw [decide_eq_true_iff]; exact fun z => le2.mpr z q)]
      · rw [if_neg q, if_pos (by rw [decide_eq_true_iff]; exact le2.mp q)]
  exact key 25 (Nat.le_refl _)
theorem on_bk {v : Mm} {l : Nat} : onF (bkF v l) = nI (ctT (lvT l v)) := by rw [bk_bits, bits_on]; rfl
theorem SR.blk {v : Mm} {n : Nat} {K H T : Tn} (h : SR v 12 K H T n) : blk v = nI (ctT T) := by
  unfold blk
  rw [bitsF_congr (d := blkB T) 25 (fun i hi => by unfold blkB; rw [h.2.2.1 i hi]), bits_bc]
  rfl
theorem gcR_n : ∀ (k m x y : Nat), y < 2 ^ k → x < 2 ^ 62 → k ≤ 62 → 2 * k ≤ m → gcR m (lN x) (lN y) = lN (Nat.gcd x y)
  | 0, m, x, y, hy, _, _, _ => by
    have : y = 0 := by simpa using hy
    subst this
    cases m with
    | zero => show lN x = _; rw [Nat.gcd_zero_right]
    | succ m => show (if lN 0 = 0 then lN x else _) = _; rw [if_pos rfl, Nat.gcd_zero_right]
  | k + 1, m, x, y, hy, hx, hk, hm => by
    obtain ⟨m', rfl⟩ : ∃ m', m = m' + 2 := ⟨m - 2, by omega⟩
    have hp : 2 ^ (k + 1) ≤ 2 ^ 62 := Nat.pow_le_pow_right (by decide) hk
    by_cases y0 : y = 0
    · subst y0
      show (if lN 0 = 0 then lN x else _) = _
      rw [if_pos rfl, Nat.gcd_zero_right]
    · have hne : ¬ lN y = 0 := fun z => y0 ((pk_lEQ (b := 0) (by omega) (by decide)).mp z)
      show (if lN y = 0 then lN x else gcR (m' + 1) (lN y) (rem64 (lN x) (lN y))) = _
      rw [if_neg hne]
      have hr : rem64 (lN x) (lN y) = lN (x % y) := pk_lRem (by omega) (by omega) (by omega)
      rw [hr]
      have hlt : x % y < y := Nat.mod_lt _ (by omega)
      by_cases r0 : x % y = 0
      · rw [r0]
        show (if lN 0 = 0 then lN y else _) = _
        rw [if_pos rfl, Nat.gcd_comm, Nat.gcd_rec, r0, Nat.gcd_zero_left]
      · have hne2 : ¬ lN (x % y) = 0 := fun z => r0 ((pk_lEQ (b := 0) (by omega) (by decide)).mp z)
        show (if lN (x % y) = 0 then lN y else gcR m' (lN (x % y)) (rem64 (lN y) (lN (x % y)))) = _
        rw [if_neg hne2]
        have hr2 : rem64 (lN y) (lN (x % y)) = lN (y % (x % y)) := pk_lRem (by omega) (by omega) (by omega)
        rw [hr2]
        have h1 : y % (x % y) < x % y := Nat.mod_lt _ (by omega)
        have h2 : y % (x % y) + (x % y) ≤ y := by
          have d := Nat.div_add_mod y (x % y)
          have d2 : 1 ≤ y / (x % y) := (Nat.one_le_div_iff (by omega)).mpr (by omega)
          have d3 : (x % y) * 1 ≤ (x % y) * (y / (x % y)) := Nat.mul_le_mul_left _ d2
          omega
        rw [gcR_n k m' (x % y) (y % (x % y)) (by rw [Nat.pow_succ] at hy; omega) (by omega) (by omega) (by omega)]
        congr 1
        rw [Nat.gcd_comm x y, Nat.gcd_rec y x, Nat.gcd_comm, ← Nat.gcd_rec (x % y) y]
theorem tf_n {s t : Nat} {u : Int32} (hs : s < 2 ^ 31) (ht0 : 0 < t) (ht : t < 2 ^ 31) : tfF (lN s) (lN t) u = if ¬ u = 0 then nI s / nI (Nat.gcd s t) else nI t / nI (Nat.gcd s t) := by
  have hg : gcR 100 (lN s) (lN t) = lN (Nat.gcd s t) := gcR_n 31 100 s t ht (by omega) (by decide) (by decide)
  have g0 : 0 < Nat.gcd s t := Nat.gcd_pos_of_pos_right s ht0
  have gl : Nat.gcd s t ≤ t := Nat.gcd_le_right s ht0
  unfold tfF
  rw [hg, if_pos (by rw [show (1 : Int64) = lN 1 from rfl, pk_lLE (by decide) (by omega)]; exact g0)]
  by_cases c : u = 0
  · rw [if_pos c, if_neg (fun z => z c), pk_lDiv (by omega) g0 (by omega), lN_i, pk_div ht g0 (by omega)]
  · rw [if_neg c, if_pos c, pk_lDiv (by omega) g0 (by omega), lN_i, pk_div hs g0 (by omega)]
