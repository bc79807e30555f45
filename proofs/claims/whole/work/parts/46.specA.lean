/-! a sheet that is copied -/
theorem cpI_at {S O : Nat} {v : Mm} (hne : ∀ i j, i < 7 → j < 7 → S + i ≠ O + j) : ∀ n, n ≤ 4 → ∀ a j, cpI S O n v a j = if S + 3 ≤ a ∧ a < S + 3 + n ∧ j < 7 then v (O + (a - S)) j else v a j
  | 0, _, a, j => by
    rw [if_neg (fun q => by omega)]
    rfl
  | n + 1, h, a, j => by
    have ih := cpI_at (v := v) hne n (by omega)
    show pcM (cpI S O n v) (S + 3 + n) (O + 3 + n) a j = _
    rw [pcM_at]
    by_cases e : a = S + 3 + n ∧ j < 7
    · rw [if_pos e, if_pos ⟨by omega, by omega, e.2⟩, ih, if_neg (fun q => hne (O + 3 + n - S) (3 + n) (by omega) (by omega) (by omega)), e.1]
      congr 1
      omega
    · rw [if_neg e, ih]
      by_cases q : S + 3 ≤ a ∧ a < S + 3 + n ∧ j < 7
      · rw [if_pos q, if_pos ⟨q.1, by omega, q.2.2⟩]
      · rw [if_neg q, if_neg (fun z => by
          rcases Nat.lt_or_ge a (S + 3 + n) with y | y
          · exact q ⟨z.1, y, z.2.2⟩
          · exact e ⟨by omega, z.2.2⟩)]
theorem cpM_at {v : Mm} {S O n : Nat} (hS : Sh S) (hO : Sh O) (hne : S ≠ O) (hn : n ≤ 4) (a j : Nat) : cpM v S O n a j = if a = S ∧ j = 2 then v O 2 else if a = S ∧ j = 3 then v O 3 else if a = S + 2 ∧ j < 25 then v (O + 2) j else if S + 3 ≤ a ∧ a < S + 3 + n ∧ j < 7 then v (O + (a - S)) j else v a j := by
  have hd : ∀ i j, i < 7 → j < 7 → S + i ≠ O + j := fun i j hi hj => sh_ne hS hO hne hi hj
  have hd2 : ∀ i j, i < 7 → j < 7 → O + i ≠ S + j := fun i j hi hj => sh_ne hO hS (Ne.symm hne) hi hj
  unfold cpM
  rw [cpI_at hd n hn]
  have c0 : ∀ a j, cp0 v S O a j = if a = S ∧ j = 2 then v O 2 else if a = S ∧ j = 3 then v O 3 else if a = S + 2 ∧ j < 25 then v (O + 2) j else v a j := by
    intro a j
    unfold cp0 updA va_cpy
    by_cases h1 : a = S + 2
    · subst h1
      have z1 : ¬ (S + 2 = S ∧ j = 2) := fun q => by omega
      have z2 : ¬ (S + 2 = S ∧ j = 3) := fun q => by omega
      rw [if_pos rfl, if_neg z1, if_neg z2]
      by_cases h2 : j < 25
      · have z3 : 0 ≤ j ∧ j < 0 + 25 := ⟨by omega, by omega⟩
        have z4 : S + 2 = S + 2 ∧ j < 25 := ⟨rfl, h2⟩
        rw [if_pos z3, if_pos z4]
        congr 1
        omega
      · have z3 : ¬ (0 ≤ j ∧ j < 0 + 25) := fun q => by omega
        have z4 : ¬ (S + 2 = S + 2 ∧ j < 25) := fun q => by omega
        rw [if_neg z3, if_neg z4]
    · rw [if_neg h1]
      unfold upd2
      by_cases h2 : a = S
      · subst h2
        by_cases h3 : j = 3
        · subst h3; simp
        · by_cases h4 : j = 2
          · subst h4; simp
          · simp [h3, h4]
      · simp [h1, h2]
  by_cases q : S + 3 ≤ a ∧ a < S + 3 + n ∧ j < 7
  · rw [if_pos q, c0, if_neg (fun z => hd2 (a - S) 0 (by omega) (by omega) (by omega)), if_neg (fun z => hd2 (a - S) 0 (by omega) (by omega) (by omega)), if_neg (fun z => hd2 (a - S) 2 (by omega) (by omega) (by omega)), if_neg (fun z => by omega), if_neg (fun z => by omega), if_neg (fun z => by omega), if_pos q]
  · rw [if_neg q, c0, if_neg q]
theorem cpM_away {v : Mm} {S O n : Nat} (hS : Sh S) (hO : Sh O) (hne : S ≠ O) (hn : n ≤ 4) {a j : Nat} (h : a < S ∨ S + 7 ≤ a) : cpM v S O n a j = v a j := by
  rw [cpM_at hS hO hne hn, if_neg (fun q => by omega), if_neg (fun q => by omega), if_neg (fun q => by omega), if_neg (fun q => by omega)]
theorem cpM_2 {v : Mm} {S O n : Nat} (hS : Sh S) (hO : Sh O) (hne : S ≠ O) (hn : n ≤ 4) : cpM v S O n S 2 = v O 2 := by
  rw [cpM_at hS hO hne hn, if_pos ⟨rfl, rfl⟩]
theorem cpM_3 {v : Mm} {S O n : Nat} (hS : Sh S) (hO : Sh O) (hne : S ≠ O) (hn : n ≤ 4) : cpM v S O n S 3 = v O 3 := by
  rw [cpM_at hS hO hne hn, if_neg (fun q => absurd q.2 (by decide)), if_pos ⟨rfl, rfl⟩]
theorem cpM_ink {v : Mm} {S O n : Nat} (hS : Sh S) (hO : Sh O) (hne : S ≠ O) (hn : n ≤ 4) {j : Nat} (hj : j < 25) : cpM v S O n (S + 2) j = v (O + 2) j := by
  rw [cpM_at hS hO hne hn, if_neg (fun q => by omega), if_neg (fun q => by omega), if_pos ⟨rfl, hj⟩]
theorem cpM_pen {v : Mm} {S O n : Nat} (hS : Sh S) (hO : Sh O) (hne : S ≠ O) (hn : n ≤ 4) {p j : Nat} (hp : p < n) (hj : j < 7) : cpM v S O n (S + 3 + p) j = v (O + 3 + p) j := by
  rw [cpM_at hS hO hne hn, if_neg (fun q => by omega), if_neg (fun q => by omega), if_neg (fun q => by omega), if_pos ⟨by omega, by omega, hj⟩]
  congr 1
  omega
def CSt (v : Mm) (n : Nat) : Prop := n ≤ 4 ∧ v 5 2 = nI n ∧ ∀ p, p < n → PenOk v (8 + p) ∧ (v (8 + p) 6 = 0 ∨ v (8 + p) 6 = 1)
def WSt (v : Mm) (w : Nat) : Prop := v 3 1 = nI w ∧ w ≤ 8
def ASt (v : Mm) (f c : Nat) : Prop := v 38 1 = nI f ∧ f < 14 ∧ v 38 2 = nI c ∧ c ≤ 14
theorem s5 : Sh 5 := Or.inl rfl
theorem s12 : Sh 12 := Or.inr (Or.inl rfl)
theorem s19 : Sh 19 := Or.inr (Or.inr (Or.inl rfl))
theorem s26 : Sh 26 := Or.inr (Or.inr (Or.inr rfl))
/-- the trial sheet -/
def trM (v : Mm) (n : Nat) : Mm := cpM v 12 5 n
theorem trM_away {v : Mm} {n a j : Nat} (hn : n ≤ 4) (h : a < 12 ∨ 19 ≤ a) : trM v n a j = v a j := cpM_away s12 s5 (by decide) hn h
theorem trM_2 {v : Mm} {n : Nat} (hn : n ≤ 4) : trM v n 12 2 = v 5 2 := cpM_2 s12 s5 (by decide) hn
theorem trM_pen {v : Mm} {n p j : Nat} (hn : n ≤ 4) (hp : p < n) (hj : j < 7) : trM v n (15 + p) j = v (8 + p) j := cpM_pen s12 s5 (by decide) hn hp hj
theorem trM_ok {v : Mm} {n p : Nat} (h : CSt v n) (hp : p < n) : PenOk (trM v n) (15 + p) := by
  obtain ⟨h1, h2, h3⟩ := h
  obtain ⟨⟨a, b, c⟩, -⟩ := h3 p hp
  exact ⟨by rw [trM_pen h1 hp (by decide)]; exact a, by rw [trM_pen h1 hp (by decide)]; exact b, by rw [trM_pen h1 hp (by decide)]; exact c⟩
theorem trM_6 {v : Mm} {n p : Nat} (h : CSt v n) (hp : p < n) : trM v n (15 + p) 6 = 0 ∨ trM v n (15 + p) 6 = 1 := by
  rw [trM_pen h.1 hp (by decide)]
  exact (h.2.2 p hp).2
def nnS (v : Mm) (f c p : Nat) (y : Int32) : Mm := if c < 14 then pcM (actM (upd2 v 38 2 (nI (c + 1))) (40 + (f + c) % 14) 5 (nI p) y) (54 + (f + c) % 14) (5 + 3 + p) else pcM (actM (upd2 v 38 1 (nI ((f + 1) % 14))) (40 + f) 5 (nI p) y) (54 + f) (5 + 3 + p)
def nnN (v : Mm) (f c : Nat) (y : Int32) : Mm := if c < 14 then actM (upd2 v 38 2 (nI (c + 1))) (40 + (f + c) % 14) 5 (-9) y else actM (upd2 v 38 1 (nI ((f + 1) % 14))) (40 + f) 5 (-9) y
theorem c_note_s {f c p : Nat} {y : Int32} {v : Mm} {L : Lm} (hA : ASt v f c) (hp : p < 4) (hcp : nI p < v 5 2) (hb6 : v (5 + 3 + p) 6 = 0 ∨ v (5 + 3 + p) 6 = 1) : Fn yX1_note cX1_note 4 none 3 [.ref 38, .ref 5, .int (nI p), .int y] v L none (nnS v f c p y) L := by
  obtain ⟨a1, a2, a3, a4⟩ := hA
  unfold nnS
  by_cases h : c < 14
  · rw [if_pos h]; exact c_X1_note_sl s5 a1 a2 a3 h hp hcp hb6
  · rw [if_neg h]; exact c_X1_note_sf s5 a1 a2 (by rw [a3, show c = 14 by omega]; rfl) hp hcp hb6
theorem c_note_n {f c : Nat} {y : Int32} {v : Mm} {L : Lm} (hA : ASt v f c) : Fn yX1_note cX1_note 4 none 3 [.ref 38, .ref 5, .int (-9), .int y] v L none (nnN v f c y) L := by
  obtain ⟨a1, a2, a3, a4⟩ := hA
  unfold nnN
  by_cases h : c < 14
  · rw [if_pos h]; exact c_X1_note_nl s5 a1 a2 a3 h
  · rw [if_neg h]; exact c_X1_note_nf s5 a1 a2 (by rw [a3, show c = 14 by omega]; rfl)
theorem actM_away {v : Mm} {a S k j : Nat} {x y : Int32} (h : k ≠ a) : actM v a S x y k j = v k j := by
  unfold actM
  rw [u2_n (fun q => h q.1), u2_n (fun q => h q.1), u2_n (fun q => h q.1), u2_n (fun q => h q.1)]
theorem nnS_away {v : Mm} {f c p k j : Nat} {y : Int32} (hf : f < 14) (h : k < 38 ∨ 68 ≤ k) : nnS v f c p y k j = v k j := by
  unfold nnS
  split
  · rw [pcM_at, if_neg (fun q => by omega), actM_away (by omega), u2_n (fun q => by omega)]
  · rw [pcM_at, if_neg (fun q => by omega), actM_away (by omega), u2_n (fun q => by omega)]
theorem nnN_away {v : Mm} {f c k j : Nat} {y : Int32} (hf : f < 14) (h : k < 38 ∨ 68 ≤ k) : nnN v f c y k j = v k j := by
  unfold nnN
  split
  · rw [actM_away (by omega), u2_n (fun q => by omega)]
  · rw [actM_away (by omega), u2_n (fun q => by omega)]
theorem mvV_away {v : Mm} {S k : Nat} {e : Int32} {a j : Nat} (h1 : a ≠ S) (h2 : a ≠ k) (h3 : a ≠ S + 2) : mvV v S k e a j = v a j := by
  unfold mvV
  try dsimp only
  rw [u2_n (fun q => h1 q.1), stM_away h3, u2_n (fun q => h2 q.1), u2_n (fun q => h2 q.1)]
theorem folF_away {S k : Nat} {a j : Nat} (h1 : a ≠ S) (h2 : a ≠ k) (h3 : a ≠ S + 2) : ∀ {m i : Nat} {v : Mm}, (folF S k m i v).2 a j = v a j := by
  intro m
  induction m with
  | zero => intro i v; rfl
  | succ m ih =>
    intro i v
    unfold folF
    split
    · rfl
    · rw [ih, mvV_away h1 h2 h3]
theorem lk2 {y : Int32} {d a b : Int} (h0 : ¬ y = 0) (h1 : ¬ y = 1) : Op.lookupswitch.offset (#[(0, a), (1, b)] : Array (Int × Int)).toList d y.toInt = d := by
  have z0 : ¬ y.toInt = 0 := fun q => h0 (Int32.toInt_inj.mp (by rw [q]; rfl))
  have z1 : ¬ y.toInt = 1 := fun q => h1 (Int32.toInt_inj.mp (by rw [q]; rfl))
  simp [Op.lookupswitch.offset, z0, z1, Ne.symm z0, Ne.symm z1]
  try omega
