/-! PURE LAYER: floats and doubles -/
theorem fq32 : FP.Core.b32.qmin = -149 := by decide
theorem fx32 : FP.Core.b32.qmax = 104 := by decide
theorem ft32 : FP.Core.b32.tails = 8388608 := by decide
theorem fe32 : FP.Core.b32.exps = 256 := by decide
theorem fp32 : FP.Core.b32.p = 24 := rfl
theorem fq64 : FP.Core.b64.qmin = -1074 := by decide
theorem fx64 : FP.Core.b64.qmax = 971 := by decide
theorem ft64 : FP.Core.b64.tails = 4503599627370496 := by decide
theorem fe64 : FP.Core.b64.exps = 2048 := by decide
theorem fp64 : FP.Core.b64.p = 53 := rfl
theorem nr_ex (M d : Nat) (hd : 0 < d) : FP.Core.nearest (M * d) d = M := by
  unfold FP.Core.nearest
  rw [Nat.mul_mod_left, if_pos (by omega), Nat.mul_div_cancel _ hd]
theorem nr_ge {n d M : Nat} (hd : 0 < d) (h : M * d ≤ n) : M ≤ FP.Core.nearest n d := by
  unfold FP.Core.nearest
  have := (Nat.le_div_iff_mul_le hd).mpr h
  split
  · exact this
  · split <;> omega
theorem nr_le {n d M : Nat} (hd : 0 < d) (h : n < M * d) : FP.Core.nearest n d ≤ M := by
  unfold FP.Core.nearest
  have : n / d < M := (Nat.div_lt_iff_lt_mul hd).mpr h
  split
  · omega
  · split <;> omega
theorem ld_eq {num den a b : Nat} (h1 : 2 ^ a ≤ num) (h2 : num < 2 ^ (a + 1)) (h3 : 2 ^ b ≤ den) (h4 : den < 2 ^ (b + 1)) :
    FP.Core.leading num den = if den * 2 ^ ((a : Int) - b).toNat ≤ num * 2 ^ (-((a : Int) - b)).toNat then (a : Int) - b else (a : Int) - b - 1 := by
  have p1 : 0 < 2 ^ a := Nat.two_pow_pos a
  have p2 : 0 < 2 ^ b := Nat.two_pow_pos b
  have e1 : num.log2 = a := (Nat.log2_eq_iff (by omega)).mpr ⟨h1, h2⟩
  have e2 : den.log2 = b := (Nat.log2_eq_iff (by omega)).mpr ⟨h3, h4⟩
  unfold FP.Core.leading
  rw [e1, e2]
theorem rr_int (f : FP.Core.Fmt) {S a : Nat} {e : Int} (s : Bool) (h1 : 2 ^ a ≤ S) (h2 : S < 2 ^ (a + 1)) (ha : a + 1 ≤ f.p) (hq1 : f.qmin ≤ (a : Int) + e - ((f.p : Int) - 1)) (hq2 : (a : Int) + e - ((f.p : Int) - 1) ≤ f.qmax) :
    FP.Core.roundRatio f s S 1 e = .fin s (S * 2 ^ (f.p - 1 - a)) ((a : Int) + e - ((f.p : Int) - 1)) := by
  have p1 : 0 < 2 ^ a := Nat.two_pow_pos a
  unfold FP.Core.roundRatio
  rw [if_neg (by omega)]
  unfold FP.Core.roundAt FP.Core.quantum FP.Core.unitsNum FP.Core.unitsDen
  rw [ld_eq h1 h2 (b := 0) (den := 1) (by decide) (by decide), show ((a : Int) - (0 : Nat)).toNat = a by omega, show (-((a : Int) - (0 : Nat))).toNat = 0 by omega, if_pos (by omega), show max f.qmin ((a : Int) - (0 : Nat) + e - ((f.p : Int) - 1)) = (a : Int) + e - ((f.p : Int) - 1) by omega,
    show (e - ((a : Int) + e - ((f.p : Int) - 1))).toNat = f.p - 1 - a by omega, show ((a : Int) + e - ((f.p : Int) - 1) - e).toNat = 0 by omega]
  have := nr_ex (S * 2 ^ (f.p - 1 - a)) 1 (by decide)
  rw [Nat.mul_one] at this
  rw [show 1 * 2 ^ 0 = 1 from rfl, this]
  unfold FP.Core.settle FP.Core.bound
  have hlt : S * 2 ^ (f.p - 1 - a) < 2 ^ f.p := by
    have q := Nat.mul_lt_mul_of_pos_right h2 (Nat.two_pow_pos (f.p - 1 - a))
    rwa [← Nat.pow_add, show a + 1 + (f.p - 1 - a) = f.p by omega] at q
  rw [if_pos hlt, if_pos hq2]
theorem enN (f : FP.Core.Fmt) {c : Nat} {q : Int} (hc : f.tails ≤ c) : FP.Core.encode f (.fin false c q) = ((q - f.qmin).toNat + 1) * f.tails + (c - f.tails) := by
  unfold FP.Core.encode FP.Core.assemble
  show (if c < f.tails then _ else _) = _
  rw [if_neg (by omega), show false.toNat = 0 from rfl, Nat.zero_mul, Nat.zero_add]
theorem deN (f : FP.Core.Fmt) {E t : Nat} (ht : t < f.tails) (h0 : E ≠ 0) (hE : E < f.exps - 1) : FP.Core.decode f (E * f.tails + t) = .fin false (f.tails + t) (f.qmin + ((E : Int) - 1)) := by
  have hT : 0 < f.tails := by omega
  have e1 : (E * f.tails + t) / f.tails = E := by
    rw [Nat.mul_comm, Nat.mul_add_div hT, Nat.div_eq_of_lt ht, Nat.add_zero]
  have e2 : FP.Core.fieldE f (E * f.tails + t) = E := by
    unfold FP.Core.fieldE
    rw [e1, Nat.mod_eq_of_lt (by omega)]
  have e3 : FP.Core.fieldT f (E * f.tails + t) = t := by
    unfold FP.Core.fieldT
    rw [Nat.mul_comm, Nat.mul_add_mod, Nat.mod_eq_of_lt ht]
  have e4 : FP.Core.fieldS f (E * f.tails + t) = false := by
    unfold FP.Core.fieldS
    rw [e1, Nat.div_eq_of_lt (by omega)]
    rfl
  unfold FP.Core.decode
  rw [e2, e3, e4, if_neg (by omega), if_neg h0]
def n32 (E t : Nat) : Nat := E * 8388608 + t
def n64 (E t : Nat) : Nat := E * 4503599627370496 + t
theorem de32 {E t : Nat} (ht : t < 8388608) (h0 : 0 < E) (hE : E < 255) : FP.Core.decode FP.Core.b32 (n32 E t) = .fin false (8388608 + t) ((E : Int) - 150) := by
  have := deN FP.Core.b32 (E := E) (t := t) (by rw [ft32]; exact ht) (by omega) (by rw [fe32]; exact hE)
  rw [ft32, fq32] at this
  rw [show n32 E t = E * 8388608 + t from rfl, this]
  congr 1
  omega
theorem de64 {E t : Nat} (ht : t < 4503599627370496) (h0 : 0 < E) (hE : E < 2047) : FP.Core.decode FP.Core.b64 (n64 E t) = .fin false (4503599627370496 + t) ((E : Int) - 1075) := by
  have := deN FP.Core.b64 (E := E) (t := t) (by rw [ft64]; exact ht) (by omega) (by rw [fe64]; exact hE)
  rw [ft64, fq64] at this
  rw [show n64 E t = E * 4503599627370496 + t from rfl, this]
  congr 1
  omega
theorem en32 {c : Nat} {q : Int} (hc : 8388608 ≤ c) (hq : -149 ≤ q) : FP.Core.encode FP.Core.b32 (.fin false c q) = n32 (q + 150).toNat (c - 8388608) := by
  rw [enN FP.Core.b32 (by rw [ft32]; exact hc), ft32, fq32, show (q - -149).toNat + 1 = (q + 150).toNat by omega]
  rfl
theorem en64 {c : Nat} {q : Int} (hc : 4503599627370496 ≤ c) (hq : -1074 ≤ q) : FP.Core.encode FP.Core.b64 (.fin false c q) = n64 (q + 1075).toNat (c - 4503599627370496) := by
  rw [enN FP.Core.b64 (by rw [ft64]; exact hc), ft64, fq64, show (q - -1074).toNat + 1 = (q + 1075).toNat by omega]
  rfl
theorem de32_0 : FP.Core.decode FP.Core.b32 0 = .fin false 0 (-149) := by decide +kernel
theorem de64_0 : FP.Core.decode FP.Core.b64 0 = .fin false 0 (-1074) := by decide +kernel
theorem mul_le_pow {S a k : Nat} (h1 : 2 ^ a ≤ S) (h : a ≤ k) : 2 ^ k ≤ S * 2 ^ (k - a) := by
  have := Nat.mul_le_mul_right (2 ^ (k - a)) h1
  rwa [← Nat.pow_add, show a + (k - a) = k by omega] at this
theorem mul_lt_pow {S a k : Nat} (h2 : S < 2 ^ (a + 1)) (h : a ≤ k) : S * 2 ^ (k - a) < 2 ^ (k + 1) := by
  have := Nat.mul_lt_mul_of_pos_right h2 (Nat.two_pow_pos (k - a))
  rwa [← Nat.pow_add, show a + 1 + (k - a) = k + 1 by omega] at this
theorem i32_n {S a : Nat} (h1 : 2 ^ a ≤ S) (h2 : S < 2 ^ (a + 1)) (ha : a ≤ 23) : FP.Core.fromInt FP.Core.b32 (S : Int) = n32 (a + 127) (S * 2 ^ (23 - a) - 8388608) := by
  unfold FP.Core.fromInt FP.Core.ofInt FP.Core.round
  show FP.Core.encode _ (FP.Core.roundRatio FP.Core.b32 (decide ((S : Int) < 0)) ((S : Int).natAbs) 1 0) = _
  rw [decide_eq_false (by omega), Int.natAbs_natCast, rr_int FP.Core.b32 false h1 h2 (by rw [fp32]; omega) (by rw [fq32, fp32]; omega) (by rw [fx32, fp32]; omega), fp32]
  have := mul_le_pow h1 ha
  rw [en32 (by exact this) (by omega), show ((a : Int) + 0 - ((24 : Nat) - 1) + 150).toNat = a + 127 by omega]
theorem i64_n {S a : Nat} (h1 : 2 ^ a ≤ S) (h2 : S < 2 ^ (a + 1)) (ha : a ≤ 52) : FP.Core.fromInt FP.Core.b64 (S : Int) = n64 (a + 1023) (S * 2 ^ (52 - a) - 4503599627370496) := by
  unfold FP.Core.fromInt FP.Core.ofInt FP.Core.round
  show FP.Core.encode _ (FP.Core.roundRatio FP.Core.b64 (decide ((S : Int) < 0)) ((S : Int).natAbs) 1 0) = _
  rw [decide_eq_false (by omega), Int.natAbs_natCast, rr_int FP.Core.b64 false h1 h2 (by rw [fp64]; omega) (by rw [fq64, fp64]; omega) (by rw [fx64, fp64]; omega), fp64]
  have := mul_le_pow h1 ha
  rw [en64 (by exact this) (by omega), show ((a : Int) + 0 - ((53 : Nat) - 1) + 1075).toNat = a + 1023 by omega]
/-- a quotient of two numbers of the same leading digit -/
theorem rr_quo (f : FP.Core.Fmt) {A B : Nat} {e : Int} (hp : 2 ≤ f.p) (a1 : 2 ^ (f.p - 1) ≤ A) (a2 : A < 2 ^ f.p) (b1 : 2 ^ (f.p - 1) ≤ B) (b2 : B < 2 ^ f.p) (hq1 : f.qmin ≤ e - (f.p : Int)) (hq2 : e - (f.p : Int) + 2 ≤ f.qmax) :
    ∃ c q, FP.Core.roundRatio f false A B e = .fin false c q ∧ 2 ^ (f.p - 1) ≤ c ∧ c < 2 ^ f.p ∧ e - (f.p : Int) ≤ q ∧ q ≤ e - (f.p : Int) + 2 := by
  have p1 : 0 < 2 ^ (f.p - 1) := Nat.two_pow_pos _
  have pp : 2 ^ f.p = 2 * 2 ^ (f.p - 1) := by
    rw [← Nat.pow_succ', show (f.p - 1).succ = f.p by omega]
  have ee : f.p - 1 + 1 = f.p := by omega
  have key : ∀ (k : Int) (j : Nat), (k = 0 ∧ j = f.p - 1 ∧ B ≤ A) ∨ (k = -1 ∧ j = f.p ∧ A < B) → FP.Core.leading A B = k →
      ∃ c q, FP.Core.roundRatio f false A B e = .fin false c q ∧ 2 ^ (f.p - 1) ≤ c ∧ c < 2 ^ f.p ∧ e - (f.p : Int) ≤ q ∧ q ≤ e - (f.p : Int) + 2 := by
    intro k j hk hl
    unfold FP.Core.roundRatio
    rw [if_neg (by omega)]
    unfold FP.Core.roundAt FP.Core.quantum FP.Core.unitsNum FP.Core.unitsDen
    rw [hl, show max f.qmin (k + e - ((f.p : Int) - 1)) = k + e - ((f.p : Int) - 1) by omega, show (e - (k + e - ((f.p : Int) - 1))).toNat = j by omega, show (k + e - ((f.p : Int) - 1) - e).toNat = 0 by omega, Nat.pow_zero, Nat.mul_one]
    have g1 : 2 ^ (f.p - 1) * B ≤ A * 2 ^ j := by
      rcases hk with ⟨-, rfl, h⟩ | ⟨-, rfl, h⟩
      · rw [Nat.mul_comm]
        exact Nat.mul_le_mul_right _ h
      · rw [pp, ← Nat.mul_assoc, Nat.mul_comm _ B]
        refine Nat.mul_le_mul_right _ ?_
        omega
    have g2 : A * 2 ^ j < 2 ^ f.p * B := by
      rcases hk with ⟨-, rfl, h⟩ | ⟨-, rfl, h⟩
      · rw [pp, Nat.mul_comm (2 * _) B, ← Nat.mul_assoc]
        refine Nat.mul_lt_mul_of_pos_right ?_ p1
        omega
      · rw [Nat.mul_comm (2 ^ f.p) B]
        exact Nat.mul_lt_mul_of_pos_right h (Nat.two_pow_pos _)
    have c1 := nr_ge (by omega) g1
    have c2 := nr_le (by omega) g2
    generalize FP.Core.nearest (A * 2 ^ j) B = c at *
    unfold FP.Core.settle FP.Core.bound
    by_cases hc : c < 2 ^ f.p
    · rw [if_pos hc, if_pos (by omega)]
      exact ⟨_, _, rfl, c1, hc, by omega, by omega⟩
    · rw [if_neg hc, if_pos (by omega)]
      exact ⟨_, _, rfl, Nat.le_refl _, by unfold FP.Core.Fmt.tails; omega, by omega, by omega⟩
  have hl := ld_eq (num := A) (den := B) (a := f.p - 1) (b := f.p - 1) a1 (by rw [ee]; exact a2) b1 (by rw [ee]; exact b2)
  rw [Int.sub_self, show (0 : Int).toNat = 0 from rfl, show (-(0 : Int)).toNat = 0 from rfl, Nat.pow_zero, Nat.mul_one, Nat.mul_one] at hl
  by_cases h : B ≤ A
  · rw [if_pos h] at hl
    exact key 0 (f.p - 1) (Or.inl ⟨rfl, rfl, h⟩) hl
  · rw [if_neg h] at hl
    exact key (-1) f.p (Or.inr ⟨rfl, rfl, by omega⟩) hl
theorem div32 {E1 t1 E2 t2 : Nat} (h1 : t1 < 8388608) (h2 : t2 < 8388608) (a1 : 100 ≤ E1) (b1 : E1 ≤ 160) (a2 : 100 ≤ E2) (b2 : E2 ≤ 160) : ∃ E t, FP.Core.div FP.Core.b32 (n32 E1 t1) (n32 E2 t2) = n32 E t ∧ t < 8388608 ∧ E1 + 126 ≤ E + E2 ∧ E + E2 ≤ E1 + 128 := by
  unfold FP.Core.div
  rw [de32 h1 (by omega) (by omega), de32 h2 (by omega) (by omega)]
  show ∃ E t, FP.Core.encode FP.Core.b32 (if 8388608 + t2 = 0 then _ else FP.Core.roundRatio FP.Core.b32 (false != false) (8388608 + t1) (8388608 + t2) _) = _ ∧ _
  rw [if_neg (by omega)]
  obtain ⟨c, q, e1, c1, c2, q1, q2⟩ := rr_quo FP.Core.b32 (A := 8388608 + t1) (B := 8388608 + t2) (e := ((E1 : Int) - 150) - ((E2 : Int) - 150)) (by decide) (by rw [fp32]; omega) (by rw [fp32]; omega) (by rw [fp32]; omega) (by rw [fp32]; omega) (by rw [fp32, fq32]; omega) (by rw [fp32, fx32]; omega)
  rw [fp32] at c1 c2 q1 q2
  rw [show (false != false) = false from rfl, e1, en32 (by omega) (by omega)]
  exact ⟨_, _, rfl, by omega, by omega, by omega⟩
theorem div64 {E1 t1 E2 t2 : Nat} (h1 : t1 < 4503599627370496) (h2 : t2 < 4503599627370496) (a1 : 900 ≤ E1) (b1 : E1 ≤ 1200) (a2 : 900 ≤ E2) (b2 : E2 ≤ 1200) : ∃ E t, FP.Core.div FP.Core.b64 (n64 E1 t1) (n64 E2 t2) = n64 E t ∧ t < 4503599627370496 ∧ E1 + 1022 ≤ E + E2 ∧ E + E2 ≤ E1 + 1024 := by
  unfold FP.Core.div
  rw [de64 h1 (by omega) (by omega), de64 h2 (by omega) (by omega)]
  show ∃ E t, FP.Core.encode FP.Core.b64 (if 4503599627370496 + t2 = 0 then _ else FP.Core.roundRatio FP.Core.b64 (false != false) (4503599627370496 + t1) (4503599627370496 + t2) _) = _ ∧ _
  rw [if_neg (by omega)]
  obtain ⟨c, q, e1, c1, c2, q1, q2⟩ := rr_quo FP.Core.b64 (A := 4503599627370496 + t1) (B := 4503599627370496 + t2) (e := ((E1 : Int) - 1075) - ((E2 : Int) - 1075)) (by decide) (by rw [fp64]; omega) (by rw [fp64]; omega) (by rw [fp64]; omega) (by rw [fp64]; omega) (by rw [fp64, fq64]; omega) (by rw [fp64, fx64]; omega)
  rw [fp64] at c1 c2 q1 q2
  rw [show (false != false) = false from rfl, e1, en64 (by omega) (by omega)]
  exact ⟨_, _, rfl, by omega, by omega, by omega⟩
