/-! PURE LAYER: floats and doubles, continued -/
theorem rr_p2 (f : FP.Core.Fmt) {c : Nat} {e : Int} (s : Bool) (hp : 2 ≤ f.p) (h1 : 2 ^ (f.p - 1) ≤ c) (h2 : c < 2 ^ f.p) (hq1 : f.qmin ≤ e + ((f.p : Int) - 1)) (hq2 : e + ((f.p : Int) - 1) ≤ f.qmax) :
    FP.Core.roundRatio f s (c * 2 ^ (f.p - 1)) 1 e = .fin s c (e + ((f.p : Int) - 1)) := by
  have p1 : 0 < 2 ^ (f.p - 1) := Nat.two_pow_pos _
  have pp : 2 ^ f.p = 2 * 2 ^ (f.p - 1) := by
    rw [← Nat.pow_succ', show (f.p - 1).succ = f.p by omega]
  have b1 : 2 ^ (2 * (f.p - 1)) ≤ c * 2 ^ (f.p - 1) := by
    rw [show 2 * (f.p - 1) = (f.p - 1) + (f.p - 1) by omega, Nat.pow_add]
    exact Nat.mul_le_mul_right _ h1
  have b2 : c * 2 ^ (f.p - 1) < 2 ^ (2 * (f.p - 1) + 1) := by
    rw [show 2 * (f.p - 1) + 1 = f.p + (f.p - 1) by omega, Nat.pow_add]
    exact Nat.mul_lt_mul_of_pos_right h2 p1
  have b0 : c * 2 ^ (f.p - 1) ≠ 0 := by
    have := Nat.two_pow_pos (2 * (f.p - 1))
    omega
  unfold FP.Core.roundRatio
  rw [if_neg b0]
  unfold FP.Core.roundAt FP.Core.quantum FP.Core.unitsNum FP.Core.unitsDen
  rw [ld_eq b1 b2 (b := 0) (den := 1) (by decide) (by decide), show (((2 * (f.p - 1) : Nat) : Int) - (0 : Nat)).toNat = 2 * (f.p - 1) by omega, show (-(((2 * (f.p - 1) : Nat) : Int) - (0 : Nat))).toNat = 0 by omega, if_pos (by omega), show max f.qmin (((2 * (f.p - 1) : Nat) : Int) - (0 : Nat) + e - ((f.p : Int) - 1)) = e + ((f.p : Int) - 1) by omega,
    show (e - (e + ((f.p : Int) - 1))).toNat = 0 by omega, show (e + ((f.p : Int) - 1) - e).toNat = f.p - 1 by omega, Nat.pow_zero, Nat.mul_one, Nat.one_mul, nr_ex _ _ p1]
  unfold FP.Core.settle FP.Core.bound
  rw [if_pos h2, if_pos hq2]
theorem rr_d2 (f : FP.Core.Fmt) {c : Nat} {e : Int} (s : Bool) (hp : 2 ≤ f.p) (h1 : 2 ^ (f.p - 1) ≤ c) (h2 : c < 2 ^ f.p) (hq1 : f.qmin ≤ e - ((f.p : Int) - 1)) (hq2 : e - ((f.p : Int) - 1) ≤ f.qmax) :
    FP.Core.roundRatio f s c (2 ^ (f.p - 1)) e = .fin s c (e - ((f.p : Int) - 1)) := by
  have p1 : 0 < 2 ^ (f.p - 1) := Nat.two_pow_pos _
  have pp : 2 ^ f.p = 2 * 2 ^ (f.p - 1) := by
    rw [← Nat.pow_succ', show (f.p - 1).succ = f.p by omega]
  have ee : f.p - 1 + 1 = f.p := by omega
  unfold FP.Core.roundRatio
  rw [if_neg (by omega)]
  unfold FP.Core.roundAt FP.Core.quantum FP.Core.unitsNum FP.Core.unitsDen
  rw [ld_eq (a := f.p - 1) (b := f.p - 1) h1 (by rw [ee]; exact h2) (Nat.le_refl _) (by rw [ee]; omega), Int.sub_self, show (0 : Int).toNat = 0 from rfl, show (-(0 : Int)).toNat = 0 from rfl, Nat.pow_zero, if_pos (by omega), show max f.qmin (0 + e - ((f.p : Int) - 1)) = e - ((f.p : Int) - 1) by omega,
    show (e - (e - ((f.p : Int) - 1))).toNat = f.p - 1 by omega, show (e - ((f.p : Int) - 1) - e).toNat = 0 by omega, Nat.pow_zero, Nat.mul_one, nr_ex _ _ p1]
  unfold FP.Core.settle FP.Core.bound
  rw [if_pos h2, if_pos hq2]
theorem n64_cg {E E' t t' : Nat} (h1 : E = E') (h2 : t = t') : n64 E t = n64 E' t' := by rw [h1, h2]
theorem quo_fin (f : FP.Core.Fmt) (c d : Nat) (q r : Int) (h : d ≠ 0) : FP.Core.quotient f (.fin false c q) (.fin false d r) = FP.Core.roundRatio f false c d (q - r) := by
  show (if d = 0 then (if c = 0 then FP.Core.Datum.nan else .inf (false != false)) else FP.Core.roundRatio f (false != false) c d (q - r)) = _
  rw [if_neg h]
  rfl
theorem mul64 {E t k : Nat} (ht : t < 4503599627370496) (h1 : 1 ≤ E) (h2 : E ≤ 1500) (k1 : 900 ≤ k) (k2 : k ≤ 1200) (h3 : 1024 ≤ E + k) : FP.Core.mul FP.Core.b64 (n64 E t) (n64 k 0) = n64 (E + k - 1023) t := by
  unfold FP.Core.mul
  rw [de64 ht (by omega) (by omega), de64 (by decide) (by omega) (by omega)]
  show FP.Core.encode FP.Core.b64 (FP.Core.roundRatio FP.Core.b64 (false != false) ((4503599627370496 + t) * 4503599627370496) 1 _) = _
  rw [show (false != false) = false from rfl]
  have := rr_p2 FP.Core.b64 (c := 4503599627370496 + t) (e := ((E : Int) - 1075) + ((k : Int) - 1075)) false (by decide) (by rw [fp64]; omega) (by rw [fp64]; omega) (by rw [fp64, fq64]; omega) (by rw [fp64, fx64]; omega)
  rw [fp64] at this
  rw [show (4503599627370496 : Nat) = 2 ^ (53 - 1) from rfl] at this ⊢
  rw [this, en64 (by omega) (by omega)]
  exact n64_cg (by omega) (by omega)
theorem quo64 {E t k : Nat} (ht : t < 4503599627370496) (h1 : 900 ≤ E) (h2 : E ≤ 1500) (k1 : 900 ≤ k) (k2 : k ≤ 1200) : FP.Core.div FP.Core.b64 (n64 E t) (n64 k 0) = n64 (E + 1023 - k) t := by
  unfold FP.Core.div
  rw [de64 ht (by omega) (by omega), de64 (by decide) (by omega) (by omega)]
  rw [quo_fin _ _ _ _ _ (by decide), show 4503599627370496 + 0 = 4503599627370496 from rfl]
  have := rr_d2 FP.Core.b64 (c := 4503599627370496 + t) (e := ((E : Int) - 1075) - ((k : Int) - 1075)) false (by decide) (by rw [fp64]; omega) (by rw [fp64]; omega) (by rw [fp64, fq64]; omega) (by rw [fp64, fx64]; omega)
  rw [fp64] at this
  rw [show (4503599627370496 : Nat) = 2 ^ (53 - 1) from rfl] at this ⊢
  rw [this, en64 (by omega) (by omega)]
  exact n64_cg (by omega) (by omega)
theorem cvt64 {E t : Nat} (ht : t < 8388608) (h1 : 1 ≤ E) (h2 : E < 255) : FP.Core.convert FP.Core.b32 FP.Core.b64 (n32 E t) = n64 (E + 896) (t * 536870912) := by
  unfold FP.Core.convert
  rw [de32 ht (by omega) (by omega)]
  show FP.Core.encode FP.Core.b64 (FP.Core.roundRatio FP.Core.b64 false (8388608 + t) 1 _) = _
  rw [rr_int FP.Core.b64 (a := 23) false (by omega) (by omega) (by decide) (by rw [fp64, fq64]; omega) (by rw [fp64, fx64]; omega), fp64, show 53 - 1 - 23 = 29 from rfl, en64 (by omega) (by omega)]
  exact n64_cg (by omega) (by omega)
theorem sub64 {t : Nat} (ht : t < 4503599627370496) : FP.Core.sub FP.Core.b64 (n64 1023 t) (n64 1023 0) = FP.Core.encode FP.Core.b64 (FP.Core.roundRatio FP.Core.b64 false t 1 (-52)) := by
  unfold FP.Core.sub
  rw [de64 ht (by decide) (by decide), de64 (by decide) (by decide) (by decide)]
  have hv : FP.Core.sumUnits false (4503599627370496 + t) ((1023 : Nat) - 1075) true (4503599627370496 + 0) ((1023 : Nat) - 1075) (min ((1023 : Nat) - 1075) ((1023 : Nat) - 1075)) = (t : Int) := by
    show (((4503599627370496 + t) * 2 ^ 0 : Nat) : Int) + -(((4503599627370496 + 0) * 2 ^ 0 : Nat) : Int) = t
    omega
  show FP.Core.encode FP.Core.b64 (FP.Core.round FP.Core.b64 (.fin (FP.Core.sumSign false true (FP.Core.sumUnits false (4503599627370496 + t) ((1023 : Nat) - 1075) true (4503599627370496 + 0) ((1023 : Nat) - 1075) (min ((1023 : Nat) - 1075) ((1023 : Nat) - 1075)))) (FP.Core.sumUnits false (4503599627370496 + t) ((1023 : Nat) - 1075) true (4503599627370496 + 0) ((1023 : Nat) - 1075) (min ((1023 : Nat) - 1075) ((1023 : Nat) - 1075))).natAbs (-52))) = _
  rw [hv, Int.natAbs_natCast]
  have hs : FP.Core.sumSign false true (t : Int) = false := by
    unfold FP.Core.sumSign
    by_cases h : (t : Int) = 0
    · rw [if_pos h]; rfl
    · rw [if_neg h, decide_eq_false (by omega)]
  rw [hs]
  rfl
/-- the order of numbers that are not negative is that of their bits -/
theorem cmp_nat (a b : Nat) : compare (a : Int) (b : Int) = if a < b then .lt else if a = b then .eq else .gt := by
  show compareOfLessAndEq (a : Int) (b : Int) = _
  unfold compareOfLessAndEq
  by_cases h : a < b
  · rw [if_pos h, if_pos (by omega)]
  · rw [if_neg h, if_neg (by omega)]
    by_cases h2 : a = b
    · rw [if_pos h2, if_pos (by omega)]
    · rw [if_neg h2, if_neg (by omega)]
def oN (a b : Nat) : Option Ordering := some (if a < b then .lt else if a = b then .eq else .gt)
theorem ord_fin (c d : Nat) (q r : Int) : FP.Core.order (.fin false c q) (.fin false d r) = oN (c * 2 ^ (q - min q r).toNat) (d * 2 ^ (r - min q r).toNat) := by
  show some (compare (((c * 2 ^ (q - min q r).toNat : Nat) : Int)) (((d * 2 ^ (r - min q r).toNat : Nat) : Int))) = _
  rw [cmp_nat]
  rfl
theorem oN_lt {a b : Nat} (h : a < b) : oN a b = some .lt := by unfold oN; rw [if_pos h]
theorem oN_gt {a b : Nat} (h : b < a) : oN a b = some .gt := by unfold oN; rw [if_neg (by omega), if_neg (by omega)]
theorem oN_eq {a b : Nat} (h : a = b) : oN a b = some .eq := by unfold oN; rw [if_neg (by omega), if_pos h]
/-- with the leading digit there, the order is first that of the exponents -/
theorem ord_nrm {M s t : Nat} {E F : Nat} (b : Int) (hs : s < M) (ht : t < M) : FP.Core.order (.fin false (M + s) ((E : Int) - b)) (.fin false (M + t) ((F : Int) - b)) = oN (E * M + s) (F * M + t) := by
  rw [ord_fin]
  rcases Nat.lt_trichotomy E F with h | h | h
  · rw [show ((E : Int) - b - min ((E : Int) - b) ((F : Int) - b)).toNat = 0 by omega, show ((F : Int) - b - min ((E : Int) - b) ((F : Int) - b)).toNat = (F - E - 1) + 1 by omega, Nat.pow_zero, Nat.mul_one]
    have : 1 ≤ 2 ^ (F - E - 1) := Nat.one_le_two_pow
    have h1 : (M + t) * 2 ≤ (M + t) * 2 ^ (F - E - 1 + 1) := Nat.mul_le_mul_left _ (by omega)
    have h2 : (E + 1) * M ≤ F * M := Nat.mul_le_mul_right _ h
    rw [Nat.add_mul, Nat.one_mul] at h2
    rw [oN_lt (by omega), oN_lt (by omega)]
  · subst h
    rw [Int.min_self, Int.sub_self, show (0 : Int).toNat = 0 from rfl, Nat.pow_zero, Nat.mul_one, Nat.mul_one]
    rcases Nat.lt_trichotomy s t with h | h | h
    · rw [oN_lt (by omega), oN_lt (by omega)]
    · rw [oN_eq (by omega), oN_eq (by omega)]
    · rw [oN_gt (by omega), oN_gt (by omega)]
  · rw [show ((F : Int) - b - min ((E : Int) - b) ((F : Int) - b)).toNat = 0 by omega, show ((E : Int) - b - min ((E : Int) - b) ((F : Int) - b)).toNat = (E - F - 1) + 1 by omega, Nat.pow_zero, Nat.mul_one]
    have : 1 ≤ 2 ^ (E - F - 1) := Nat.one_le_two_pow
    have h1 : (M + s) * 2 ≤ (M + s) * 2 ^ (E - F - 1 + 1) := Nat.mul_le_mul_left _ (by omega)
    have h2 : (F + 1) * M ≤ E * M := Nat.mul_le_mul_right _ h
    rw [Nat.add_mul, Nat.one_mul] at h2
    rw [oN_gt (by omega), oN_gt (by omega)]
theorem ord_0n {M t : Nat} (q r : Int) (hM : 0 < M) : FP.Core.order (.fin false 0 q) (.fin false (M + t) r) = some .lt := by
  rw [ord_fin, Nat.zero_mul]
  exact oN_lt (Nat.mul_pos (by omega) (Nat.two_pow_pos _))
theorem ord_n0 {M t : Nat} (q r : Int) (hM : 0 < M) : FP.Core.order (.fin false (M + t) q) (.fin false 0 r) = some .gt := by
  rw [ord_fin, Nat.zero_mul]
  exact oN_gt (Nat.mul_pos (by omega) (Nat.two_pow_pos _))
def P32 (x : Nat) : Prop := x = 0 ∨ ∃ E t, x = n32 E t ∧ t < 8388608 ∧ 1 ≤ E ∧ E < 255
def P64 (x : Nat) : Prop := x = 0 ∨ ∃ E t, x = n64 E t ∧ t < 4503599627370496 ∧ 1 ≤ E ∧ E < 2047
theorem cmp32 {x y : Nat} (hx : P32 x) (hy : P32 y) : FP.Core.cmp FP.Core.b32 x y = oN x y := by
  unfold FP.Core.cmp
  rcases hx with rfl | ⟨E, s, rfl, h1, h2, h3⟩
  · rcases hy with rfl | ⟨F, t, rfl, k1, k2, k3⟩
    · rw [de32_0]
      rfl
    · rw [de32_0, de32 k1 (by omega) (by omega), ord_0n _ _ (by decide)]
      exact (oN_lt (by unfold n32; omega)).symm
  · rcases hy with rfl | ⟨F, t, rfl, k1, k2, k3⟩
    · rw [de32_0, de32 h1 (by omega) (by omega), ord_n0 _ _ (by decide)]
      exact (oN_gt (by unfold n32; omega)).symm
    · rw [de32 h1 (by omega) (by omega), de32 k1 (by omega) (by omega)]
      exact ord_nrm 150 h1 k1
theorem cmp64 {x y : Nat} (hx : P64 x) (hy : P64 y) : FP.Core.cmp FP.Core.b64 x y = oN x y := by
  unfold FP.Core.cmp
  rcases hx with rfl | ⟨E, s, rfl, h1, h2, h3⟩
  · rcases hy with rfl | ⟨F, t, rfl, k1, k2, k3⟩
    · rw [de64_0]
      rfl
    · rw [de64_0, de64 k1 (by omega) (by omega), ord_0n _ _ (by decide)]
      exact (oN_lt (by unfold n64; omega)).symm
  · rcases hy with rfl | ⟨F, t, rfl, k1, k2, k3⟩
    · rw [de64_0, de64 h1 (by omega) (by omega), ord_n0 _ _ (by decide)]
      exact (oN_gt (by unfold n64; omega)).symm
    · rw [de64 h1 (by omega) (by omega), de64 k1 (by omega) (by omega)]
      exact ord_nrm 1075 h1 k1
