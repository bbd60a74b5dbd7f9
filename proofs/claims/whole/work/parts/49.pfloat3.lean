/-! PURE LAYER: the bits of a float and of a double -/
theorem u64N {n : Nat} (h : n < 2 ^ 64) : (UInt64.ofNat n).toNat = n := UInt64.toNat_ofNat_of_lt h
theorem u32N {n : Nat} (h : n < 2 ^ 32) : (UInt32.ofNat n).toNat = n := UInt32.toNat_ofNat_of_lt h
theorem P64_lt {x : Nat} (h : P64 x) : x < 9218868437227405312 := by
  rcases h with rfl | ⟨E, t, rfl, h1, h2, h3⟩
  · decide
  · unfold n64; omega
theorem P32_lt {x : Nat} (h : P32 x) : x < 2139095040 := by
  rcases h with rfl | ⟨E, t, rfl, h1, h2, h3⟩
  · decide
  · unfold n32; omega
theorem and63 {x : Nat} (h : x < 2 ^ 63) : x &&& 0x7fffffffffffffff = x := by
  rw [show (0x7fffffffffffffff : Nat) = 2 ^ 63 - 1 from rfl, Nat.and_two_pow_sub_one_eq_mod, Nat.mod_eq_of_lt h]
theorem and31 {x : Nat} (h : x < 2 ^ 31) : x &&& 0x7fffffff = x := by
  rw [show (0x7fffffff : Nat) = 2 ^ 31 - 1 from rfl, Nat.and_two_pow_sub_one_eq_mod, Nat.mod_eq_of_lt h]
theorem ok64 {x : Nat} (h : P64 x) : UInt64.ofNat x &&& 0x7fffffffffffffff ≤ 0x7ff0000000000000 := by
  have := P64_lt h
  rw [UInt64.le_iff_toNat_le, UInt64.toNat_and, u64N (by omega)]
  show x &&& 0x7fffffffffffffff ≤ 9218868437227405312
  rw [and63 (by omega)]
  omega
theorem ok32 {x : Nat} (h : P32 x) : UInt32.ofNat x &&& 0x7fffffff ≤ 0x7f800000 := by
  have := P32_lt h
  rw [UInt32.le_iff_toNat_le, UInt32.toNat_and, u32N (by omega)]
  show x &&& 0x7fffffff ≤ 2139095040
  rw [and31 (by omega)]
  omega
theorem gok_t' {α : Type} {p : Prop} [Decidable p] {x : Option α} (h : p) : gok p x = x := by
  unfold gok
  exact if_pos h
theorem dcm {x y : Nat} (hx : P64 x) (hy : P64 y) : FP.dcmp (UInt64.ofNat x) (UInt64.ofNat y) = oN x y := by
  have := P64_lt hx
  have := P64_lt hy
  show FP.Core.cmp FP.Core.b64 (UInt64.ofNat x).toNat (UInt64.ofNat y).toNat = _
  rw [u64N (by omega), u64N (by omega), cmp64 hx hy]
theorem fcm {x y : Nat} (hx : P32 x) (hy : P32 y) : FP.fcmp (UInt32.ofNat x) (UInt32.ofNat y) = oN x y := by
  have := P32_lt hx
  have := P32_lt hy
  show FP.Core.cmp FP.Core.b32 (UInt32.ofNat x).toNat (UInt32.ofNat y).toNat = _
  rw [u32N (by omega), u32N (by omega), cmp32 hx hy]
theorem n64_P {E t : Nat} (ht : t < 4503599627370496) (h1 : 1 ≤ E) (h2 : E < 2047) : P64 (n64 E t) := Or.inr ⟨E, t, rfl, ht, h1, h2⟩
theorem two64 : (4611686018427387904 : UInt64) = UInt64.ofNat (n64 1024 0) := by decide
theorem one64' : FP.dconst1 = UInt64.ofNat (n64 1023 0) := by decide
theorem zero64 : FP.dconst0 = UInt64.ofNat 0 := by decide
theorem dm2 {E t : Nat} (ht : t < 4503599627370496) (h1 : 1 ≤ E) (h2 : E ≤ 1500) : FP.dmul (UInt64.ofNat (n64 E t)) 4611686018427387904 = UInt64.ofNat (n64 (E + 1) t) := by
  show UInt64.ofNat (FP.Core.mul FP.Core.b64 (UInt64.ofNat (n64 E t)).toNat (4611686018427387904 : UInt64).toNat) = _
  rw [two64, u64N (by unfold n64; omega), u64N (by decide), mul64 ht h1 h2 (by decide) (by decide) (by omega), show E + 1024 - 1023 = E + 1 by omega]
theorem dd2 {E t : Nat} (ht : t < 4503599627370496) (h1 : 901 ≤ E) (h2 : E ≤ 1500) : FP.ddiv (UInt64.ofNat (n64 E t)) 4611686018427387904 = UInt64.ofNat (n64 (E - 1) t) := by
  show UInt64.ofNat (FP.Core.div FP.Core.b64 (UInt64.ofNat (n64 E t)).toNat (4611686018427387904 : UInt64).toNat) = _
  rw [two64, u64N (by unfold n64; omega), u64N (by decide), quo64 ht (by omega) h2 (by decide) (by decide), show E + 1023 - 1024 = E - 1 by omega]
theorem e1023 (l k : Nat) : 971 + l + (1023 + k) - 1023 = 971 + l + k := by omega
/-- what is left over the leading digit, as a whole number of 2^k-ths -/
theorem tail_of {t k : Nat} (ht : t < 4503599627370496) (hk : k ≤ 52) :
    ∃ x y, FP.dsub (UInt64.ofNat (n64 1023 t)) FP.dconst1 = UInt64.ofNat x ∧ P64 x ∧ FP.dmul (UInt64.ofNat x) (UInt64.ofNat (n64 (1023 + k) 0)) = UInt64.ofNat y ∧ P64 y ∧ FP.d2l (UInt64.ofNat y) = Int64.ofInt ((t / 2 ^ (52 - k) : Nat) : Int) := by
  have hs : FP.dsub (UInt64.ofNat (n64 1023 t)) FP.dconst1 = UInt64.ofNat (FP.Core.encode FP.Core.b64 (FP.Core.roundRatio FP.Core.b64 false t 1 (-52))) := by
    show UInt64.ofNat (FP.Core.sub FP.Core.b64 (UInt64.ofNat (n64 1023 t)).toNat FP.dconst1.toNat) = _
    rw [one64', u64N (by unfold n64; omega), u64N (by decide), sub64 ht]
  have hl : ∀ y, y < 2 ^ 64 → FP.d2l (UInt64.ofNat y) = Int64.ofInt (FP.Core.toInt (-2 ^ 63) (2 ^ 63 - 1) (FP.Core.decode FP.Core.b64 y)) := fun y hy => by
    show Int64.ofInt (FP.Core.toInt (-2 ^ 63) (2 ^ 63 - 1) (FP.Core.decode FP.Core.b64 (UInt64.ofNat y).toNat)) = _
    rw [u64N hy]
  have hm : ∀ x, x < 2 ^ 64 → FP.dmul (UInt64.ofNat x) (UInt64.ofNat (n64 (1023 + k) 0)) = UInt64.ofNat (FP.Core.mul FP.Core.b64 x (n64 (1023 + k) 0)) := fun x hx => by
    show UInt64.ofNat (FP.Core.mul FP.Core.b64 (UInt64.ofNat x).toNat (UInt64.ofNat (n64 (1023 + k) 0)).toNat) = _
    rw [u64N hx, u64N (by unfold n64; omega)]
  by_cases h0 : t = 0
  · subst h0
    have e0 : FP.Core.encode FP.Core.b64 (FP.Core.roundRatio FP.Core.b64 false 0 1 (-52)) = 0 := by decide +kernel
    rw [e0] at hs
    have em : FP.Core.mul FP.Core.b64 0 (n64 (1023 + k) 0) = 0 := by
      unfold FP.Core.mul
      rw [de64_0, de64 (by decide) (by omega) (by omega)]
      show FP.Core.encode FP.Core.b64 (FP.Core.roundRatio FP.Core.b64 (false != false) (0 * _) 1 _) = _
      rw [Nat.zero_mul]
      unfold FP.Core.roundRatio
      rw [if_pos rfl]
      decide +kernel
    refine ⟨0, 0, hs, Or.inl rfl, by rw [hm 0 (by decide), em], Or.inl rfl, ?_⟩
    rw [hl 0 (by decide), de64_0, Nat.zero_div]
    decide +kernel
  · have h1 : 2 ^ t.log2 ≤ t := Nat.log2_self_le h0
    have h2 : t < 2 ^ (t.log2 + 1) := Nat.lt_log2_self
    generalize t.log2 = l at h1 h2
    have hl51 : l < 52 := by
      rcases Nat.lt_or_ge l 52 with h | h
      · exact h
      · have := Nat.pow_le_pow_right (n := 2) (by decide) h
        omega
    have m1 : 4503599627370496 ≤ t * 2 ^ (52 - l) := mul_le_pow (k := 52) h1 (by omega)
    have m2 : t * 2 ^ (52 - l) < 9007199254740992 := mul_lt_pow (k := 52) h2 (by omega)
    have e1 : FP.Core.encode FP.Core.b64 (FP.Core.roundRatio FP.Core.b64 false t 1 (-52)) = n64 (971 + l) (t * 2 ^ (52 - l) - 4503599627370496) := by
      rw [rr_int FP.Core.b64 false h1 h2 (by rw [fp64]; omega) (by rw [fp64, fq64]; omega) (by rw [fp64, fx64]; omega), fp64, show 53 - 1 - l = 52 - l by omega, en64 m1 (by omega)]
      exact n64_cg (by omega) rfl
    rw [e1] at hs
    generalize hc : t * 2 ^ (52 - l) - 4503599627370496 = c at *
    have hP : P64 (n64 (971 + l) c) := n64_P (by omega) (by omega) (by omega)
    have hP2 : P64 (n64 (971 + l + k) c) := n64_P (by omega) (by omega) (by omega)
    have x1 := P64_lt hP
    have x2 := P64_lt hP2
    refine ⟨_, n64 (971 + l + k) c, hs, hP, ?_, hP2, ?_⟩
    · rw [hm _ (by omega), mul64 (by omega) (by omega) (by omega) (by omega) (by omega) (by omega), e1023]
    · rw [hl _ (by omega), de64 (by omega) (by omega) (by omega)]
      have z : ((4503599627370496 + c) * 2 ^ (((971 + l + k : Nat) : Int) - 1075).toNat) / 2 ^ (-(((971 + l + k : Nat) : Int) - 1075)).toNat = t / 2 ^ (52 - k) := by
        rw [show (((971 + l + k : Nat) : Int) - 1075).toNat = 0 by omega, Nat.pow_zero, Nat.mul_one, show (-(((971 + l + k : Nat) : Int) - 1075)).toNat = (52 - k) + (52 - l) by omega, Nat.pow_add, show 4503599627370496 + c = t * 2 ^ (52 - l) by omega, Nat.mul_div_mul_right _ _ (Nat.two_pow_pos _)]
      show Int64.ofInt (max (-2 ^ 63) (min (2 ^ 63 - 1) (((4503599627370496 + c) * 2 ^ (((971 + l + k : Nat) : Int) - 1075).toNat / 2 ^ (-(((971 + l + k : Nat) : Int) - 1075)).toNat : Nat) : Int))) = _
      rw [z]
      have : t / 2 ^ (52 - k) ≤ t := Nat.div_le_self _ _
      generalize t / 2 ^ (52 - k) = v at *
      have v1 : (v : Int) ≤ 2 ^ 63 - 1 := by omega
      have v2 : (-2 ^ 63 : Int) ≤ (v : Int) := by omega
      rw [Int.min_eq_right v1, Int.max_eq_right v2]

theorem cmp_l0 {a b : Nat} : (Op.cmpValue (oN a b) .l) = 0 ↔ a = b := by
  rcases Nat.lt_trichotomy a b with h | h | h
  · rw [oN_lt h]
    exact ⟨fun q => absurd q (by decide), fun q => by omega⟩
  · rw [oN_eq h]
    exact ⟨fun _ => h, fun _ => rfl⟩
  · rw [oN_gt h]
    exact ⟨fun q => absurd q (by decide), fun q => by omega⟩
theorem cmp_ln {a b : Nat} : (Op.cmpValue (oN a b) .l) < 0 ↔ a < b := by
  rcases Nat.lt_trichotomy a b with h | h | h
  · rw [oN_lt h]
    exact ⟨fun _ => h, fun _ => by decide⟩
  · rw [oN_eq h]
    exact ⟨fun q => absurd q (by decide), fun q => by omega⟩
  · rw [oN_gt h]
    exact ⟨fun q => absurd q (by decide), fun q => by omega⟩
theorem cmp_ge {a b : Nat} : (0 : Int32) ≤ (Op.cmpValue (oN a b) .g) ↔ b ≤ a := by
  rcases Nat.lt_trichotomy a b with h | h | h
  · rw [oN_lt h]
    exact ⟨fun q => absurd q (by decide), fun q => by omega⟩
  · rw [oN_eq h]
    exact ⟨fun _ => by omega, fun _ => by decide⟩
  · rw [oN_gt h]
    exact ⟨fun _ => by omega, fun _ => by decide⟩
theorem cmp_gt {a b : Nat} : (0 : Int32) < (Op.cmpValue (oN a b) .g) ↔ b < a := by
  rcases Nat.lt_trichotomy a b with h | h | h
  · rw [oN_lt h]
    exact ⟨fun q => absurd q (by decide), fun q => by omega⟩
  · rw [oN_eq h]
    exact ⟨fun q => absurd q (by decide), fun q => by omega⟩
  · rw [oN_gt h]
    exact ⟨fun _ => h, fun _ => by decide⟩
theorem i64s (c : Int) : Int64.ofInt c - 1 = Int64.ofInt (c - 1) := by
  rw [show (1 : Int64) = Int64.ofInt 1 from rfl, ← Int64.ofInt_sub]
theorem i64a (c : Int) : Int64.ofInt c + 1 = Int64.ofInt (c + 1) := by
  rw [show (1 : Int64) = Int64.ofInt 1 from rfl, ← Int64.ofInt_add]
/-- the last part: exponent and tail put together -/
theorem of_fin {t : Nat} {x0 : UInt64} {x2 x3 : Int32} {c : Int} {k : Nat} (ht : t < 4503599627370496) (hk : k ≤ 52) (h3 : FP.l2d ((1 : Int64) <<< ((x3).toInt64 &&& 63)) = UInt64.ofNat (n64 (1023 + k) 0)) :
    (gok ((FP.dsub (UInt64.ofNat (n64 1023 t)) FP.dconst1) &&& 0x7fffffffffffffff ≤ 0x7ff0000000000000) (gok ((FP.dmul (FP.dsub (UInt64.ofNat (n64 1023 t)) FP.dconst1) (FP.l2d ((1 : Int64) <<< ((x3).toInt64 &&& 63)))) &&& 0x7fffffffffffffff ≤ 0x7ff0000000000000) (some (((Int64.ofInt c <<< ((x3).toInt64 &&& 63)) + (FP.d2l (FP.dmul (FP.dsub (UInt64.ofNat (n64 1023 t)) FP.dconst1) (FP.l2d ((1 : Int64) <<< ((x3).toInt64 &&& 63)))))))))) = some (Int64.ofInt c <<< ((x3).toInt64 &&& 63) + Int64.ofInt ((t / 2 ^ (52 - k) : Nat) : Int)) := by
  obtain ⟨x, y, e1, p1, e2, p2, e3⟩ := tail_of (k := k) ht hk
  rw [h3, e1, e2, e3, gok_t' (ok64 p1), gok_t' (ok64 p2)]
theorem of_up {t : Nat} {x0 : UInt64} {x2 x3 : Int32} {k : Nat} (ht : t < 4503599627370496) (hk : k ≤ 52) (h3 : FP.l2d ((1 : Int64) <<< ((x3).toInt64 &&& 63)) = UInt64.ofNat (n64 (1023 + k) 0)) (h2 : x2 = 127 ∨ x2 = 1023) :
    ∀ d E j nn c, E + d = 1023 → 950 ≤ E → j + d < 127 → d < nn → f_X1_of_L56 x0 x2 x3 nn (Int64.ofInt c) (UInt64.ofNat (n64 E t)) (nI j) = some (Int64.ofInt (c - d) <<< ((x3).toInt64 &&& 63) + Int64.ofInt ((t / 2 ^ (52 - k) : Nat) : Int)) := by
  intro d
  induction d with
  | zero =>
    intro E j nn c hE h9 hj hn
    obtain ⟨p, rfl⟩ : ∃ p, nn = p + 1 := ⟨nn - 1, by omega⟩
    obtain rfl : E = 1023 := by omega
    rw [show c - ((0 : Nat) : Int) = c by omega]
    have hx : ¬ x2 ≤ nI j := by
      rcases h2 with rfl | rfl
      · exact nI_ge (b := 127) (by omega) (by decide)
      · exact nI_ge (b := 1023) (by omega) (by decide)
    rw [f_X1_of_L56, if_neg hx, one64', dcm (n64_P ht (by decide) (by decide)) (n64_P (by decide) (by decide) (by decide)), if_pos (cmp_ge.mpr (by unfold n64; omega)), ← one64', of_fin (x0 := x0) (x2 := x2) ht hk h3]
  | succ d ih =>
    intro E j nn c hE h9 hj hn
    rw [show c - ((d + 1 : Nat) : Int) = c - 1 - (d : Int) by omega]
    obtain ⟨p, rfl⟩ : ∃ p, nn = p + 1 := ⟨nn - 1, by omega⟩
    have hx : ¬ x2 ≤ nI j := by
      rcases h2 with rfl | rfl
      · exact nI_ge (b := 127) (by omega) (by decide)
      · exact nI_ge (b := 1023) (by omega) (by decide)
    have hP : P64 (n64 (E + 1) t) := n64_P ht (by omega) (by omega)
    rw [f_X1_of_L56, if_neg hx, one64', dcm (n64_P ht (by omega) (by omega)) (n64_P (by decide) (by decide) (by decide)), if_neg (fun q => by have := cmp_ge.mp q; unfold n64 at this; omega), dm2 ht (by omega) (by omega), gok_t' (ok64 hP), nI_1, i64s, ih (E + 1) (j + 1) p (c - 1) (by omega) (by omega) (by omega) (by omega)]
theorem of_dn {t : Nat} {x0 : UInt64} {x2 x3 : Int32} {k : Nat} (ht : t < 4503599627370496) (hk : k ≤ 52) (h3 : FP.l2d ((1 : Int64) <<< ((x3).toInt64 &&& 63)) = UInt64.ofNat (n64 (1023 + k) 0)) (h2 : x2 = 127 ∨ x2 = 1023) :
    ∀ d E j nn c, (E = 1023 + d ∨ (d = 0 ∧ 950 ≤ E ∧ E ≤ 1023)) → j + d < 127 → d < nn → f_X1_of_L18 x0 x2 x3 nn (Int64.ofInt c) (UInt64.ofNat (n64 E t)) (nI j) = some (Int64.ofInt (c + E - 1023) <<< ((x3).toInt64 &&& 63) + Int64.ofInt ((t / 2 ^ (52 - k) : Nat) : Int)) := by
  intro d
  induction d with
  | zero =>
    intro E j nn c hE hj hn
    rw [show c + (E : Int) - 1023 = c - ((1023 - E : Nat) : Int) by omega]
    obtain ⟨p, rfl⟩ : ∃ p, nn = p + 1 := ⟨nn - 1, by omega⟩
    have hx : ¬ x2 ≤ nI j := by
      rcases h2 with rfl | rfl
      · exact nI_ge (b := 127) (by omega) (by decide)
      · exact nI_ge (b := 1023) (by omega) (by decide)
    rw [f_X1_of_L18, if_neg hx, two64, dcm (n64_P ht (by omega) (by omega)) (n64_P (by decide) (by decide) (by decide)), if_pos (cmp_ln.mpr (by unfold n64; omega)), show (0 : Int32) = nI 0 from rfl, of_up ht hk h3 h2 (1023 - E) E 0 FU c (by omega) (by omega) (by omega) (show 1023 - E < 5000 by omega)]
  | succ d ih =>
    intro E j nn c hE hj hn
    rw [show c + (E : Int) - 1023 = c + 1 + ((E - 1 : Nat) : Int) - 1023 by omega]
    obtain ⟨p, rfl⟩ : ∃ p, nn = p + 1 := ⟨nn - 1, by omega⟩
    have hx : ¬ x2 ≤ nI j := by
      rcases h2 with rfl | rfl
      · exact nI_ge (b := 127) (by omega) (by decide)
      · exact nI_ge (b := 1023) (by omega) (by decide)
    have hP : P64 (n64 (E - 1) t) := n64_P ht (by omega) (by omega)
    rw [f_X1_of_L18, if_neg hx, two64, dcm (n64_P ht (by omega) (by omega)) (n64_P (by decide) (by decide) (by decide)), if_neg (fun q => by have := cmp_ln.mp q; unfold n64 at this; omega), ← two64, dd2 ht (by omega) (by omega), gok_t' (ok64 hP), nI_1, i64a, ih (E - 1) (j + 1) p (c + 1) (by omega) (by omega) (by omega)]
/-- the bits of a double that is not too far from one -/
theorem q_of64 {E t : Nat} {x2 x3 : Int32} {k : Nat} (ht : t < 4503599627370496) (h1 : 950 ≤ E) (h4 : E ≤ 1100) (hk : k ≤ 52) (h3 : FP.l2d ((1 : Int64) <<< ((x3).toInt64 &&& 63)) = UInt64.ofNat (n64 (1023 + k) 0)) (b : Nat) (h2 : (x2 = 127 ∧ b = 127) ∨ (x2 = 1023 ∧ b = 1023)) :
    f_X1_of (UInt64.ofNat (n64 E t)) x2 x3 = some (Int64.ofInt ((b : Int) + E - 1023) <<< ((x3).toInt64 &&& 63) + Int64.ofInt ((t / 2 ^ (52 - k) : Nat) : Int)) := by
  unfold f_X1_of
  have hb : x2.toInt64 = Int64.ofInt (b : Int) := by
    rcases h2 with ⟨rfl, rfl⟩ | ⟨rfl, rfl⟩ <;> rfl
  rw [zero64, dcm (n64_P ht (by omega) (by omega)) (Or.inl rfl), if_neg (fun q => by have := cmp_l0.mp q; unfold n64 at this; omega), hb, show (0 : Int32) = nI 0 from rfl]
  exact of_dn ht hk h3 (h2.elim (fun h => Or.inl h.1) (fun h => Or.inr h.1)) (E - 1023) E 0 FU b (by omega) (by omega) (show E - 1023 < 5000 by omega)
theorem q_ofz (x2 x3 : Int32) : f_X1_of (UInt64.ofNat 0) x2 x3 = some 0 := by
  unfold f_X1_of
  rw [zero64, dcm (Or.inl rfl) (Or.inl rfl), if_pos (cmp_l0.mpr rfl)]

theorem shl23 : ∀ e, e < 256 → (Int64.ofInt (e : Nat)) <<< ((23 : Int32).toInt64 &&& 63) = Int64.ofNat (e * 8388608) := by decide +kernel
theorem shl52 : ∀ e, e < 1200 → (Int64.ofInt (e : Nat)) <<< ((52 : Int32).toInt64 &&& 63) = Int64.ofNat (e * 4503599627370496) := by decide +kernel
theorem l2d23 : FP.l2d ((1 : Int64) <<< ((23 : Int32).toInt64 &&& 63)) = UInt64.ofNat (n64 (1023 + 23) 0) := by decide +kernel
theorem l2d52 : FP.l2d ((1 : Int64) <<< ((52 : Int32).toInt64 &&& 63)) = UInt64.ofNat (n64 (1023 + 52) 0) := by decide +kernel
/-- the class's bits of a double are the machine's -/
theorem bits64 {x : Nat} (h : x = 0 ∨ ∃ E t, x = n64 E t ∧ t < 4503599627370496 ∧ 950 ≤ E ∧ E ≤ 1100) : f_X1_of (UInt64.ofNat x) 1023 52 = some (UInt64.ofNat x).toInt64 ∧ f_Jxe99ae_doubleToLongBits_ccdee (UInt64.ofNat x) = some (UInt64.ofNat x).toInt64 := by
  have hP : P64 x := by
    rcases h with h | ⟨E, t, h, h1, h2, h3⟩
    · exact Or.inl h
    · exact Or.inr ⟨E, t, h, h1, by omega, by omega⟩
  constructor
  · rcases h with rfl | ⟨E, t, rfl, h1, h2, h3⟩
    · rw [q_ofz]
      decide +kernel
    · rw [q_of64 (k := 52) h1 h2 h3 (by decide) l2d52 1023 (Or.inr ⟨rfl, rfl⟩), show ((1023 : Nat) : Int) + (E : Int) - 1023 = ((E : Nat) : Int) by omega, shl52 E (by omega), show 2 ^ (52 - 52) = 1 from rfl, Nat.div_one, show Int64.ofInt ((t : Nat) : Int) = Int64.ofNat t from rfl, ← Int64.ofNat_add]
      rfl
  · unfold f_Jxe99ae_doubleToLongBits_ccdee f_Jxe99ae_isNaN_b9ae7
    rw [dcm hP hP, if_pos (cmp_l0.mpr rfl)]
    rfl
theorem bits32 {x : Nat} (h : x = 0 ∨ ∃ E t, x = n32 E t ∧ t < 8388608 ∧ 60 ≤ E ∧ E ≤ 200) : ∃ y r, FP.f2d (UInt32.ofNat x) = UInt64.ofNat y ∧ P64 y ∧ f_X1_of (UInt64.ofNat y) 127 23 = some r ∧ r.toInt32 = (UInt32.ofNat x).toInt32 ∧ f_Jxf58ca_floatToIntBits_5c35a (UInt32.ofNat x) = some (UInt32.ofNat x).toInt32 := by
  have hP : P32 x := by
    rcases h with h | ⟨E, t, h, h1, h2, h3⟩
    · exact Or.inl h
    · exact Or.inr ⟨E, t, h, h1, by omega, by omega⟩
  have hfb : f_Jxf58ca_floatToIntBits_5c35a (UInt32.ofNat x) = some (UInt32.ofNat x).toInt32 := by
    unfold f_Jxf58ca_floatToIntBits_5c35a f_Jxf58ca_isNaN_12338
    rw [fcm hP hP, if_pos (cmp_l0.mpr rfl)]
    rfl
  rcases h with rfl | ⟨E, t, rfl, h1, h2, h3⟩
  · refine ⟨0, 0, by decide +kernel, Or.inl rfl, q_ofz _ _, by decide +kernel, hfb⟩
  · have hn : FP.Core.fIsNaN (UInt32.ofNat (n32 E t)) = false := by
      show decide (FP.Core.decode FP.Core.b32 (UInt32.ofNat (n32 E t)).toNat = .nan) = false
      rw [u32N (by unfold n32; omega), de32 h1 (by omega) (by omega)]
      exact decide_eq_false (fun q => by injection q)
    refine ⟨n64 (E + 896) (t * 536870912), Int64.ofNat (n32 E t), ?_, n64_P (by omega) (by omega) (by omega), ?_, ?_, hfb⟩
    · unfold FP.f2d
      rw [hn]
      show UInt64.ofNat (FP.Core.convert FP.Core.b32 FP.Core.b64 (UInt32.ofNat (n32 E t)).toNat) = _
      rw [u32N (by unfold n32; omega), cvt64 h1 (by omega) (by omega)]
    · rw [q_of64 (k := 23) (by omega) (by omega) (by omega) (by decide) l2d23 127 (Or.inl ⟨rfl, rfl⟩), show ((127 : Nat) : Int) + ((E + 896 : Nat) : Int) - 1023 = ((E : Nat) : Int) by omega, shl23 E (by omega), show 2 ^ (52 - 23) = 536870912 from rfl, Nat.mul_div_cancel _ (by decide), show Int64.ofInt ((t : Nat) : Int) = Int64.ofNat t from rfl, ← Int64.ofNat_add]
      rfl
    · exact Int64.toInt32_ofNat
