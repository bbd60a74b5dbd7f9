/-! PURE LAYER: the text of a script and what the class reads there -/
def dv (L : Nat) (tx : Nat → Int32) (p : Nat) : Nat := if p < L then (tx p).toNatClampNeg else 0
def TX (L : Nat) (tx : Nat → Int32) : Prop := L ≤ 60 ∧ ∀ k, k < L → ∃ v, 32 ≤ v ∧ v ≤ 126 ∧ tx k = nI v
theorem dv_in {L p : Nat} {tx : Nat → Int32} (T : TX L tx) (h : p < L) : 32 ≤ dv L tx p ∧ dv L tx p ≤ 126 ∧ tx p = nI (dv L tx p) := by
  obtain ⟨v, h1, h2, h3⟩ := T.2 p h
  unfold dv
  rw [if_pos h, h3, nI_clamp (by omega)]
  exact ⟨h1, h2, rfl⟩
theorem dv_out {L p : Nat} {tx : Nat → Int32} (h : ¬ p < L) : dv L tx p = 0 := if_neg h
/-- digits: at most j of them from p on -/
def nr (f : Nat → Nat) : Nat → Nat → Nat → Nat × Nat
  | 0, p, v => (p, v)
  | j + 1, p, v => if 48 ≤ f p ∧ f p ≤ 57 then nr f j (p + 1) (10 * v + (f p - 48)) else (p, v)
/-- rising digits -/
def dr (f : Nat → Nat) : Nat → Nat → Nat → Nat → Nat × Nat
  | 0, p, m, _ => (p, m)
  | j + 1, p, m, lo => if 48 + lo ≤ f p ∧ f p ≤ 57 then dr f j (p + 1) (m ||| 2 ^ (f p - 48)) (f p - 48 + 1) else (p, m)
def pt (f : Nat → Nat) (c p : Nat) (vs : List Nat) : Bool × Nat × List Nat :=
  if c = 35 then (decide (p < (nr f 4 p 0).1), (nr f 4 p 0).1, vs ++ [(nr f 4 p 0).2])
  else if c = 42 then (decide (¬ (dr f 10 p 0 0).2 = 0), (dr f 10 p 0 0).1, vs ++ [(dr f 10 p 0 0).2])
  else if c = 63 then (if 48 ≤ f p ∧ f p ≤ 57 then (true, p + 1, vs ++ [f p - 48]) else (false, p, vs))
  else if c = 126 then (if f p = 32 then (decide (p + 1 < (nr f 4 (p + 1) 0).1), (nr f 4 (p + 1) 0).1, vs ++ [(nr f 4 (p + 1) 0).2]) else (true, p, vs ++ [1]))
  else if f p = c then (true, p + 1, vs) else (false, p, vs)
def fm (f : Nat → Nat) : List Nat → Nat → List Nat → Bool × Nat × List Nat
  | [], p, vs => (true, p, vs)
  | c :: l, p, vs => if (pt f c p vs).1 = true then fm f l (pt f c p vs).2.1 (pt f c p vs).2.2 else (false, (pt f c p vs).2.1, (pt f c p vs).2.2)
theorem nr_ge' (f : Nat → Nat) : ∀ j p v, p ≤ (nr f j p v).1 ∧ (nr f j p v).1 ≤ p + j := by
  intro j
  induction j with
  | zero => intro p v; exact ⟨Nat.le_refl _, Nat.le_refl _⟩
  | succ j ih =>
    intro p v
    rw [nr]
    split
    · have := ih (p + 1) (10 * v + (f p - 48))
      omega
    · exact ⟨Nat.le_refl _, by show p ≤ _; omega⟩
/-- the class's text -/
def XT (Zm L : Nat) (Zf tx : Nat → Int32) : Prop := L ≤ Zm ∧ Zm ≤ 142 ∧ ∀ k, k < L → Zf k = tx k
theorem sh0 : ∀ m, m < 143 → (Int32.ofNat m >>> (0 &&& 31)) = nI m := by decide +kernel
theorem chr1 : ∀ v, v < 127 → (((nI v &&& 255)).toUInt32 % 65536).toInt32 = nI v ∧ (nI v).toUInt32.toUInt16.toUInt32.toInt32 = nI v := by decide +kernel
theorem q_lenJ (z : Int32) : f_J4_length_8abf5 z = some z := rfl
theorem q_charAt {Zm L p : Nat} {Zf tx : Nat → Int32} (X : XT Zm L Zf tx) (T : TX L tx) (h : p < L) : f_J4_charAt_5068e Zm (nI L) Zf (nI p) = some (nI (dv L tx p)) := by
  obtain ⟨x1, x2, x3⟩ := X
  obtain ⟨d1, d2, d3⟩ := dv_in T h
  have hT := T.1
  obtain ⟨c1, c2⟩ := chr1 (dv L tx p) (by omega)
  have hj : f_J5_charAt_5068e Zm (nI L) Zf (nI p) = some (nI (dv L tx p)) := by
    unfold f_J5_charAt_5068e
    rw [wkl_t, sh0 Zm (by omega), if_neg (Int32.not_lt.mpr (nI_le x1 (by omega)))]
    have hc : f_J0_checkIndex_df160 (nI p) (nI L) = some () := by
      unfold f_J0_checkIndex_df160 f_J3_checkIndex_8e157_ref
      rw [if_neg (nI_pos (by omega)), if_pos (nI_lt h (by omega))]
      rfl
    rw [wkb1_t hc, gin_t (vp_in_nI (by omega) (by omega)), nI_clamp (by omega), x3 p h, d3, c1, gok_t' c2]
  unfold f_J4_charAt_5068e
  rw [wkb1_t hj, gok_t' c2]
theorem nI_eqS {a b : Nat} (ha : a < 128) (hb : b < 128) : (nI a = nI b) = (a = b) := propext (nI_eq (by omega) (by omega))
theorem q_digit {Zm L p : Nat} {Zf tx : Nat → Int32} (X : XT Zm L Zf tx) (T : TX L tx) (hp : p < 2 ^ 30) : f_X7_digitHere Zm (nI L) Zf (nI p) = some (if 48 ≤ dv L tx p ∧ dv L tx p ≤ 57 then nI (dv L tx p - 48) else -1) := by
  have hT := T.1
  unfold f_X7_digitHere
  rw [wkb1_t (q_lenJ _)]
  by_cases h : p < L
  · obtain ⟨d1, d2, d3⟩ := dv_in T h
    rw [if_neg (nI_ge h (by omega)), wkb1_t (q_charAt X T h)]
    by_cases a1 : 48 ≤ dv L tx p
    · rw [if_neg (show ¬ nI (dv L tx p) < (48 : Int32) from Int32.not_lt.mpr (nI_le (a := 48) a1 (by omega)))]
      by_cases a2 : dv L tx p ≤ 57
      · rw [if_neg (show ¬ (57 : Int32) < nI (dv L tx p) from Int32.not_lt.mpr (nI_le (b := 57) a2 (by decide))), if_pos ⟨a1, a2⟩, show (48 : Int32) = nI 48 from rfl, pk_sub a1]
      · rw [if_pos (show (57 : Int32) < nI (dv L tx p) from nI_lt (a := 57) (by omega) (by omega)), if_neg (fun z => a2 z.2)]
    · rw [if_pos (show nI (dv L tx p) < (48 : Int32) from nI_lt (b := 48) (by omega) (by decide)), if_neg (fun z => a1 z.1)]
  · rw [if_pos (nI_le (by omega) (by omega)), dv_out h, if_neg (by omega)]
theorem q_sign {Zm L p c : Nat} {Zf tx : Nat → Int32} (X : XT Zm L Zf tx) (T : TX L tx) (hp : p < 2 ^ 30) (c1 : 0 < c) (c2 : c < 128) : f_X7_readSign Zm (nI L) Zf (nI p) (nI c) = if dv L tx p = c then some (1, nI (p + 1)) else some (0, nI p) := by
  have hT := T.1
  unfold f_X7_readSign
  rw [wkb1_t (q_lenJ _)]
  by_cases h : p < L
  · obtain ⟨d1, d2, d3⟩ := dv_in T h
    rw [if_neg (nI_ge h (by omega)), wkb1_t (q_charAt X T h)]
    by_cases e : dv L tx p = c
    · rw [if_pos (by rw [e]), if_pos e, wkl_t, nI_1]
    · rw [if_neg (fun z => e ((nI_eq (by omega) (by omega)).mp z)), if_neg e]
  · rw [if_pos (nI_le (by omega) (by omega)), dv_out h, if_neg (by omega)]
def AR (c : Nat) (A0 A : Nat → Int32) (vs : List Nat) : Prop := (∀ j, j < 4 * c → A j = A0 j) ∧ ∀ i, i < vs.length → i < 4 → A (4 * c + i) = nI (vs.getD i 0)
theorem getD_app {vs : List Nat} {v i : Nat} (h : i < vs.length) : (vs ++ [v]).getD i 0 = vs.getD i 0 := by
  rw [List.getD_eq_getElem?_getD, List.getD_eq_getElem?_getD, List.getElem?_append_left h]
theorem AR_add {c : Nat} {A0 A : Nat → Int32} {vs : List Nat} (hc : c < 12) (R : AR c A0 A vs) (v : Nat) : ∃ A', f_X7_addArgument (nI c) A (nI (min vs.length 4)) (nI v) = some (A', nI (min (vs ++ [v]).length 4)) ∧ AR c A0 A' (vs ++ [v]) := by
  have hl : (vs ++ [v]).length = vs.length + 1 := by simp
  unfold f_X7_addArgument
  by_cases h : 4 ≤ vs.length
  · rw [Nat.min_eq_right h, if_pos (by decide), hl, Nat.min_eq_right (by omega)]
    refine ⟨A, rfl, R.1, fun i hi h4 => ?_⟩
    rw [R.2 i (by omega) h4]
    congr 1
    rw [getD_app (by omega)]
  · rw [Nat.min_eq_left (by omega), if_neg (show ¬ (4 : Int32) ≤ nI vs.length from nI_ge (b := 4) (by omega) (by decide)), hl, Nat.min_eq_left (by omega)]
    have e : (nI c * 4) + nI vs.length = nI (4 * c + vs.length) := by
      rw [show (4 : Int32) = nI 4 from rfl, pk_mul, nI_add, Nat.mul_comm]
    rw [e, gin_t (vp_in_nI (by omega) (by decide)), wkl_t, wkl_t, nI_clamp (by omega), nI_1]
    refine ⟨_, rfl, fun j hj => ?_, fun i hi h4 => ?_⟩
    · rw [pk_un (by omega)]
      exact R.1 j hj
    · by_cases q : i = vs.length
      · subst q
        rw [pk_us]
        congr 1
        simp
      · rw [pk_un (by omega), R.2 i (by omega) h4]
        congr 1
        rw [getD_app (by omega)]
theorem q_number {Zm L c : Nat} {Zf tx : Nat → Int32} (X : XT Zm L Zf tx) (T : TX L tx) (hc : c < 12) (p0 : Nat) (h0 : p0 < 2 ^ 20) {A0 A : Nat → Int32} {vs : List Nat} (R : AR c A0 A vs) :
    ∃ A', f_X7_readNumber Zm (nI L) Zf (nI p0) (nI c) A (nI (min vs.length 4)) = some (bI (decide (p0 < (nr (dv L tx) 4 p0 0).1)), nI (nr (dv L tx) 4 p0 0).1, A', nI (min (vs ++ [(nr (dv L tx) 4 p0 0).2]).length 4)) ∧ AR c A0 A' (vs ++ [(nr (dv L tx) 4 p0 0).2]) := by
  have key : ∀ j p v nn, p0 ≤ p → p + j ≤ p0 + 4 → j ≤ 4 → j < nn → ∃ A', f_X7_readNumber_L9 Zm (nI L) Zf (nI c) nn (nI p0) (nI v) (nI (4 - j)) (nI p) A (nI (min vs.length 4)) = some (bI (decide (p0 < (nr (dv L tx) j p v).1)), nI (nr (dv L tx) j p v).1, A', nI (min (vs ++ [(nr (dv L tx) j p v).2]).length 4)) ∧ AR c A0 A' (vs ++ [(nr (dv L tx) j p v).2]) := by
    have fin : ∀ p v, p0 ≤ p → p ≤ p0 + 4 → ∃ A', (wkb2 (f_X7_addArgument (nI c) A (nI (min vs.length 4)) (nI v)) (fun w2 w3 => if nI p ≤ nI p0 then some ((0 : Int32), nI p, w2, w3) else some (1, nI p, w2, w3))) = some (bI (decide (p0 < p)), nI p, A', nI (min (vs ++ [v]).length 4)) ∧ AR c A0 A' (vs ++ [v]) := fun p v h1 h2 => by
      obtain ⟨A', a1, a2⟩ := AR_add hc R v
      refine ⟨A', ?_, a2⟩
      rw [wkb2_t a1]
      by_cases h : p0 < p
      · rw [if_neg (nI_ge h (by omega)), decide_eq_true h]
        rfl
      · rw [if_pos (nI_le (by omega) (by omega)), decide_eq_false h]
        rfl
    intro j
    induction j with
    | zero =>
      intro p v nn h1 h2 h3 h4
      obtain ⟨q, rfl⟩ : ∃ q, nn = q + 1 := ⟨nn - 1, by omega⟩
      rw [f_X7_readNumber_L9, if_pos (by decide)]
      exact fin p v h1 (by omega)
    | succ j ih =>
      intro p v nn h1 h2 h3 h4
      obtain ⟨q, rfl⟩ : ∃ q, nn = q + 1 := ⟨nn - 1, by omega⟩
      rw [f_X7_readNumber_L9, if_neg (show ¬ (4 : Int32) ≤ nI (4 - (j + 1)) from nI_ge (b := 4) (by omega) (by decide)), wkb1_t (q_digit X T (by omega)), nr]
      by_cases h : 48 ≤ dv L tx p ∧ dv L tx p ≤ 57
      · rw [if_pos h, if_pos h, if_neg (oI_m1 (by omega)), wkb1_t (q_digit X T (by omega)), if_pos h, wkl_t, nI_1, nI_1, show (10 : Int32) = nI 10 from rfl, pk_mul, nI_add, show 4 - (j + 1) + 1 = 4 - j by omega, show v * 10 + (dv L tx p - 48) = 10 * v + (dv L tx p - 48) by omega]
        exact ih (p + 1) _ q (by omega) (by omega) (by omega) (by omega)
      · rw [if_neg h, if_neg h, if_pos rfl]
        exact fin p v h1 (by omega)
  exact key 4 p0 0 FU (Nat.le_refl _) (by omega) (by decide) (by decide)

theorem dr_ge (f : Nat → Nat) : ∀ j p m lo, p ≤ (dr f j p m lo).1 ∧ (dr f j p m lo).1 ≤ p + j := by
  intro j
  induction j with
  | zero => intro p m lo; exact ⟨Nat.le_refl _, Nat.le_refl _⟩
  | succ j ih =>
    intro p m lo
    rw [dr]
    split
    · have := ih (p + 1) (m ||| 2 ^ (f p - 48)) (f p - 48 + 1)
      omega
    · exact ⟨Nat.le_refl _, by show p ≤ _; omega⟩
theorem dr_lt (f : Nat → Nat) : ∀ j p m lo, m < 1024 → (dr f j p m lo).2 < 1024 := by
  intro j
  induction j with
  | zero => intro p m lo h; exact h
  | succ j ih =>
    intro p m lo h
    rw [dr]
    split
    · rename_i z
      refine ih _ _ _ ?_
      refine Nat.or_lt_two_pow (n := 10) h ?_
      exact Nat.pow_lt_pow_right (by decide) (by omega)
    · exact h
theorem q_rising {Zm L c : Nat} {Zf tx : Nat → Int32} (X : XT Zm L Zf tx) (T : TX L tx) (hc : c < 12) (p0 : Nat) (h0 : p0 < 2 ^ 20) {A0 A : Nat → Int32} {vs : List Nat} (R : AR c A0 A vs) :
    ∃ A', f_X7_readRisingDigits Zm (nI L) Zf (nI p0) (nI c) A (nI (min vs.length 4)) = some (bI (decide (¬ (dr (dv L tx) 10 p0 0 0).2 = 0)), nI (dr (dv L tx) 10 p0 0 0).1, A', nI (min (vs ++ [(dr (dv L tx) 10 p0 0 0).2]).length 4)) ∧ AR c A0 A' (vs ++ [(dr (dv L tx) 10 p0 0 0).2]) := by
  have key : ∀ j p m lo nn, p + j ≤ p0 + 10 → j ≤ 10 → m < 1024 → lo ≤ 10 → j < nn → ∃ A', f_X7_readRisingDigits_L6 Zm (nI L) Zf (nI c) nn (nI m) (nI lo - 1) (nI (10 - j)) (nI p) A (nI (min vs.length 4)) = some (bI (decide (¬ (dr (dv L tx) j p m lo).2 = 0)), nI (dr (dv L tx) j p m lo).1, A', nI (min (vs ++ [(dr (dv L tx) j p m lo).2]).length 4)) ∧ AR c A0 A' (vs ++ [(dr (dv L tx) j p m lo).2]) := by
    have fin : ∀ p m, m < 1024 → ∃ A', (wkb2 (f_X7_addArgument (nI c) A (nI (min vs.length 4)) (nI m)) (fun w2 w3 => if nI m = 0 then some ((0 : Int32), nI p, w2, w3) else some (1, nI p, w2, w3))) = some (bI (decide (¬ m = 0)), nI p, A', nI (min (vs ++ [m]).length 4)) ∧ AR c A0 A' (vs ++ [m]) := fun p m h1 => by
      obtain ⟨A', a1, a2⟩ := AR_add hc R m
      refine ⟨A', ?_, a2⟩
      rw [wkb2_t a1]
      by_cases h : m = 0
      · rw [if_pos (by rw [h]; rfl), decide_eq_false (by omega)]
        rfl
      · rw [if_neg (nI_ne0 (by omega) (by omega)), decide_eq_true h]
        rfl
    intro j
    induction j with
    | zero =>
      intro p m lo nn h2 h3 h5 h6 h4
      obtain ⟨q, rfl⟩ : ∃ q, nn = q + 1 := ⟨nn - 1, by omega⟩
      rw [f_X7_readRisingDigits_L6, if_pos (by decide)]
      exact fin p m h5
    | succ j ih =>
      intro p m lo nn h2 h3 h5 h6 h4
      obtain ⟨q, rfl⟩ : ∃ q, nn = q + 1 := ⟨nn - 1, by omega⟩
      have tlo : (nI lo - 1).toInt = (lo : Int) - 1 := nI_pm1 (by omega)
      rw [f_X7_readRisingDigits_L6, if_neg (show ¬ (10 : Int32) ≤ nI (10 - (j + 1)) from nI_ge (b := 10) (by omega) (by decide)), wkb1_t (q_digit X T (by omega)), dr]
      by_cases h : 48 + lo ≤ dv L tx p ∧ dv L tx p ≤ 57
      · have hd : 48 ≤ dv L tx p ∧ dv L tx p ≤ 57 := ⟨by omega, h.2⟩
        have td : (nI (dv L tx p - 48)).toInt = ((dv L tx p - 48 : Nat) : Int) := nI_toInt (by omega)
        rw [if_pos hd, if_pos h, if_neg (by rw [Int32.le_iff_toInt_le, td, tlo]; omega), wkb1_t (q_digit X T (by omega)), if_pos hd, wkl_t, nI_1, nI_1, shl1 (by omega), nI_or, show 10 - (j + 1) + 1 = 10 - j by omega]
        have z := ih (p + 1) (m ||| 2 ^ (dv L tx p - 48)) (dv L tx p - 48 + 1) q (by omega) (by omega) (Nat.or_lt_two_pow (n := 10) h5 (Nat.pow_lt_pow_right (by decide) (by omega))) (by omega) (by omega)
        rwa [show nI (dv L tx p - 48 + 1) - 1 = nI (dv L tx p - 48) from by rw [show (1 : Int32) = nI 1 from rfl, pk_sub (by omega)]; rfl] at z
      · rw [if_neg h, if_pos (by
          by_cases hd : 48 ≤ dv L tx p ∧ dv L tx p ≤ 57
          · have td : (nI (dv L tx p - 48)).toInt = ((dv L tx p - 48 : Nat) : Int) := nI_toInt (by omega)
            rw [if_pos hd, Int32.le_iff_toInt_le, td, tlo]
            omega
          · rw [if_neg hd, Int32.le_iff_toInt_le, tlo]
            have : (-1 : Int32).toInt = -1 := rfl
            omega)]
        exact fin p m h5
  have := key 10 p0 0 0 FU (by omega) (by decide) (by decide) (by decide) (by decide)
  exact this
theorem q_part {Zm L c : Nat} {Zf tx : Nat → Int32} (X : XT Zm L Zf tx) (T : TX L tx) (hc : c < 12) (p x : Nat) (h0 : p < 2 ^ 19) (x1 : 0 < x) (x2 : x < 128) {A0 A : Nat → Int32} {vs : List Nat} (R : AR c A0 A vs) :
    ∃ A', f_X7_readPart Zm (nI L) Zf (nI p) (nI c) A (nI (min vs.length 4)) (nI x) = some (bI (pt (dv L tx) x p vs).1, nI (pt (dv L tx) x p vs).2.1, A', nI (min (pt (dv L tx) x p vs).2.2.length 4)) ∧ AR c A0 A' (pt (dv L tx) x p vs).2.2 := by
  have hT := T.1
  have ne : ∀ k, k < 128 → ¬ x = k → ¬ nI x = nI k := fun k hk h z => h ((nI_eq (by omega) (by omega)).mp z)
  unfold f_X7_readPart pt
  by_cases e1 : x = 35
  · subst e1
    obtain ⟨A', a1, a2⟩ := q_number X T hc p (by omega) R
    rw [if_pos (show nI 35 = (35 : Int32) from rfl), wkb4_t a1, bI_gbo, if_pos rfl]
    exact ⟨A', rfl, a2⟩
  rw [if_neg (show ¬ nI x = (35 : Int32) from ne 35 (by decide) e1), if_neg e1]
  by_cases e2 : x = 42
  · subst e2
    obtain ⟨A', a1, a2⟩ := q_rising X T hc p (by omega) R
    rw [if_pos (show nI 42 = (42 : Int32) from rfl), wkb4_t a1, bI_gbo, if_pos rfl]
    exact ⟨A', rfl, a2⟩
  rw [if_neg (show ¬ nI x = (42 : Int32) from ne 42 (by decide) e2), if_neg e2]
  by_cases e3 : x = 63
  · subst e3
    rw [if_pos (show nI 63 = (63 : Int32) from rfl), if_pos rfl]
    unfold f_X7_readDigit
    rw [wkb1_t (q_digit X T (by omega))]
    by_cases h : 48 ≤ dv L tx p ∧ dv L tx p ≤ 57
    · obtain ⟨A', a1, a2⟩ := AR_add hc R (dv L tx p - 48)
      rw [if_pos h, if_pos h, if_neg (oI_m1 (by omega)), wkb2_t a1, wkl_t, nI_1]
      exact ⟨A', rfl, a2⟩
    · rw [if_neg h, if_neg h, if_pos rfl]
      exact ⟨A, rfl, R⟩
  rw [if_neg (show ¬ nI x = (63 : Int32) from ne 63 (by decide) e3), if_neg e3]
  by_cases e4 : x = 126
  · subst e4
    rw [if_pos (show nI 126 = (126 : Int32) from rfl), if_pos rfl]
    have hs : f_X7_readSign Zm (nI L) Zf (nI p) 32 = _ := q_sign (c := 32) X T (by omega) (by decide) (by decide)
    by_cases h : dv L tx p = 32
    · rw [if_pos h] at hs
      obtain ⟨A', a1, a2⟩ := q_number X T hc (p + 1) (by omega) R
      rw [wkb2_t hs, if_neg one_ne, wkb4_t a1, bI_gbo, if_pos h]
      exact ⟨A', rfl, a2⟩
    · rw [if_neg h] at hs
      obtain ⟨A', a1, a2⟩ := AR_add hc R 1
      rw [wkb2_t hs, if_pos rfl, wkb2_t (show f_X7_addArgument (nI c) A (nI (min vs.length 4)) 1 = _ from a1), if_neg h]
      exact ⟨A', rfl, a2⟩
  rw [if_neg (show ¬ nI x = (126 : Int32) from ne 126 (by decide) e4), if_neg e4]
  have hs := q_sign X T (p := p) (by omega) x1 x2
  by_cases h : dv L tx p = x
  · rw [if_pos h] at hs
    rw [wkb2_t hs, if_pos h]
    exact ⟨A, rfl, R⟩
  · rw [if_neg h] at hs
    rw [wkb2_t hs, if_neg h]
    exact ⟨A, rfl, R⟩
/-! the forms -/
def form (k : Nat) : List Nat := sTxt.getD k []
theorem form_len : ∀ k, k < 8 → f_J0_length_8abf5 k = some (nI (form k).length) ∧ (form k).length ≤ 15 ∧ ∀ i, i < 15 → i < (form k).length → f_J0_charAt_5068e k (nI i) = some (nI ((form k).getD i 0)) ∧ 0 < (form k).getD i 0 ∧ (form k).getD i 0 < 128 := by decide +kernel
theorem pt_le (f : Nat → Nat) (x p : Nat) (vs : List Nat) : p ≤ (pt f x p vs).2.1 ∧ (pt f x p vs).2.1 ≤ p + 10 := by
  unfold pt
  have a := nr_ge' f 4 p 0
  have b := dr_ge f 10 p 0 0
  have c := nr_ge' f 4 (p + 1) 0
  split
  · exact ⟨a.1, by show (nr f 4 p 0).1 ≤ _; omega⟩
  · split
    · exact ⟨b.1, b.2⟩
    · split
      · split
        · exact ⟨by show p ≤ p + 1; omega, by show p + 1 ≤ _; omega⟩
        · exact ⟨Nat.le_refl _, by show p ≤ _; omega⟩
      · split
        · split
          · exact ⟨by show p ≤ (nr f 4 (p + 1) 0).1; omega, by show (nr f 4 (p + 1) 0).1 ≤ _; omega⟩
          · exact ⟨Nat.le_refl _, by show p ≤ _; omega⟩
        · split
          · exact ⟨by show p ≤ p + 1; omega, by show p + 1 ≤ _; omega⟩
          · exact ⟨Nat.le_refl _, by show p ≤ _; omega⟩
theorem q_form {Zm L c k : Nat} {Zf tx : Nat → Int32} (X : XT Zm L Zf tx) (T : TX L tx) (hc : c < 12) (hk : k < 8) (p0 : Nat) (h0 : p0 < 2 ^ 18) {A0 A : Nat → Int32} (R : AR c A0 A []) :
    ∃ A', f_X7_readForm Zm (nI L) Zf (nI p0) (nI c) A 0 k = some (bI (fm (dv L tx) (form k) p0 []).1, nI (fm (dv L tx) (form k) p0 []).2.1, A', nI (min (fm (dv L tx) (form k) p0 []).2.2.length 4)) ∧ AR c A0 A' (fm (dv L tx) (form k) p0 []).2.2 := by
  obtain ⟨l1, l2, l3⟩ := form_len k hk
  have key : ∀ d i p vs (A : Nat → Int32) nn, i + d = (form k).length → d < nn → p ≤ p0 + 10 * i → AR c A0 A vs → ∃ A', f_X7_readForm_L2 Zm (nI L) Zf (nI c) k nn (nI i) (nI p) A (nI (min vs.length 4)) = some (bI (fm (dv L tx) ((form k).drop i) p vs).1, nI (fm (dv L tx) ((form k).drop i) p vs).2.1, A', nI (min (fm (dv L tx) ((form k).drop i) p vs).2.2.length 4)) ∧ AR c A0 A' (fm (dv L tx) ((form k).drop i) p vs).2.2 := by
    intro d
    induction d with
    | zero =>
      intro i p vs A nn h1 h2 h3 R
      obtain ⟨q, rfl⟩ : ∃ q, nn = q + 1 := ⟨nn - 1, by omega⟩
      rw [f_X7_readForm_L2, gok_t' (by omega), wkb1_t l1, if_pos (nI_le (by omega) (by omega)), List.drop_of_length_le (by omega)]
      exact ⟨A, rfl, R⟩
    | succ d ih =>
      intro i p vs A nn h1 h2 h3 R
      obtain ⟨q, rfl⟩ : ∃ q, nn = q + 1 := ⟨nn - 1, by omega⟩
      obtain ⟨m1, m2, m3⟩ := l3 i (by omega) (by omega)
      obtain ⟨A', a1, a2⟩ := q_part X T hc p _ (by omega) m2 m3 R
      have hd : (form k).drop i = (form k).getD i 0 :: (form k).drop (i + 1) := by
        rw [List.drop_eq_getElem_cons (by omega)]
        congr 1
        rw [List.getD_eq_getElem?_getD, List.getElem?_eq_getElem (by omega)]
        rfl
      rw [f_X7_readForm_L2, gok_t' (by omega), wkb1_t l1, if_neg (nI_ge (by omega) (by omega)), gok_t' (by omega), wkb1_t m1, wkb4_t a1, hd, fm]
      have hpt := pt_le (dv L tx) ((form k).getD i 0) p vs
      cases hb : (pt (dv L tx) ((form k).getD i 0) p vs).1 with
      | false =>
        rw [ifb_f, if_neg (by decide)]
        exact ⟨A', rfl, a2⟩
      | true =>
        rw [ifb_t, if_pos rfl, nI_1]
        exact ih (i + 1) _ _ A' q (by omega) (by omega) (by omega) a2
  have := key (form k).length 0 p0 [] A FU (by omega) (by show _ < 5000; omega) (by omega) R
  rw [List.drop_zero] at this
  exact this
