/-! PURE LAYER: columns, as the class tells them -/
theorem ifb_f {α : Type} {A B : α} : (if bI false = 0 then A else B) = A := rfl
theorem ifb_t {α : Type} {A B : α} : (if bI true = 0 then A else B) = B := rfl
theorem bIT {b : Bool} (h : b = true) : some (1 : Int32) = some (bI b) := by rw [h]; rfl
theorem bIF {b : Bool} (h : ¬ b = true) : some (0 : Int32) = some (bI b) := by rw [Bool.eq_false_iff.mpr h]; rfl
def lw (w s : Nat → Nat) (a b : Nat) : Bool := decide (w b + s b < w a + s a) || (decide (w a + s a = w b + s b) && decide (a < b))
theorem lw_iff {w s : Nat → Nat} {a b : Nat} : lw w s a b = true ↔ (w b + s b < w a + s a ∨ (w a + s a = w b + s b ∧ a < b)) := by
  simp [lw]
def rk (n : Nat) (w s : Nat → Nat) (m a : Nat) : Nat := sm n (fun o => (m.testBit o && lw w s o a).toNat)
def ld (n : Nat) (w s : Nat → Nat) (m a : Nat) : Nat := sm n (fun o => if m.testBit o && lw w s a o then w o else 0)
def tl (n : Nat) (h : Nat → Nat) (m : Nat) : Nat := sm n (fun o => if m.testBit o then h o else 0)
def mn (n m : Nat) : Nat := sm n (fun o => (m.testBit o).toNat)
def ovk (n : Nat) (w s : Nat → Nat) (m : Nat) : Nat → Option Nat
  | 0 => none
  | k + 1 => if m.testBit k && decide (s k < ld n w s m k) && (ovk n w s m k).all (fun b => lw w s k b) then some k else ovk n w s m k
def ov (n : Nat) (w s : Nat → Nat) (m : Nat) : Option Nat := ovk n w s m n
def oI : Option Nat → Int32
  | none => -1
  | some a => nI a
theorem rk_s (k : Nat) (w s : Nat → Nat) (m a : Nat) : rk (k + 1) w s m a = rk k w s m a + (m.testBit k && lw w s k a).toNat := rfl
theorem tl_s (k : Nat) (h : Nat → Nat) (m : Nat) : tl (k + 1) h m = tl k h m + if m.testBit k then h k else 0 := rfl
def tr (n : Nat) (W S : Nat → Int32) (w s : Nat → Nat) : Prop := n ≤ 6 ∧ ∀ k, k < n → W k = nI (w k) ∧ S k = nI (s k) ∧ w k ≤ 120 ∧ s k ≤ 400
theorem rk_le (n : Nat) (w s : Nat → Nat) (m a : Nat) : rk n w s m a ≤ n := by
  have := sm_bound (n := n) (c := 1) (f := fun o => (m.testBit o && lw w s o a).toNat) (fun k _ => by cases (m.testBit k && lw w s k a) <;> decide)
  simpa [rk] using this
theorem ld_le {n : Nat} {W S : Nat → Int32} {w s : Nat → Nat} (T : tr n W S w s) (m a : Nat) : ld n w s m a ≤ 720 := by
  have := sm_bound (n := n) (c := 120) (f := fun o => if m.testBit o && lw w s a o then w o else 0) (fun k hk => by
    have := (T.2 k hk).2.2.1
    split <;> omega)
  have h6 := T.1
  have : n * 120 ≤ 6 * 120 := Nat.mul_le_mul_right _ h6
  unfold ld
  omega
theorem q_has {n k : Nat} (hn : n ≤ 6) (hk : k < n) : f_X9_has (nI n) (nI k) = some 1 := by
  unfold f_X9_has
  rw [if_neg (nI_pos (by omega)), if_neg (nI_ge hk (by omega))]
theorem q_has0 {n : Nat} {x : Int32} (h : x < 0 ∨ nI n ≤ x) : f_X9_has (nI n) x = some 0 := by
  unfold f_X9_has
  by_cases q : x < 0
  · rw [if_pos q]
  · rw [if_neg q, if_pos (h.resolve_left q)]
theorem q_isSet {n m : Nat} (hn : n ≤ 6) (h0 : 0 < m) (hm : m < 2 ^ n) : f_X9_isSet (nI n) (nI m) = some 1 := by
  have h6 : 2 ^ n ≤ 64 := Nat.pow_le_pow_right (n := 2) (by decide) hn
  unfold f_X9_isSet
  rw [if_neg (nI_nle h0 (by omega)), shl1 (by omega), if_neg (nI_ge hm (by omega))]
theorem q_isSet0 {n : Nat} {x : Int32} (hn : n ≤ 6) (h : x ≤ 0 ∨ nI (2 ^ n) ≤ x) : f_X9_isSet (nI n) x = some 0 := by
  unfold f_X9_isSet
  by_cases q : x ≤ 0
  · rw [if_pos q]
  · rw [if_neg q, shl1 (by omega), if_pos (h.resolve_left q)]
/-- a set, or none -/
theorem set_or (n : Nat) (hn : n ≤ 6) (x : Int32) : (x ≤ 0 ∨ nI (2 ^ n) ≤ x) ∨ ∃ m, 0 < m ∧ m < 2 ^ n ∧ x = nI m := by
  have h6 : 2 ^ n ≤ 64 := Nat.pow_le_pow_right (n := 2) (by decide) hn
  rcases pk_ix x (n := 2 ^ n) (by omega) with h | h | ⟨j, hj, rfl⟩
  · exact Or.inl (Or.inl (Int32.le_of_lt h))
  · exact Or.inl (Or.inr h)
  · by_cases h0 : j = 0
    · subst h0
      exact Or.inl (Or.inl (by rw [nI_0]; decide))
    · exact Or.inr ⟨j, by omega, hj, rfl⟩
theorem q_isMember {n m k : Nat} (hn : n ≤ 6) (hm : m < 64) (hk : k < n) : f_X9_isMember (nI n) (nI m) (nI k) = some (bI (m.testBit k)) := by
  unfold f_X9_isMember
  rw [if_neg (nI_pos (by omega)), if_neg (nI_ge hk (by omega)), bit1 (by omega) (by omega)]
  cases m.testBit k
  · exact if_neg (by decide)
  · exact if_pos rfl
theorem q_isMember0 {n : Nat} {x y : Int32} (h : y < 0 ∨ nI n ≤ y) : f_X9_isMember (nI n) x y = some 0 := by
  unfold f_X9_isMember
  by_cases q : y < 0
  · rw [if_pos q]
  · rw [if_neg q, if_pos (h.resolve_left q)]
theorem q_isBelow {n a b : Nat} {W S : Nat → Int32} {w s : Nat → Nat} (T : tr n W S w s) (ha : a < n) (hb : b < n) : f_X9_isBelow W S (nI a) (nI b) = some (bI (lw w s a b)) := by
  obtain ⟨hn, T⟩ := T
  obtain ⟨a1, a2, a3, a4⟩ := T a ha
  obtain ⟨b1, b2, b3, b4⟩ := T b hb
  have ia : vp_in (nI a) 6 := vp_in_nI (by omega) (by decide)
  have ib : vp_in (nI b) 6 := vp_in_nI (by omega) (by decide)
  unfold f_X9_isBelow
  simp only [gin_t ia, gin_t ib, wkl_t, nI_clamp (show a < 2 ^ 31 by omega), nI_clamp (show b < 2 ^ 31 by omega), a1, a2, b1, b2, nI_add]
  simp only [nI_eq (show w a + s a < 2 ^ 31 by omega) (show w b + s b < 2 ^ 31 by omega), nI_leI (show b < 2 ^ 31 by omega) (show a < 2 ^ 31 by omega), nI_leI (show w a + s a < 2 ^ 31 by omega) (show w b + s b < 2 ^ 31 by omega)]
  by_cases h1 : w a + s a = w b + s b
  · rw [if_pos h1]
    by_cases h2 : b ≤ a
    · rw [if_pos h2]
      exact bIF (fun q => by rw [lw_iff] at q; omega)
    · rw [if_neg h2]
      exact bIT (lw_iff.mpr (by omega))
  · rw [if_neg h1]
    by_cases h2 : w a + s a ≤ w b + s b
    · rw [if_pos h2]
      exact bIF (fun q => by rw [lw_iff] at q; omega)
    · rw [if_neg h2]
      exact bIT (lw_iff.mpr (by omega))
theorem q_placeOf {n a m : Nat} {W S : Nat → Int32} {w s : Nat → Nat} (T : tr n W S w s) (hm : m < 64) (ha : a < n) : f_X9_placeOf (nI n) W S (nI m) (nI a) = some (nI (rk n w s m a)) := by
  have hn := T.1
  unfold f_X9_placeOf
  refine lupF (fun nn acc i => f_X9_placeOf_L5 (nI n) W S (nI m) (nI a) nn acc i) 0 n (fun k => nI (rk k w s m a)) _ (Nat.zero_le _) (by omega) ?_ ?_
  · intro nn
    show f_X9_placeOf_L5 (nI n) W S (nI m) (nI a) (nn + 1) (nI (rk n w s m a)) (nI n) = _
    rw [f_X9_placeOf_L5]
    exact if_pos (nI_le (Nat.le_refl _) (by omega))
  · intro nn k _ hk
    show f_X9_placeOf_L5 (nI n) W S (nI m) (nI a) (nn + 1) (nI (rk k w s m a)) (nI k) = f_X9_placeOf_L5 (nI n) W S (nI m) (nI a) nn (nI (rk (k + 1) w s m a)) (nI (k + 1))
    rw [f_X9_placeOf_L5, if_neg (nI_ge hk (by omega)), wkb1_t (q_isMember hn hm hk), rk_s]
    cases hb : m.testBit k
    · rw [ifb_f, nI_1]
      rfl
    · rw [ifb_t, wkb1_t (q_isBelow T hk ha)]
      cases hl : lw w s k a
      · rw [ifb_f, nI_1]
        rfl
      · rw [ifb_t, nI_1, nI_1]
        rfl
theorem q_loadOf {n a m : Nat} {W S : Nat → Int32} {w s : Nat → Nat} (T : tr n W S w s) (hm : m < 64) (ha : a < n) : f_X9_loadOf (nI n) W S (nI m) (nI a) = some (nI (ld n w s m a)) := by
  have hn := T.1
  unfold f_X9_loadOf
  refine lupF (fun nn acc i => f_X9_loadOf_L5 (nI n) W S (nI m) (nI a) nn acc i) 0 n (fun k => nI (ld k w s m a)) _ (Nat.zero_le _) (by omega) ?_ ?_
  · intro nn
    show f_X9_loadOf_L5 (nI n) W S (nI m) (nI a) (nn + 1) (nI (ld n w s m a)) (nI n) = _
    rw [f_X9_loadOf_L5]
    exact if_pos (nI_le (Nat.le_refl _) (by omega))
  · intro nn k _ hk
    show f_X9_loadOf_L5 (nI n) W S (nI m) (nI a) (nn + 1) (nI (ld k w s m a)) (nI k) = f_X9_loadOf_L5 (nI n) W S (nI m) (nI a) nn (nI (ld k w s m a + if m.testBit k && lw w s a k then w k else 0)) (nI (k + 1))
    rw [f_X9_loadOf_L5, if_neg (nI_ge hk (by omega)), wkb1_t (q_isMember hn hm hk)]
    cases hb : m.testBit k
    · rw [ifb_f, nI_1]
      rfl
    · rw [ifb_t, wkb1_t (q_isBelow T ha hk)]
      cases hl : lw w s a k
      · rw [ifb_f, nI_1]
        rfl
      · rw [ifb_t, gin_t (vp_in_nI (by omega) (by decide)), nI_clamp (by omega), (T.2 k hk).1, nI_add, nI_1]
        rfl
theorem q_heightOf {n m : Nat} {Hh : Nat → Int32} {h : Nat → Nat} (hn : n ≤ 6) (hH : ∀ k, k < n → Hh k = nI (h k)) (hm : m < 64) : f_X9_heightOf (nI n) Hh (nI m) = some (nI (tl n h m)) := by
  unfold f_X9_heightOf
  refine lupF (fun nn acc i => f_X9_heightOf_L4 (nI n) Hh (nI m) nn acc i) 0 n (fun k => nI (tl k h m)) _ (Nat.zero_le _) (by omega) ?_ ?_
  · intro nn
    show f_X9_heightOf_L4 (nI n) Hh (nI m) (nn + 1) (nI (tl n h m)) (nI n) = _
    rw [f_X9_heightOf_L4]
    exact if_pos (nI_le (Nat.le_refl _) (by omega))
  · intro nn k _ hk
    show f_X9_heightOf_L4 (nI n) Hh (nI m) (nn + 1) (nI (tl k h m)) (nI k) = f_X9_heightOf_L4 (nI n) Hh (nI m) nn (nI (tl (k + 1) h m)) (nI (k + 1))
    rw [f_X9_heightOf_L4, if_neg (nI_ge hk (by omega)), wkb1_t (q_isMember hn hm hk), tl_s]
    cases hb : m.testBit k
    · rw [ifb_f, nI_1]
      rfl
    · rw [ifb_t, gin_t (vp_in_nI (by omega) (by decide)), nI_clamp (by omega), hH k hk, nI_add, nI_1]
      rfl
theorem oI_m1 {a : Nat} (h : a < 2 ^ 31) : ¬ nI a = -1 := fun e => by
  have h1 := congrArg Int32.toInt e
  rw [nI_toInt h] at h1
  have : ((-1 : Int32)).toInt = -1 := by decide
  omega
theorem ovk_lt {n : Nat} {w s : Nat → Nat} {m : Nat} : ∀ {k a : Nat}, ovk n w s m k = some a → a < k ∧ m.testBit a = true ∧ s a < ld n w s m a := by
  intro k
  induction k with
  | zero => intro a h; cases h
  | succ k ih =>
    intro a h
    unfold ovk at h
    split at h
    · rename_i q
      obtain rfl : k = a := Option.some.inj h
      simp at q
      exact ⟨by omega, q.1.1, q.1.2⟩
    · have := ih h
      exact ⟨by omega, this.2⟩
theorem q_overloadedOf {n m : Nat} {W S : Nat → Int32} {w s : Nat → Nat} (T : tr n W S w s) (hm : m < 64) : f_X9_overloadedOf (nI n) W S (nI m) = some (oI (ov n w s m)) := by
  have hn := T.1
  unfold f_X9_overloadedOf
  refine lupF (fun nn acc i => f_X9_overloadedOf_L4 (nI n) W S (nI m) nn acc i) 0 n (fun k => oI (ovk n w s m k)) _ (Nat.zero_le _) (by omega) ?_ ?_
  · intro nn
    show f_X9_overloadedOf_L4 (nI n) W S (nI m) (nn + 1) (oI (ovk n w s m n)) (nI n) = _
    rw [f_X9_overloadedOf_L4]
    exact if_pos (nI_le (Nat.le_refl _) (by omega))
  · intro nn k _ hk
    show f_X9_overloadedOf_L4 (nI n) W S (nI m) (nn + 1) (oI (ovk n w s m k)) (nI k) = f_X9_overloadedOf_L4 (nI n) W S (nI m) nn (oI (ovk n w s m (k + 1))) (nI (k + 1))
    rw [f_X9_overloadedOf_L4, if_neg (nI_ge hk (by omega)), wkb1_t (q_isMember hn hm hk), ovk]
    cases hb : m.testBit k
    · rw [ifb_f, nI_1]
      rfl
    · have hS := (T.2 k hk).2.1
      have h4 := (T.2 k hk).2.2.2
      have hl := ld_le T m k
      rw [ifb_t, wkb1_t (q_loadOf T hm hk)]
      simp only [gin_t (show vp_in (nI k) 6 from vp_in_nI (by omega) (by decide)), nI_clamp (show k < 2 ^ 31 by omega), hS, nI_leI (show ld n w s m k < 2 ^ 31 by omega) (show s k < 2 ^ 31 by omega), nI_1]
      by_cases q : ld n w s m k ≤ s k
      · rw [if_pos q]
        have : decide (s k < ld n w s m k) = false := by simp; omega
        rw [this]
        rfl
      · rw [if_neg q]
        have : decide (s k < ld n w s m k) = true := by simp; omega
        rw [this]
        cases ho : ovk n w s m k with
        | none => rfl
        | some b =>
          have hbk := (ovk_lt ho).1
          rw [show oI (some b) = nI b from rfl, if_neg (oI_m1 (by omega)), wkb1_t (q_isBelow T hk (show b < n by omega))]
          show _ = f_X9_overloadedOf_L4 (nI n) W S (nI m) nn (oI (if lw w s k b = true then some k else some b)) (nI (k + 1))
          cases hq : lw w s k b
          · rfl
          · rfl
