/-! PURE LAYER: overloaded ones, places, damages, nights -/
theorem ovk_none {n : Nat} {w s : Nat → Nat} {m : Nat} : ∀ {k : Nat}, ovk n w s m k = none → ∀ a, a < k → m.testBit a = true → ld n w s m a ≤ s a := by
  intro k
  induction k with
  | zero => intro _ a h; omega
  | succ k ih =>
    intro h a ha hm
    rw [ovk] at h
    split at h
    · cases h
    · rename_i q
      by_cases e : a = k
      · subst e
        simp [h, hm] at q
        exact q
      · exact ih h a (by omega) hm
theorem ovk_some {n : Nat} {w s : Nat → Nat} {m : Nat} : ∀ {k a : Nat}, ovk n w s m k = some a → ∀ b, b < k → m.testBit b = true → s b < ld n w s m b → b = a ∨ lw w s a b = true := by
  intro k
  induction k with
  | zero => intro a _ b h; omega
  | succ k ih =>
    intro a h b hb hm hlt
    rw [ovk] at h
    split at h
    · rename_i q
      obtain rfl : k = a := Option.some.inj h
      by_cases e : b = k
      · exact Or.inl e
      · right
        simp at q
        cases ho : ovk n w s m k with
        | none =>
          have := ovk_none ho b (by omega) hm
          omega
        | some c =>
          have hc : lw w s k c = true := by
            have := q.2
            rw [ho] at this
            exact this
          rcases ih ho b (by omega) hm hlt with h1 | h1
          · rw [h1]; exact hc
          · exact lw_tr hc h1
    · rename_i q
      have ha := ovk_lt h
      by_cases e : b = k
      · subst e
        right
        simp [h, hm, hlt] at q
        exact lw_tot (by omega) q
      · exact ih h b (by omega) hm hlt
theorem ov_none {n : Nat} {w s : Nat → Nat} {m : Nat} (h : ov n w s m = none) : ∀ a, a < n → m.testBit a = true → ld n w s m a ≤ s a := ovk_none h
theorem ov_some {n : Nat} {w s : Nat → Nat} {m a : Nat} (h : ov n w s m = some a) : a < n ∧ m.testBit a = true ∧ s a < ld n w s m a ∧ ∀ b, b < n → m.testBit b = true → s b < ld n w s m b → b = a ∨ lw w s a b = true :=
  ⟨(ovk_lt h).1, (ovk_lt h).2.1, (ovk_lt h).2.2, ovk_some h⟩
def oR (n : Nat) (w s : Nat → Nat) (m : Nat) : Int32 := (ov n w s m).elim (-1) (fun a => nI (rk n w s m a))
theorem oR_neg {n : Nat} {w s : Nat → Nat} {m : Nat} (h : ov n w s m = none) : oR n w s m = -1 := by unfold oR; rw [h]; rfl
theorem oR_pos {n : Nat} {w s : Nat → Nat} {m a : Nat} (h : ov n w s m = some a) : oR n w s m = nI (rk n w s m a) := by unfold oR; rw [h]; rfl
theorem q_breaks {n m : Nat} {g col loads : Nat → Int32} (G : gA n g) (hL : laid n (gW g) (gS g) m col loads) : f_X11_breaks g col loads (nI (mn n m)) = some (oR n (gW g) (gS g) m) := by
  have hn := G.1
  have hM := mn_le n m
  have T := gA_tr G
  unfold f_X11_breaks
  have step : ∀ nn p, p < mn n m → (∀ a, a < n → m.testBit a = true → rk n (gW g) (gS g) m a = p → ld n (gW g) (gS g) m a ≤ gS g a) → f_X11_breaks_L2 g col loads (nI (mn n m)) (nn + 1) (nI p) = f_X11_breaks_L2 g col loads (nI (mn n m)) nn (nI (p + 1)) := by
    intro nn p hp hno
    obtain ⟨a, ha, h1, h2, h3, h4⟩ := hL p hp
    have hl := ld_le T m a
    have ip : vp_in (nI p) 6 := vp_in_nI (by omega) (by decide)
    rw [f_X11_breaks_L2, if_neg (nI_ge hp (by omega))]
    simp only [gin_t ip, nI_clamp (show p < 2 ^ 31 by omega), h3, h4, wkb1_t (q_of1 (g := g) (show a < 6 by omega)), (G.2.2 a ha).2.1.1, nI_1]
    exact if_pos (nI_le (hno a ha h1 h2) (by have := (G.2.2 a ha).2.1.2; omega))
  cases ho : ov n (gW g) (gS g) m with
  | none =>
    rw [oR_neg ho]
    refine lupF (fun nn (_ : Unit) i => f_X11_breaks_L2 g col loads (nI (mn n m)) nn i) 0 (mn n m) (fun _ => ()) _ (Nat.zero_le _) (by omega) ?_ ?_
    · intro nn
      show f_X11_breaks_L2 g col loads (nI (mn n m)) (nn + 1) (nI (mn n m)) = _
      rw [f_X11_breaks_L2]
      exact if_pos (nI_le (Nat.le_refl _) (by omega))
    · intro nn p _ hp
      exact step nn p hp (fun a ha h1 _ => ov_none ho a ha h1)
  | some a =>
    rw [oR_pos ho]
    obtain ⟨ha, h1, h2, h3⟩ := ov_some ho
    have hr := rk_mn (w := gW g) (s := gS g) ha h1
    refine lupF (fun nn (_ : Unit) i => f_X11_breaks_L2 g col loads (nI (mn n m)) nn i) 0 (rk n (gW g) (gS g) m a) (fun _ => ()) _ (Nat.zero_le _) (by omega) ?_ ?_
    · intro nn
      show f_X11_breaks_L2 g col loads (nI (mn n m)) (nn + 1) (nI (rk n (gW g) (gS g) m a)) = _
      obtain ⟨b, hb, k1, k2, k3, k4⟩ := hL _ hr
      obtain rfl : b = a := rk_inj hb ha k1 h1 k2
      have hl := ld_le T m b
      have ip : vp_in (nI (rk n (gW g) (gS g) m b)) 6 := vp_in_nI (by omega) (by decide)
      rw [f_X11_breaks_L2, if_neg (nI_ge hr (by omega))]
      simp only [gin_t ip, nI_clamp (show rk n (gW g) (gS g) m b < 2 ^ 31 by omega), k3, k4, wkb1_t (q_of1 (g := g) (show b < 6 by omega)), (G.2.2 b ha).2.1.1]
      exact if_neg (nI_ge h2 (by omega))
    · intro nn p _ hp
      refine step nn p (by omega) (fun b hb k1 k2 => ?_)
      by_cases q : ld n (gW g) (gS g) m b ≤ gS g b
      · exact q
      · exfalso
        rcases h3 b hb k1 (by omega) with rfl | h4
        · omega
        · have := rk_lt ha h1 h4 (n := n)
          omega
theorem mn_ext {n N m : Nat} (h : n ≤ N) (hm : m < 2 ^ n) : mn N m = mn n m := by
  induction N with
  | zero => obtain rfl : n = 0 := by omega
            rfl
  | succ N ih =>
    by_cases e : n = N + 1
    · rw [e]
    · rw [mn_s, ih (by omega), Nat.testBit_lt_two_pow (Nat.lt_of_lt_of_le hm (Nat.pow_le_pow_right (by decide) (by omega)))]
      rfl
theorem bc64 : ∀ m, m < 64 → f_J6_bitCount_0f7a4 (nI m) = some (nI (mn 6 m)) := by decide +kernel
theorem q_bitCount {n m : Nat} (hn : n ≤ 6) (hm : m < 2 ^ n) : f_J6_bitCount_0f7a4 (nI m) = some (nI (mn n m)) := by
  have h6 : 2 ^ n ≤ 64 := Nat.pow_le_pow_right (n := 2) (by decide) hn
  rw [bc64 m (by omega), mn_ext hn hm]
theorem q_countAbove {n m a : Nat} {W S : Nat → Int32} {w s : Nat → Nat} (T : tr n W S w s) (hm : m < 2 ^ n) (ha : a < n) (h1 : m.testBit a = true) : f_X9_countAbove (nI n) W S (nI m) (nI a) = some (nI (mn n m - 1 - rk n w s m a)) := by
  have h6 : 2 ^ n ≤ 64 := Nat.pow_le_pow_right (n := 2) (by decide) T.1
  have hr := rk_mn (w := w) (s := s) ha h1
  unfold f_X9_countAbove
  rw [wkb1_t (q_bitCount T.1 hm), wkb1_t (q_placeOf T (by omega) ha), show (1 : Int32) = nI 1 from rfl, pk_sub (by omega), pk_sub (by omega)]
def dm (n : Nat) (w s : Nat → Nat) (m : Nat) : Nat := (ov n w s m).elim 0 (fun a => 10 * (mn n m - 1 - rk n w s m a))
theorem dm_0 {n : Nat} {w s : Nat → Nat} {m : Nat} (h : ov n w s m = none) : dm n w s m = 0 := by unfold dm; rw [h]; rfl
theorem dm_1 {n : Nat} {w s : Nat → Nat} {m a : Nat} (h : ov n w s m = some a) : dm n w s m = 10 * (mn n m - 1 - rk n w s m a) := by unfold dm; rw [h]; rfl
theorem q_damagesOf {n m : Nat} {W S : Nat → Int32} {w s : Nat → Nat} (T : tr n W S w s) (hm : m < 2 ^ n) : f_X9_damagesOf (nI n) W S (nI m) = some (nI (dm n w s m)) := by
  have h6 : 2 ^ n ≤ 64 := Nat.pow_le_pow_right (n := 2) (by decide) T.1
  have hn := T.1
  unfold f_X9_damagesOf
  rw [wkb1_t (q_overloadedOf T (by omega))]
  cases ho : ov n w s m with
  | none => rw [dm_0 ho]; rfl
  | some a =>
    obtain ⟨ha, h1, h2, h3⟩ := ov_some ho
    rw [show oI (some a) = nI a from rfl, if_neg (oI_m1 (by omega)), wkb1_t (q_countAbove T hm ha h1), dm_1 ho, show (10 : Int32) = nI 10 from rfl, pk_mul]
theorem q_costs {n m : Nat} {g col loads : Nat → Int32} (G : gA n g) (hL : laid n (gW g) (gS g) m col loads) : f_X11_costs g col loads (nI (mn n m)) = some (nI (dm n (gW g) (gS g) m)) := by
  have hn := G.1
  have hM := mn_le n m
  unfold f_X11_costs
  rw [wkb1_t (q_breaks G hL)]
  cases ho : ov n (gW g) (gS g) m with
  | none => rw [dm_0 ho, oR_neg ho]; rfl
  | some a =>
    obtain ⟨ha, h1, h2, h3⟩ := ov_some ho
    have hr := rk_mn (w := gW g) (s := gS g) ha h1
    rw [oR_pos ho, if_pos (nI_pos' (by omega)), wkb1_t (q_breaks G hL), oR_pos ho, dm_1 ho, show (1 : Int32) = nI 1 from rfl, pk_sub (by omega), pk_sub (by omega), show (10 : Int32) = nI 10 from rfl, pk_mul]
theorem q_tall {n m : Nat} {g : Nat → Int32} (G : gA n g) (hm : m < 64) : f_X11_tall g (nI m) = some (nI (tl n (gH g) m)) := by
  have hn := G.1
  unfold f_X11_tall
  refine lupF (fun nn acc i => f_X11_tall_L4 g (nI m) nn acc i) 0 n (fun k => nI (tl k (gH g) m)) _ (Nat.zero_le _) (by omega) ?_ ?_
  · intro nn
    show f_X11_tall_L4 g (nI m) (nn + 1) (nI (tl n (gH g) m)) (nI n) = _
    rw [f_X11_tall_L4, G.2.1]
    exact if_pos (nI_le (Nat.le_refl _) (by omega))
  · intro nn k _ hk
    show f_X11_tall_L4 g (nI m) (nn + 1) (nI (tl k (gH g) m)) (nI k) = f_X11_tall_L4 g (nI m) nn (nI (tl (k + 1) (gH g) m)) (nI (k + 1))
    rw [f_X11_tall_L4, G.2.1, if_neg (nI_ge hk (by omega)), wkb1_t (q_of2 (g := g) (show k < 6 by omega)), (G.2.2 k hk).2.2.1.1, bit1 (by omega) (by omega), tl_s, nI_1]
    cases hb : m.testBit k
    · have e : bI false * nI (gH g k) = nI 0 := by
        rw [show bI false = nI 0 from rfl, pk_mul, Nat.zero_mul]
      rw [e, nI_add]
      rfl
    · have e : bI true * nI (gH g k) = nI (gH g k) := by
        rw [show bI true = nI 1 from rfl, pk_mul, Nat.one_mul]
      rw [e, nI_add]
      rfl
theorem q_memberAt {n m a : Nat} {W S : Nat → Int32} {w s : Nat → Nat} (T : tr n W S w s) (hm : m < 64) (ha : a < n) (h1 : m.testBit a = true) : f_X9_memberAt (nI n) W S (nI m) (nI (rk n w s m a)) = some (nI a) := by
  have hn := T.1
  have hr := rk_le n w s m a
  unfold f_X9_memberAt
  refine lupF (fun nn (_ : Unit) i => f_X9_memberAt_L2 (nI n) W S (nI m) (nI (rk n w s m a)) nn i) 0 a (fun _ => ()) _ (Nat.zero_le _) (by omega) ?_ ?_
  · intro nn
    show f_X9_memberAt_L2 (nI n) W S (nI m) (nI (rk n w s m a)) (nn + 1) (nI a) = _
    rw [f_X9_memberAt_L2, if_neg (nI_ge ha (by omega)), wkb1_t (q_isMember hn hm ha), h1, ifb_t, wkb1_t (q_placeOf T hm ha)]
    exact if_pos rfl
  · intro nn k _ hk
    show f_X9_memberAt_L2 (nI n) W S (nI m) (nI (rk n w s m a)) (nn + 1) (nI k) = f_X9_memberAt_L2 (nI n) W S (nI m) (nI (rk n w s m a)) nn (nI (k + 1))
    rw [f_X9_memberAt_L2, if_neg (nI_ge (show k < n by omega) (by omega)), wkb1_t (q_isMember hn hm (by omega)), nI_1]
    cases hb : m.testBit k
    · rw [ifb_f]
    · have hrk := rk_le n w s m k
      rw [ifb_t, wkb1_t (q_placeOf T hm (by omega))]
      exact if_neg (fun e => by
        have e2 := (nI_eq (by omega) (by omega)).mp e
        have := rk_inj (show k < n by omega) ha hb h1 e2
        omega)
theorem q_memberAt0 {n m : Nat} {W S : Nat → Int32} {w s : Nat → Nat} {y : Int32} (T : tr n W S w s) (hm : m < 64) (hy : ∀ a, a < n → m.testBit a = true → nI (rk n w s m a) ≠ y) : f_X9_memberAt (nI n) W S (nI m) y = some (-1) := by
  have hn := T.1
  unfold f_X9_memberAt
  refine lupF (fun nn (_ : Unit) i => f_X9_memberAt_L2 (nI n) W S (nI m) y nn i) 0 n (fun _ => ()) _ (Nat.zero_le _) (by omega) ?_ ?_
  · intro nn
    show f_X9_memberAt_L2 (nI n) W S (nI m) y (nn + 1) (nI n) = _
    rw [f_X9_memberAt_L2]
    exact if_pos (nI_le (Nat.le_refl _) (by omega))
  · intro nn k _ hk
    show f_X9_memberAt_L2 (nI n) W S (nI m) y (nn + 1) (nI k) = f_X9_memberAt_L2 (nI n) W S (nI m) y nn (nI (k + 1))
    rw [f_X9_memberAt_L2, if_neg (nI_ge hk (by omega)), wkb1_t (q_isMember hn hm hk), nI_1]
    cases hb : m.testBit k
    · rw [ifb_f]
    · rw [ifb_t, wkb1_t (q_placeOf T hm hk)]
      exact if_neg (hy k hk hb)
/-- who is fit -/
def fitm (f : Nat → Nat) : Nat → Nat
  | 0 => 0
  | k + 1 => fitm f k + if f k = 0 then 2 ^ k else 0
def fo (n : Nat) (f : Nat → Nat) (m : Nat) : Bool := decide (∀ k, k < n → m.testBit k = true → f k = 0)
theorem fo_iff {n : Nat} {f : Nat → Nat} {m : Nat} : fo n f m = true ↔ ∀ k, k < n → m.testBit k = true → f k = 0 := by simp [fo]
theorem nI_or (a b : Nat) : nI a ||| nI b = nI (a ||| b) := by
  apply Int32.toBitVec_inj.mp
  apply BitVec.eq_of_toNat_eq
  show a % 2 ^ 32 ||| b % 2 ^ 32 = (a ||| b) % 2 ^ 32
  exact (Nat.or_mod_two_pow).symm
theorem nI_and (a b : Nat) : nI a &&& nI b = nI (a &&& b) := by
  apply Int32.toBitVec_inj.mp
  apply BitVec.eq_of_toNat_eq
  show a % 2 ^ 32 &&& b % 2 ^ 32 = (a &&& b) % 2 ^ 32
  exact (Nat.and_mod_two_pow).symm
theorem or_pow {a k : Nat} (h : a < 2 ^ k) : a ||| 2 ^ k = a + 2 ^ k := by
  have := Nat.two_pow_add_eq_or_of_lt h 1
  rw [Nat.mul_one] at this
  rw [Nat.add_comm, this, Nat.or_comm]
theorem fitm_lt (f : Nat → Nat) (k : Nat) : fitm f k < 2 ^ k := by
  induction k with
  | zero => exact Nat.zero_lt_one
  | succ k ih =>
    show fitm f k + (if f k = 0 then 2 ^ k else 0) < 2 ^ (k + 1)
    rw [Nat.pow_succ]
    split <;> omega
theorem fitm_bit (f : Nat → Nat) {n k : Nat} (hk : k < n) : (fitm f n).testBit k = decide (f k = 0) := by
  induction n with
  | zero => omega
  | succ n ih =>
    have hl := fitm_lt f n
    show (fitm f n + (if f n = 0 then 2 ^ n else 0)).testBit k = _
    by_cases e : k = n
    · subst e
      by_cases q : f k = 0
      · rw [if_pos q, ← or_pow hl, Nat.testBit_or, Nat.testBit_lt_two_pow hl, Nat.testBit_two_pow_self]
        simp [q]
      · rw [if_neg q, Nat.add_zero, Nat.testBit_lt_two_pow hl]
        simp [q]
    · by_cases q : f n = 0
      · rw [if_pos q, ← or_pow hl, Nat.testBit_or, ih (by omega), Nat.testBit_two_pow]
        have : decide (n = k) = false := by simp; omega
        rw [this, Bool.or_false]
      · rw [if_neg q, Nat.add_zero, ih (by omega)]
theorem and_fit {n m : Nat} {f : Nat → Nat} (hm : m < 2 ^ n) : (m &&& fitm f n = m) ↔ fo n f m = true := by
  rw [fo_iff]
  constructor
  · intro h k hk hb
    have h2 := congrArg (fun x => x.testBit k) h
    simp only [Nat.testBit_and, fitm_bit f hk, hb, Bool.true_and] at h2
    exact of_decide_eq_true h2
  · intro h
    apply Nat.eq_of_testBit_eq
    intro k
    rw [Nat.testBit_and]
    cases hb : m.testBit k
    · rfl
    · have hk : k < n := by
        by_cases q : k < n
        · exact q
        · have := Nat.testBit_lt_two_pow (Nat.lt_of_lt_of_le hm (Nat.pow_le_pow_right (n := 2) (by decide) (show n ≤ k by omega)))
          rw [this] at hb
          cases hb
      rw [fitm_bit f hk, h k hk hb]
      rfl
theorem q_fitSet {n : Nat} {F : Nat → Int32} {f : Nat → Nat} (hn : n ≤ 6) (hF : ∀ k, k < n → F k = nI (f k) ∧ f k ≤ 3) : f_X9_fitSet (nI n) F = some (nI (fitm f n)) := by
  unfold f_X9_fitSet
  refine lupF (fun nn acc i => f_X9_fitSet_L4 (nI n) F nn acc i) 0 n (fun k => nI (fitm f k)) _ (Nat.zero_le _) (by omega) ?_ ?_
  · intro nn
    show f_X9_fitSet_L4 (nI n) F (nn + 1) (nI (fitm f n)) (nI n) = _
    rw [f_X9_fitSet_L4]
    exact if_pos (nI_le (Nat.le_refl _) (by omega))
  · intro nn k _ hk
    show f_X9_fitSet_L4 (nI n) F (nn + 1) (nI (fitm f k)) (nI k) = f_X9_fitSet_L4 (nI n) F nn (nI (fitm f k + if f k = 0 then 2 ^ k else 0)) (nI (k + 1))
    have h3 := (hF k hk).2
    rw [f_X9_fitSet_L4, if_neg (nI_ge hk (by omega)), gin_t (vp_in_nI (by omega) (by decide)), nI_clamp (by omega), (hF k hk).1, shl1 (by omega), nI_1]
    by_cases q : f k = 0
    · rw [if_pos (by rw [q]; rfl), if_pos q, nI_or, or_pow (fitm_lt f k)]
    · rw [if_neg (nI_ne0 (by omega) (by omega)), if_neg q]
      rfl
theorem q_areHurt {n m : Nat} {g : Nat → Int32} (G : gA n g) (hm : m < 64) : f_X11_areHurt g (nI m) = some (bI (!fo n (gF g) m)) := by
  have hn := G.1
  unfold f_X11_areHurt
  have step : ∀ nn k, k < n → (m.testBit k = true → gF g k = 0) → f_X11_areHurt_L2 g (nI m) (nn + 1) (nI k) = f_X11_areHurt_L2 g (nI m) nn (nI (k + 1)) := by
    intro nn k hk h
    rw [f_X11_areHurt_L2, G.2.1, if_neg (nI_ge hk (by omega)), bit1 (by omega) (by omega), nI_1]
    cases hb : m.testBit k
    · exact if_neg (by decide)
    · rw [if_pos (by rfl), wkb1_t (q_of4 (g := g) (show k < 6 by omega)), (G.2.2 k hk).2.2.2.2.1, h hb]
      exact if_pos (by decide)
  by_cases q : ∃ k, k < n ∧ m.testBit k = true ∧ gF g k ≠ 0
  · obtain ⟨k, ⟨h1, h2, h3⟩, h4⟩ := pk_least (fun k => k < n ∧ m.testBit k = true ∧ gF g k ≠ 0) q
    have e : fo n (gF g) m = false := by
      rw [Bool.eq_false_iff]
      intro h
      exact h3 (fo_iff.mp h k h1 h2)
    rw [e]
    refine lupF (fun nn (_ : Unit) i => f_X11_areHurt_L2 g (nI m) nn i) 0 k (fun _ => ()) _ (Nat.zero_le _) (by omega) ?_ ?_
    · intro nn
      show f_X11_areHurt_L2 g (nI m) (nn + 1) (nI k) = _
      rw [f_X11_areHurt_L2, G.2.1, if_neg (nI_ge h1 (by omega)), bit1 (by omega) (by omega), h2, if_pos (by rfl), wkb1_t (q_of4 (g := g) (show k < 6 by omega)), (G.2.2 k h1).2.2.2.2.1]
      exact if_neg (nI_nle (by omega) (by have := (G.2.2 k h1).2.2.2.2.2; omega))
    · intro nn j _ hj
      refine step nn j (by omega) (fun hb => ?_)
      by_cases q2 : gF g j = 0
      · exact q2
      · exact absurd ⟨by omega, hb, q2⟩ (h4 j hj)
  · have e : fo n (gF g) m = true := fo_iff.mpr (fun k hk hb => by
      by_cases q2 : gF g k = 0
      · exact q2
      · exact absurd ⟨k, hk, hb, q2⟩ q)
    rw [e]
    refine lupF (fun nn (_ : Unit) i => f_X11_areHurt_L2 g (nI m) nn i) 0 n (fun _ => ()) _ (Nat.zero_le _) (by omega) ?_ ?_
    · intro nn
      show f_X11_areHurt_L2 g (nI m) (nn + 1) (nI n) = _
      rw [f_X11_areHurt_L2, G.2.1]
      exact if_pos (nI_le (Nat.le_refl _) (by omega))
    · intro nn j _ hj
      exact step nn j hj (fun hb => fo_iff.mp e j hj hb)
