/-! PURE LAYER: what calls read of the books -/
theorem q_has2 {n k : Nat} (hn : n < 2 ^ 30) (hk : k < n) : f_X2_has (nI n) (nI k) = some 1 := by
  unfold f_X2_has
  rw [if_neg (nI_pos (by omega)), if_neg (nI_ge hk (by omega))]
theorem q_has20 {n : Nat} {x : Int32} (h : x < 0 ∨ nI n ≤ x) : f_X2_has (nI n) x = some 0 := by
  unfold f_X2_has
  by_cases q : x < 0
  · rw [if_pos q]
  · rw [if_neg q, if_pos (h.resolve_left q)]
theorem q_reqB0 {n : Nat} {x : Int32} (h : x < 0 ∨ nI n ≤ x) : f_X10_requireAccount (nI n) x = some (.inr xIOOB) := by
  unfold f_X10_requireAccount
  rw [wkb1_t (q_has20 h)]
  rfl
theorem q_reqB1 {n k : Nat} (hn : n < 2 ^ 30) (hk : k < n) : f_X10_requireAccount (nI n) (nI k) = some (.inl ()) := by
  unfold f_X10_requireAccount
  rw [wkb1_t (q_has2 hn hk), if_neg one_ne]
theorem q_isAcc0 {n : Nat} {g : Nat → Int32} {x : Int32} (hn : n ≤ 6) (hg : g 0 = nI n) (h : x < 0 ∨ nI (5 + n) ≤ x) : f_X11_isAccount g x = some 0 := by
  unfold f_X11_isAccount
  rw [hg, show (5 : Int32) = nI 5 from rfl, nI_add, wkb1_t (q_in0 (by omega) h)]
  rfl
theorem q_isAcc1 {n k : Nat} {g : Nat → Int32} (hn : n ≤ 6) (hg : g 0 = nI n) (h : k < 5 + n) : f_X11_isAccount g (nI k) = some 1 := by
  unfold f_X11_isAccount
  rw [hg, show (5 : Int32) = nI 5 from rfl, nI_add, wkb1_t (q_in1 (by omega) h)]
  rfl
theorem q_isLost0 {n : Nat} {g : Nat → Int32} {x : Int32} (c : Int32) (hn : n ≤ 6) (hg : g 0 = nI n) (h : x < 0 ∨ nI (5 + n) ≤ x) : f_X11_isLost g c x = some (1, 1) := by
  unfold f_X11_isLost
  rw [wkb1_t (q_isAcc0 hn hg h)]
  rfl
theorem q_isLost1 {n k : Nat} {g : Nat → Int32} (c : Int32) (hn : n ≤ 6) (hg : g 0 = nI n) (h : k < 5 + n) : f_X11_isLost g c (nI k) = some (0, 0) := by
  unfold f_X11_isLost
  rw [wkb1_t (q_isAcc1 hn hg h), if_neg one_ne]
  rfl
theorem e36 (k : Nat) : (36 : Int32) + nI k = nI (36 + k) := by rw [show (36 : Int32) = nI 36 from rfl, nI_add]
theorem e47 (k : Nat) : (47 : Int32) + nI k = nI (47 + k) := by rw [show (47 : Int32) = nI 47 from rfl, nI_add]
theorem o_balance {n e : Nat} {Ba : Int32} {B Bo : Nat → Int32} {Be : Int32} {D C A g : Nat → Int32} (hn : n ≤ 6) (hg : g 0 = nI n) (R : RB n e Ba B Bo Be D C A g) (c x : Int32) : ∃ out b c', f_X10_balance Ba B x = some out ∧ f_X11_balance g c x = some (b, c') ∧ agr [xIOOB] out b c' := by
  obtain ⟨rfl, rfl, R1, -⟩ := R
  unfold f_X10_balance f_X11_balance
  rcases ix3 x (5 + n) (by omega) with h | ⟨j, hj, rfl⟩
  · exact ⟨_, _, _, wkx_e (q_reqB0 h), by rw [wkb2_t (q_isLost0 c hn hg h)]; rfl, Or.inr ⟨0, _, rfl, rfl, rfl⟩⟩
  · rw [wkx_t (q_reqB1 (by omega) hj), gin_t (vp_in_nI (by omega) (by decide)), nI_clamp (by omega), wkb2_t (q_isLost1 c hn hg hj), if_pos rfl, e36, gin_t (vp_in_nI (by omega) (by decide)), nI_clamp (by omega), (R1 j (by omega)).1]
    exact ⟨_, _, _, rfl, rfl, Or.inl ⟨rfl, rfl⟩⟩
theorem q_debitSum {e k : Nat} {D A g : Nat → Int32} (he : e ≤ 60) (h : ∀ i, i < e → D i = g (58 + 3 * i) ∧ A i = g (58 + 3 * i + 2)) : f_X2_debitSum (nI e) D A (nI k) = some (js g 0 k e) := by
  unfold f_X2_debitSum f_X2_sumOfAmounts_debited
  have key := lupF (fun nn acc i => f_X2_sumOfAmounts_debited_L5 (nI e) D A (nI k) nn acc i) 0 e (fun i => js g 0 k i) (some (js g 0 k e)) (Nat.zero_le _) (by omega) ?_ ?_
  · rw [wkb1_t (show f_X2_sumOfAmounts_debited_L5 (nI e) D A (nI k) FU 0 0 = some (js g 0 k e) from key)]
  · intro nn
    show f_X2_sumOfAmounts_debited_L5 (nI e) D A (nI k) (nn + 1) _ (nI e) = _
    rw [f_X2_sumOfAmounts_debited_L5]
    exact if_pos (nI_le (Nat.le_refl _) (by omega))
  · intro nn i _ hi
    show f_X2_sumOfAmounts_debited_L5 (nI e) D A (nI k) (nn + 1) (js g 0 k i) (nI i) = f_X2_sumOfAmounts_debited_L5 (nI e) D A (nI k) nn (js g 0 k (i + 1)) (nI (i + 1))
    have ii : vp_in (nI i) 60 := vp_in_nI (by omega) (by decide)
    rw [f_X2_sumOfAmounts_debited_L5, if_neg (nI_ge hi (by omega)), gin_t ii, gin_t ii, nI_clamp (by omega), (h i hi).1, (h i hi).2, nI_1, js, show 58 + 3 * i + 0 = 58 + 3 * i from rfl]
    by_cases q : g (58 + 3 * i) = nI k
    · rw [if_pos q, if_pos q]
    · rw [if_neg q, if_neg q]
theorem q_creditSum {e k : Nat} {C A g : Nat → Int32} (he : e ≤ 60) (h : ∀ i, i < e → C i = g (58 + 3 * i + 1) ∧ A i = g (58 + 3 * i + 2)) : f_X2_creditSum (nI e) C A (nI k) = some (js g 1 k e) := by
  unfold f_X2_creditSum f_X2_sumOfAmounts_credited
  have key := lupF (fun nn acc i => f_X2_sumOfAmounts_credited_L5 (nI e) C A (nI k) nn acc i) 0 e (fun i => js g 1 k i) (some (js g 1 k e)) (Nat.zero_le _) (by omega) ?_ ?_
  · rw [wkb1_t (show f_X2_sumOfAmounts_credited_L5 (nI e) C A (nI k) FU 0 0 = some (js g 1 k e) from key)]
  · intro nn
    show f_X2_sumOfAmounts_credited_L5 (nI e) C A (nI k) (nn + 1) _ (nI e) = _
    rw [f_X2_sumOfAmounts_credited_L5]
    exact if_pos (nI_le (Nat.le_refl _) (by omega))
  · intro nn i _ hi
    show f_X2_sumOfAmounts_credited_L5 (nI e) C A (nI k) (nn + 1) (js g 1 k i) (nI i) = f_X2_sumOfAmounts_credited_L5 (nI e) C A (nI k) nn (js g 1 k (i + 1)) (nI (i + 1))
    have ii : vp_in (nI i) 60 := vp_in_nI (by omega) (by decide)
    rw [f_X2_sumOfAmounts_credited_L5, if_neg (nI_ge hi (by omega)), gin_t ii, gin_t ii, nI_clamp (by omega), (h i hi).1, (h i hi).2, nI_1, js]
    by_cases q : g (58 + 3 * i + 1) = nI k
    · rw [if_pos q, if_pos q]
    · rw [if_neg q, if_neg q]
theorem q_entry {i : Nat} {g : Nat → Int32} (w : Nat) {x : Int32} (hi : i < 60) (hw : w < 3) (hx : x = nI w) : f_X11_entry g (nI i) x = some (g (58 + 3 * i + w)) := by
  subst hx
  unfold f_X11_entry
  have e : ((58 : Int32) + (3 * nI i)) + nI w = nI (58 + 3 * i + w) := by
    rw [show (3 : Int32) = nI 3 from rfl, show (58 : Int32) = nI 58 from rfl, pk_mul, nI_add, nI_add]
  rw [e, gin_t (vp_in_nI (by omega) (by decide)), nI_clamp (by omega)]
theorem q_sumOf {e k : Nat} {g : Nat → Int32} (w : Nat) {x : Int32} (he : e ≤ 60) (hg : g 3 = nI e) (hw : w < 3) (hx : x = nI w) : f_X11_sumOf g (nI k) x = some (js g w k e) := by
  unfold f_X11_sumOf
  refine lupF (fun nn acc i => f_X11_sumOf_L5 g (nI k) x nn acc i) 0 e (fun i => js g w k i) _ (Nat.zero_le _) (by omega) ?_ ?_
  · intro nn
    show f_X11_sumOf_L5 g (nI k) x (nn + 1) _ (nI e) = _
    rw [f_X11_sumOf_L5, hg]
    exact if_pos (nI_le (Nat.le_refl _) (by omega))
  · intro nn i _ hi
    show f_X11_sumOf_L5 g (nI k) x (nn + 1) (js g w k i) (nI i) = f_X11_sumOf_L5 g (nI k) x nn (js g w k (i + 1)) (nI (i + 1))
    rw [f_X11_sumOf_L5, hg, if_neg (nI_ge hi (by omega)), wkb1_t (q_entry w (by omega) hw hx), nI_1, js]
    by_cases q : g (58 + 3 * i + w) = nI k
    · rw [if_pos q, if_pos q, wkb1_t (q_entry (x := 2) 2 (show i < 60 by omega) (by decide) rfl)]
    · rw [if_neg q, if_neg q, Int32.add_zero]
theorem q_balanceFromJournal {n e k : Nat} {Ba : Int32} {B Bo : Nat → Int32} {Be : Int32} {D C A g : Nat → Int32} (R : RB n e Ba B Bo Be D C A g) (he : e ≤ 60) (hk : k < 11) : f_X2_balanceFromJournal Bo Be D C A (nI k) = some (g (47 + k) + js g 0 k e - js g 1 k e) := by
  obtain ⟨rfl, -, R1, R2⟩ := R
  unfold f_X2_balanceFromJournal
  rw [gin_t (vp_in_nI (by omega) (by decide)), wkb1_t (q_debitSum he (fun i hi => ⟨(R2 i hi).1, (R2 i hi).2.2⟩)), wkb1_t (q_creditSum he (fun i hi => ⟨(R2 i hi).2.1, (R2 i hi).2.2⟩)), nI_clamp (by omega), (R1 k hk).2]
theorem o_balanceByJournal {n e : Nat} {Ba : Int32} {B Bo : Nat → Int32} {Be : Int32} {D C A g : Nat → Int32} (hn : n ≤ 6) (he : e ≤ 60) (hg : g 0 = nI n) (hg3 : g 3 = nI e) (R : RB n e Ba B Bo Be D C A g) (c x : Int32) : ∃ out b c', f_X10_balanceByJournal Ba Bo Be D C A x = some out ∧ f_X11_balanceByJournal g c x = some (b, c') ∧ agr [xIOOB] out b c' := by
  have q := fun k hk => q_balanceFromJournal (k := k) R he hk
  obtain ⟨rfl, rfl, R1, -⟩ := R
  unfold f_X10_balanceByJournal f_X11_balanceByJournal
  rcases ix3 x (5 + n) (by omega) with h | ⟨j, hj, rfl⟩
  · exact ⟨_, _, _, wkx_e (q_reqB0 h), by rw [wkb2_t (q_isLost0 c hn hg h)]; rfl, Or.inr ⟨0, _, rfl, rfl, rfl⟩⟩
  · rw [wkx_t (q_reqB1 (by omega) hj), wkb1_t (q j (by omega)), wkb2_t (q_isLost1 c hn hg hj), if_pos rfl, e47, gin_t (vp_in_nI (by omega) (by decide)), nI_clamp (by omega), wkb1_t (q_sumOf (x := 0) 0 he hg3 (by decide) rfl), wkb1_t (q_sumOf (x := 1) 1 he hg3 (by decide) rfl)]
    exact ⟨_, _, _, rfl, rfl, Or.inl ⟨rfl, rfl⟩⟩
theorem o_debits {n e : Nat} {Ba : Int32} {B Bo : Nat → Int32} {Be : Int32} {D C A g : Nat → Int32} (hn : n ≤ 6) (he : e ≤ 60) (hg : g 0 = nI n) (hg3 : g 3 = nI e) (R : RB n e Ba B Bo Be D C A g) (c x : Int32) : ∃ out b c', f_X10_debits Ba Be D A x = some out ∧ f_X11_debits g c x = some (b, c') ∧ agr [xIOOB] out b c' := by
  obtain ⟨rfl, rfl, R1, R2⟩ := R
  unfold f_X10_debits f_X11_debits
  rcases ix3 x (5 + n) (by omega) with h | ⟨j, hj, rfl⟩
  · exact ⟨_, _, _, wkx_e (q_reqB0 h), by rw [wkb2_t (q_isLost0 c hn hg h)]; rfl, Or.inr ⟨0, _, rfl, rfl, rfl⟩⟩
  · rw [wkx_t (q_reqB1 (by omega) hj), wkb1_t (q_debitSum he (fun i hi => ⟨(R2 i hi).1, (R2 i hi).2.2⟩)), wkb2_t (q_isLost1 c hn hg hj), if_pos rfl, wkb1_t (q_sumOf (x := 0) 0 he hg3 (by decide) rfl)]
    exact ⟨_, _, _, rfl, rfl, Or.inl ⟨rfl, rfl⟩⟩
theorem o_credits {n e : Nat} {Ba : Int32} {B Bo : Nat → Int32} {Be : Int32} {D C A g : Nat → Int32} (hn : n ≤ 6) (he : e ≤ 60) (hg : g 0 = nI n) (hg3 : g 3 = nI e) (R : RB n e Ba B Bo Be D C A g) (c x : Int32) : ∃ out b c', f_X10_credits Ba Be C A x = some out ∧ f_X11_credits g c x = some (b, c') ∧ agr [xIOOB] out b c' := by
  obtain ⟨rfl, rfl, R1, R2⟩ := R
  unfold f_X10_credits f_X11_credits
  rcases ix3 x (5 + n) (by omega) with h | ⟨j, hj, rfl⟩
  · exact ⟨_, _, _, wkx_e (q_reqB0 h), by rw [wkb2_t (q_isLost0 c hn hg h)]; rfl, Or.inr ⟨0, _, rfl, rfl, rfl⟩⟩
  · rw [wkx_t (q_reqB1 (by omega) hj), wkb1_t (q_creditSum he (fun i hi => ⟨(R2 i hi).2.1, (R2 i hi).2.2⟩)), wkb2_t (q_isLost1 c hn hg hj), if_pos rfl, wkb1_t (q_sumOf (x := 1) 1 he hg3 (by decide) rfl)]
    exact ⟨_, _, _, rfl, rfl, Or.inl ⟨rfl, rfl⟩⟩
/-- entries -/
theorem q_reqE0 {e : Nat} {x : Int32} (h : x < 0 ∨ nI e ≤ x) : f_X10_requireEntry (nI e) x = some (.inr xIOOB) := by
  unfold f_X10_requireEntry
  by_cases q : x < 0
  · rw [if_pos q]
  · rw [if_neg q, if_neg (Int32.not_lt.mpr (h.resolve_left q))]
theorem q_reqE1 {e i : Nat} (he : e ≤ 60) (hi : i < e) : f_X10_requireEntry (nI e) (nI i) = some (.inl ()) := by
  unfold f_X10_requireEntry
  rw [if_neg (nI_pos (by omega)), if_pos (nI_lt hi (by omega))]
theorem q_ofEntry0 {e : Nat} {g : Nat → Int32} {x : Int32} (c w : Int32) (he : e ≤ 60) (hg : g 3 = nI e) (h : x < 0 ∨ nI e ≤ x) : f_X11_ofEntry g c x w = some (0, 1) := by
  unfold f_X11_ofEntry
  rw [hg, wkb1_t (q_in0 (by omega) h)]
  rfl
theorem q_ofEntry1 {e i : Nat} {g : Nat → Int32} (w : Nat) {x : Int32} (c : Int32) (he : e ≤ 60) (hg : g 3 = nI e) (hi : i < e) (hw : w < 3) (hx : x = nI w) : f_X11_ofEntry g c (nI i) x = some (g (58 + 3 * i + w), 0) := by
  unfold f_X11_ofEntry
  rw [hg, wkb1_t (q_in1 (by omega) hi), if_neg one_ne, wkb2_t (q_fails0 c), if_pos rfl, wkb1_t (q_entry w (by omega) hw hx)]
theorem o_debitOf {n e : Nat} {Ba : Int32} {B Bo : Nat → Int32} {Be : Int32} {D C A g : Nat → Int32} (he : e ≤ 60) (hg3 : g 3 = nI e) (R : RB n e Ba B Bo Be D C A g) (c x : Int32) : ∃ out b c', f_X10_debitOf Be D x = some out ∧ f_X11_debitOf g c x = some (b, c') ∧ agr [xIOOB] out b c' := by
  obtain ⟨rfl, -, -, R2⟩ := R
  unfold f_X10_debitOf f_X11_debitOf
  rcases ix3 x e (by omega) with h | ⟨j, hj, rfl⟩
  · exact ⟨_, _, _, wkx_e (q_reqE0 h), by rw [wkb2_t (q_ofEntry0 c 0 he hg3 h)]; rfl, Or.inr ⟨0, _, rfl, rfl, rfl⟩⟩
  · rw [wkx_t (q_reqE1 he hj), gin_t (vp_in_nI (by omega) (by decide)), nI_clamp (by omega), (R2 j hj).1, wkb2_t (q_ofEntry1 (x := 0) 0 c he hg3 hj (by decide) rfl)]
    exact ⟨_, _, _, rfl, rfl, Or.inl ⟨rfl, rfl⟩⟩
theorem o_creditOf {n e : Nat} {Ba : Int32} {B Bo : Nat → Int32} {Be : Int32} {D C A g : Nat → Int32} (he : e ≤ 60) (hg3 : g 3 = nI e) (R : RB n e Ba B Bo Be D C A g) (c x : Int32) : ∃ out b c', f_X10_creditOf Be C x = some out ∧ f_X11_creditOf g c x = some (b, c') ∧ agr [xIOOB] out b c' := by
  obtain ⟨rfl, -, -, R2⟩ := R
  unfold f_X10_creditOf f_X11_creditOf
  rcases ix3 x e (by omega) with h | ⟨j, hj, rfl⟩
  · exact ⟨_, _, _, wkx_e (q_reqE0 h), by rw [wkb2_t (q_ofEntry0 c 1 he hg3 h)]; rfl, Or.inr ⟨0, _, rfl, rfl, rfl⟩⟩
  · rw [wkx_t (q_reqE1 he hj), gin_t (vp_in_nI (by omega) (by decide)), nI_clamp (by omega), (R2 j hj).2.1, wkb2_t (q_ofEntry1 (x := 1) 1 c he hg3 hj (by decide) rfl)]
    exact ⟨_, _, _, rfl, rfl, Or.inl ⟨rfl, rfl⟩⟩
theorem o_amountOf {n e : Nat} {Ba : Int32} {B Bo : Nat → Int32} {Be : Int32} {D C A g : Nat → Int32} (he : e ≤ 60) (hg3 : g 3 = nI e) (R : RB n e Ba B Bo Be D C A g) (c x : Int32) : ∃ out b c', f_X10_amountOf Be A x = some out ∧ f_X11_amountOf g c x = some (b, c') ∧ agr [xIOOB] out b c' := by
  obtain ⟨rfl, -, -, R2⟩ := R
  unfold f_X10_amountOf f_X11_amountOf
  rcases ix3 x e (by omega) with h | ⟨j, hj, rfl⟩
  · exact ⟨_, _, _, wkx_e (q_reqE0 h), by rw [wkb2_t (q_ofEntry0 c 2 he hg3 h)]; rfl, Or.inr ⟨0, _, rfl, rfl, rfl⟩⟩
  · rw [wkx_t (q_reqE1 he hj), gin_t (vp_in_nI (by omega) (by decide)), nI_clamp (by omega), (R2 j hj).2.2, wkb2_t (q_ofEntry1 (x := 2) 2 c he hg3 hj (by decide) rfl)]
    exact ⟨_, _, _, rfl, rfl, Or.inl ⟨rfl, rfl⟩⟩
/-- ranks -/
def ahd (B : Nat → Int32) (o a : Nat) : Bool := decide (B a < B o) || (decide (B o = B a) && decide (o < a))
def rkB (B : Nat → Int32) (a k : Nat) : Nat := sm k (fun o => (ahd B o a).toNat)
theorem rkB_s (B : Nat → Int32) (a k : Nat) : rkB B a (k + 1) = rkB B a k + (ahd B k a).toNat := rfl
theorem rkB_le (B : Nat → Int32) (a k : Nat) : rkB B a k ≤ k := by
  have := sm_bound (n := k) (c := 1) (f := fun o => (ahd B o a).toNat) (fun o _ => by cases ahd B o a <;> decide)
  simpa [rkB] using this
theorem ahd_t {B : Nat → Int32} {o a : Nat} (h : B a < B o ∨ (B o = B a ∧ o < a)) : ahd B o a = true := by
  unfold ahd
  rcases h with h | h
  · simp [h]
  · simp [h.1, h.2]
theorem ahd_f {B : Nat → Int32} {o a : Nat} (h1 : ¬ B a < B o) (h2 : B o = B a → ¬ o < a) : ahd B o a = false := by
  unfold ahd
  rw [decide_eq_false h1, Bool.false_or]
  by_cases q : B o = B a
  · rw [decide_eq_false (h2 q), Bool.and_false]
  · rw [decide_eq_false q, Bool.false_and]
theorem q_rankOf {A a : Nat} {B : Nat → Int32} (hA : A ≤ 11) (ha : a < A) : f_X2_rankOf (nI A) B (nI a) = some (nI (rkB B a A)) := by
  unfold f_X2_rankOf
  refine lupF (fun nn acc i => f_X2_rankOf_L4 (nI A) B (nI a) nn acc i) 0 A (fun k => nI (rkB B a k)) _ (Nat.zero_le _) (by omega) ?_ ?_
  · intro nn
    show f_X2_rankOf_L4 (nI A) B (nI a) (nn + 1) _ (nI A) = _
    rw [f_X2_rankOf_L4]
    exact if_pos (nI_le (Nat.le_refl _) (by omega))
  · intro nn k _ hk
    show f_X2_rankOf_L4 (nI A) B (nI a) (nn + 1) (nI (rkB B a k)) (nI k) = f_X2_rankOf_L4 (nI A) B (nI a) nn (nI (rkB B a (k + 1))) (nI (k + 1))
    rw [f_X2_rankOf_L4, if_neg (nI_ge hk (by omega))]
    simp only [gin_t (show vp_in (nI k) 11 from vp_in_nI (by omega) (by decide)), gin_t (show vp_in (nI a) 11 from vp_in_nI (by omega) (by decide)), nI_clamp (show k < 2 ^ 31 by omega), nI_clamp (show a < 2 ^ 31 by omega), nI_1, nI_leI (show a < 2 ^ 31 by omega) (show k < 2 ^ 31 by omega)]
    rw [rkB_s]
    by_cases q : B k = B a
    · rw [if_pos q]
      by_cases q2 : a ≤ k
      · rw [if_pos q2, ahd_f (by rw [q]; exact Int32.lt_irrefl) (fun _ => by omega)]
        rfl
      · rw [if_neg q2, ahd_t (Or.inr ⟨q, by omega⟩)]
        rfl
    · rw [if_neg q]
      by_cases q2 : B k ≤ B a
      · rw [if_pos q2, ahd_f (Int32.not_lt.mpr q2) (fun z => absurd z q)]
        rfl
      · rw [if_neg q2, ahd_t (Or.inl (Int32.not_le.mp q2))]
        rfl
theorem q_rankM {A a : Nat} {g : Nat → Int32} (x c : Int32) (K : Int32 → Int32 → Int32 → Option (Int32 × Int32)) (hA : A ≤ 11) (ha : a < A) : f_X11_accountByBalance_L22 g x K FU (nI A) (nI a) 0 0 c = if nI (rkB (fun k => g (36 + k)) a A) = x then some (nI a, 0) else K (nI A) (nI (a + 1)) c := by
  refine lupF (fun nn acc i => f_X11_accountByBalance_L22 g x K nn (nI A) (nI a) acc i c) 0 A (fun k => nI (rkB (fun k => g (36 + k)) a k)) _ (Nat.zero_le _) (by omega) ?_ ?_
  · intro nn
    show f_X11_accountByBalance_L22 g x K (nn + 1) (nI A) (nI a) _ (nI A) c = _
    rw [f_X11_accountByBalance_L22, if_pos (nI_le (Nat.le_refl _) (by omega)), nI_1]
  · intro nn k _ hk
    show f_X11_accountByBalance_L22 g x K (nn + 1) (nI A) (nI a) (nI (rkB (fun k => g (36 + k)) a k)) (nI k) c = f_X11_accountByBalance_L22 g x K nn (nI A) (nI a) (nI (rkB (fun k => g (36 + k)) a (k + 1))) (nI (k + 1)) c
    rw [f_X11_accountByBalance_L22, if_neg (nI_ge hk (by omega))]
    simp only [e36, gin_t (show vp_in (nI (36 + k)) 238 from vp_in_nI (by omega) (by decide)), gin_t (show vp_in (nI (36 + a)) 238 from vp_in_nI (by omega) (by decide)), nI_clamp (show 36 + k < 2 ^ 31 by omega), nI_clamp (show 36 + a < 2 ^ 31 by omega), nI_1, nI_leI (show a < 2 ^ 31 by omega) (show k < 2 ^ 31 by omega), Int32.add_zero]
    rw [rkB_s]
    by_cases q1 : g (36 + a) < g (36 + k)
    · rw [if_pos q1, ahd_t (B := fun k => g (36 + k)) (o := k) (a := a) (Or.inl q1)]
      rfl
    · rw [if_neg q1]
      by_cases q2 : g (36 + k) = g (36 + a)
      · rw [if_pos q2]
        by_cases q3 : a ≤ k
        · rw [if_pos q3, ahd_f (B := fun k => g (36 + k)) (o := k) (a := a) q1 (fun _ => by omega)]
          rfl
        · rw [if_neg q3, ahd_t (B := fun k => g (36 + k)) (o := k) (a := a) (Or.inr ⟨q2, by omega⟩)]
          rfl
      · rw [if_neg q2, ahd_f (B := fun k => g (36 + k)) (o := k) (a := a) q1 (fun z => absurd z q2)]
        rfl
theorem rkB_congr {A a : Nat} {B B' : Nat → Int32} (h : ∀ k, k < A → B k = B' k) (ha : a < A) : rkB B a A = rkB B' a A := sm_congr (fun k hk => by unfold ahd; rw [h k hk, h a ha])
theorem o_accountByBalance {n e : Nat} {Ba : Int32} {B Bo : Nat → Int32} {Be : Int32} {D C A g : Nat → Int32} (hn : n ≤ 6) (hg : g 0 = nI n) (R : RB n e Ba B Bo Be D C A g) (c x : Int32) : ∃ out b c', f_X10_accountByBalance Ba B x = some out ∧ f_X11_accountByBalance g c x = some (b, c') ∧ agr [xNSE] out b c' := by
  obtain ⟨rfl, rfl, R1, -⟩ := R
  have hrk : ∀ a, a < 5 + n → rkB B a (5 + n) = rkB (fun k => g (36 + k)) a (5 + n) := fun a ha => rkB_congr (fun k hk => (R1 k (by omega)).1) ha
  unfold f_X10_accountByBalance f_X11_accountByBalance f_X2_accountAtRank
  rw [hg, show (5 : Int32) = nI 5 from rfl, nI_add]
  have stC : ∀ nn a, a < 5 + n → nI (rkB B a (5 + n)) ≠ x → f_X2_accountAtRank_L2 (nI (5 + n)) B x (nn + 1) (nI a) = f_X2_accountAtRank_L2 (nI (5 + n)) B x nn (nI (a + 1)) := by
    intro nn a ha h
    rw [f_X2_accountAtRank_L2, if_neg (nI_ge ha (by omega)), wkb1_t (q_rankOf (by omega) ha), if_neg h, nI_1]
  have stM : ∀ nn a, a < 5 + n → nI (rkB B a (5 + n)) ≠ x → f_X11_accountByBalance_L11 g x (nn + 1) (nI (5 + n)) (nI a) c = f_X11_accountByBalance_L11 g x nn (nI (5 + n)) (nI (a + 1)) c := by
    intro nn a ha h
    rw [f_X11_accountByBalance_L11, if_neg (nI_ge ha (by omega)), q_rankM x c _ (by omega) ha, if_neg (by rw [← hrk a ha]; exact h)]
  by_cases q : ∃ a, a < 5 + n ∧ nI (rkB B a (5 + n)) = x
  · obtain ⟨a, ⟨ha, hx⟩, hmin⟩ := pk_least _ q
    have hno : ∀ b, b < a → nI (rkB B b (5 + n)) ≠ x := fun b hb e => hmin b hb ⟨by omega, e⟩
    have e1 : f_X2_accountAtRank_L2 (nI (5 + n)) B x FU 0 = some (nI a) := by
      refine lupF (fun nn (_ : Unit) i => f_X2_accountAtRank_L2 (nI (5 + n)) B x nn i) 0 a (fun _ => ()) _ (Nat.zero_le _) (by omega) ?_ ?_
      · intro nn
        show f_X2_accountAtRank_L2 (nI (5 + n)) B x (nn + 1) (nI a) = _
        rw [f_X2_accountAtRank_L2, if_neg (nI_ge ha (by omega)), wkb1_t (q_rankOf (by omega) ha), if_pos hx]
      · intro nn b _ hb
        exact stC nn b (by omega) (hno b hb)
    have e2 : f_X11_accountByBalance_L11 g x FU (nI (5 + n)) 0 c = some (nI a, 0) := by
      refine lupF (fun nn (_ : Unit) i => f_X11_accountByBalance_L11 g x nn (nI (5 + n)) i c) 0 a (fun _ => ()) _ (Nat.zero_le _) (by omega) ?_ ?_
      · intro nn
        show f_X11_accountByBalance_L11 g x (nn + 1) (nI (5 + n)) (nI a) c = _
        rw [f_X11_accountByBalance_L11, if_neg (nI_ge ha (by omega)), q_rankM x c _ (by omega) ha, if_pos (by rw [← hrk a ha]; exact hx)]
      · intro nn b _ hb
        exact stM nn b (by omega) (hno b hb)
    rw [wkb1_t e1, wkx_t (q_reqF1 (by omega)), e2]
    exact ⟨_, _, _, rfl, rfl, Or.inl ⟨rfl, rfl⟩⟩
  · have hno : ∀ b, b < 5 + n → nI (rkB B b (5 + n)) ≠ x := fun b hb e => q ⟨b, hb, e⟩
    have e1 : f_X2_accountAtRank_L2 (nI (5 + n)) B x FU 0 = some (-1) := by
      refine lupF (fun nn (_ : Unit) i => f_X2_accountAtRank_L2 (nI (5 + n)) B x nn i) 0 (5 + n) (fun _ => ()) _ (Nat.zero_le _) (by omega) ?_ ?_
      · intro nn
        show f_X2_accountAtRank_L2 (nI (5 + n)) B x (nn + 1) (nI (5 + n)) = _
        rw [f_X2_accountAtRank_L2]
        exact if_pos (nI_le (Nat.le_refl _) (by omega))
      · intro nn b _ hb
        exact stC nn b hb (hno b hb)
    have e2 : f_X11_accountByBalance_L11 g x FU (nI (5 + n)) 0 c = some (0, 1) := by
      refine lupF (fun nn (_ : Unit) i => f_X11_accountByBalance_L11 g x nn (nI (5 + n)) i c) 0 (5 + n) (fun _ => ()) _ (Nat.zero_le _) (by omega) ?_ ?_
      · intro nn
        show f_X11_accountByBalance_L11 g x (nn + 1) (nI (5 + n)) (nI (5 + n)) c = _
        rw [f_X11_accountByBalance_L11]
        exact if_pos (nI_le (Nat.le_refl _) (by omega))
      · intro nn b _ hb
        exact stM nn b hb (hno b hb)
    rw [wkb1_t e1, wkx_e q_reqF0, e2]
    exact ⟨_, _, _, rfl, rfl, Or.inr ⟨0, _, rfl, rfl, rfl⟩⟩
/-- settling -/
theorem bOk_of {n e Bd : Nat} {g B : Nat → Int32} (G : gB n e Bd g) (h : ∀ k, k < 11 → B k = g (36 + k)) : bOk (5 + n) B (gb g) := by
  have hn := G.1.1
  refine ⟨by omega, by omega, fun k hk => ?_, ?_⟩
  · rw [h k (by omega)]
    exact iI_of _
  · have h1 := sm_mono (fun k => (gb g k).natAbs) (show 5 + n ≤ 11 by omega)
    have h2 := G.2.1.2.2.2.1
    have h3 := G.1.2.2.1
    unfold sab at *
    omega
theorem o_fewestTransfers {n e Bd : Nat} {Ba : Int32} {B Bo : Nat → Int32} {Be : Int32} {D C A g : Nat → Int32} (hg : g 0 = nI n) (G : gB n e Bd g) (R : RB n e Ba B Bo Be D C A g) (E0 : Int32) (o0 s0 g0 su gr : Nat → Int32) (c : Int32) (hs0 : s0 0 = 0) (hg0 : g0 0 = 0) :
    ∃ b c1 o1 s1 g1 su' gr', f_X10_fewestTransfers Ba B E0 o0 s0 g0 = some (b, c1, o1, s1, g1) ∧ f_X11_fewestTransfers g c su gr = some (b, 0, su', gr') ∧ s1 0 = 0 ∧ g1 0 = 0 := by
  obtain ⟨rfl, rfl, R1, -⟩ := R
  obtain ⟨c1, o1, s1, g1, e1, h1, h2⟩ := q_fewestBySets (bOk_of G (fun k hk => (R1 k hk).1)) E0 o0 s0 g0 hs0 hg0
  obtain ⟨su', gr', e2⟩ := q_settles (su := su) (gr := gr) G.1.1 hg (bOk_of G (fun k hk => rfl))
  unfold f_X10_fewestTransfers f_X11_fewestTransfers
  rw [wkb5_t e1, wkb3_t e2]
  exact ⟨_, _, _, _, _, _, _, rfl, rfl, h1, h2⟩
theorem o_fewestTransfersBySearch {n e Bd : Nat} {Ba : Int32} {B Bo : Nat → Int32} {Be : Int32} {D C A g : Nat → Int32} (hg : g 0 = nI n) (G : gB n e Bd g) (R : RB n e Ba B Bo Be D C A g) (E0 : Int32) (o0 s0 t0 su gr : Nat → Int32) (c : Int32) (hs0 : s0 0 = 0) :
    ∃ b c1 o1 s1 t1 su' gr', f_X10_fewestTransfersBySearch Ba B E0 o0 s0 t0 = some (b, c1, o1, s1, t1) ∧ f_X11_fewestTransfersBySearch g c su gr = some (b, 0, su', gr') ∧ s1 0 = 0 := by
  obtain ⟨rfl, rfl, R1, -⟩ := R
  obtain ⟨c1, o1, s1, t1, e1, h1⟩ := q_fewestBySearch (bOk_of G (fun k hk => (R1 k hk).1)) E0 o0 s0 t0 hs0
  obtain ⟨su', gr', e2⟩ := q_settles (su := su) (gr := gr) G.1.1 hg (bOk_of G (fun k hk => rfl))
  unfold f_X10_fewestTransfersBySearch f_X11_fewestTransfersBySearch
  rw [wkb5_t e1, wkb3_t e2]
  exact ⟨_, _, _, _, _, _, _, rfl, rfl, h1⟩
theorem sB_all {n e Bd : Nat} {g : Nat → Int32} (G : gB n e Bd g) : ∀ k, 5 + n ≤ k → k ≤ 11 → sB k (gb g) (fun _ => true) = 0 := by
  have key : ∀ d k, k + d = 11 → 5 + n ≤ k → sB k (gb g) (fun _ => true) = 0 := by
    intro d
    induction d with
    | zero =>
      intro k hk h1
      obtain rfl : k = 11 := by omega
      exact G.2.1.2.2.1
    | succ d ih =>
      intro k hk h1
      have h2 := ih (k + 1) (by omega) (by omega)
      rw [sB_s] at h2
      have h3 : gb g k = 0 := by
        unfold gb
        rw [G.2.1.2.2.2.2 k h1 (by omega)]
        decide
      rw [h3] at h2
      simpa using h2
  intro k h1 h2
  exact key (11 - k) k (by omega) h1
theorem o_isConsistent {n e Bd : Nat} {Tc Ba : Int32} {W S Hh Cw F B Bo : Nat → Int32} {Be : Int32} {D C A g : Nat → Int32} (T : RT n Tc W S Hh Cw F g) (G : gB n e Bd g) (R : RB n e Ba B Bo Be D C A g) (E0 : Int32) (o0 s0 g0 t0 : Nat → Int32) (c : Int32) (hs0 : s0 0 = 0) (hg0 : g0 0 = 0) :
    ∃ c1 o1 s1 g1 t1, f_X10_isConsistent Tc W S Hh F Ba B Bo Be D C A E0 o0 s0 g0 t0 = some (1, c1, o1, s1, g1, t1) ∧ f_X11_isConsistent g c = some (1, 0) ∧ s1 0 = 0 ∧ g1 0 = 0 := by
  have Tt := RT_tr T
  have hH := RT_h T
  have hF := RT_f T
  obtain ⟨rfl, GA, -, -⟩ := T
  have hn := GA.1
  have h6 := pow64 hn
  have he := G.1.2.1
  have hb := bst_lt n (gW g) (gS g) (gH g) (gF g)
  have hj := fun k hk => q_balanceFromJournal (k := k) R he hk
  obtain ⟨rfl, rfl, R1, -⟩ := R
  have ok := bOk_of G (fun k hk => (R1 k hk).1)
  obtain ⟨c1, o1, s1, g1, e1, h1, h2⟩ := q_fewestBySets ok E0 o0 s0 g0 hs0 hg0
  obtain ⟨c2, o2, s2, t2, e2, h3⟩ := q_fewestBySearch ok c1 o1 s1 t0 h1
  unfold f_X10_isConsistent f_X11_isConsistent
  have e3 : f_X2_agreeWithJournal (nI (5 + n)) B Bo (nI e) D C A = some 1 := by
    unfold f_X2_agreeWithJournal
    refine lupF (fun nn (_ : Unit) i => f_X2_agreeWithJournal_L2 (nI (5 + n)) B Bo (nI e) D C A nn i) 0 (5 + n) (fun _ => ()) _ (Nat.zero_le _) (by omega) ?_ ?_
    · intro nn
      show f_X2_agreeWithJournal_L2 (nI (5 + n)) B Bo (nI e) D C A (nn + 1) (nI (5 + n)) = _
      rw [f_X2_agreeWithJournal_L2]
      exact if_pos (nI_le (Nat.le_refl _) (by omega))
    · intro nn k _ hk
      show f_X2_agreeWithJournal_L2 (nI (5 + n)) B Bo (nI e) D C A (nn + 1) (nI k) = f_X2_agreeWithJournal_L2 (nI (5 + n)) B Bo (nI e) D C A nn (nI (k + 1))
      rw [f_X2_agreeWithJournal_L2, if_neg (nI_ge hk (by omega)), gin_t (vp_in_nI (by omega) (by decide)), wkb1_t (hj k (by omega)), nI_clamp (by omega), (R1 k (by omega)).1, if_pos (G.2.2.2 k (by omega)), nI_1]
  have e4 : f_X2_sumOfBalances (nI (5 + n)) B = some 0 := by
    unfold f_X2_sumOfBalances
    have := lupF (fun nn acc i => f_X2_sumOfBalances_L4 (nI (5 + n)) B nn acc i) 0 (5 + n) (fun k => iI (sB k (gb g) (fun _ => true))) (some (iI (sB (5 + n) (gb g) (fun _ => true)))) (Nat.zero_le _) (by omega) ?_ ?_
    · rw [sB_all G (5 + n) (Nat.le_refl _) (by omega)] at this
      exact this
    · intro nn
      show f_X2_sumOfBalances_L4 (nI (5 + n)) B (nn + 1) _ (nI (5 + n)) = _
      rw [f_X2_sumOfBalances_L4]
      exact if_pos (nI_le (Nat.le_refl _) (by omega))
    · intro nn k _ hk
      show f_X2_sumOfBalances_L4 (nI (5 + n)) B (nn + 1) (iI (sB k (gb g) (fun _ => true))) (nI k) = f_X2_sumOfBalances_L4 (nI (5 + n)) B nn (iI (sB (k + 1) (gb g) (fun _ => true))) (nI (k + 1))
      rw [f_X2_sumOfBalances_L4, if_neg (nI_ge hk (by omega)), gin_t (vp_in_nI (by omega) (by decide)), nI_clamp (by omega), (R1 k (by omega)).1, nI_1, iI_of (g (36 + k)), iI_add, sB_s]
      rfl
  have e5 : f_X11_isConsistent_L9 g FU 0 0 0 = some (1, 0) := by
    have := lupF (fun nn acc i => f_X11_isConsistent_L9 g nn acc i 0) 0 11 (fun k => iI (sB k (gb g) (fun _ => true))) (some (1, 0)) (Nat.zero_le _) (by omega) ?_ ?_
    · exact this
    · intro nn
      show f_X11_isConsistent_L9 g (nn + 1) (iI (sB 11 (gb g) (fun _ => true))) (nI 11) 0 = _
      rw [f_X11_isConsistent_L9, if_pos (show (11 : Int32) ≤ nI 11 by decide), G.2.1.2.2.1]
      exact if_pos rfl
    · intro nn k _ hk
      show f_X11_isConsistent_L9 g (nn + 1) (iI (sB k (gb g) (fun _ => true))) (nI k) 0 = f_X11_isConsistent_L9 g nn (iI (sB (k + 1) (gb g) (fun _ => true))) (nI (k + 1)) 0
      rw [f_X11_isConsistent_L9, if_neg (show ¬ (11 : Int32) ≤ nI k from nI_ge (b := 11) hk (by decide)), e36, gin_t (vp_in_nI (by omega) (by decide)), nI_clamp (by omega), nI_1, iI_of (g (36 + k)), iI_add, sB_s]
      rfl
  rw [wkb1_t (q_highestSet Tt hH hF), wkb1_t (q_heightOf hn (fun k hk => (hH k hk).1) (by omega)), wkb1_t (q_highestBySearch Tt hH hF), if_pos rfl, wkb5_t e1, wkb5_t e2, if_pos rfl, wkb1_t e3, if_neg one_ne, wkb1_t e4, if_pos rfl, e5]
  exact ⟨_, _, _, _, _, rfl, rfl, h3, h2⟩
