/-! PURE LAYER: the highest column, in both ways -/
theorem nI_clr {m k : Nat} (hb : m.testBit k = true) : nI m &&& (nI (2 ^ k) ^^^ (-1)) = nI (m ^^^ 2 ^ k) := by
  apply Int32.toBitVec_inj.mp
  apply BitVec.eq_of_getLsbD_eq
  intro i hi
  show ((BitVec.ofNat 32 m) &&& ((BitVec.ofNat 32 (2 ^ k)) ^^^ (BitVec.allOnes 32))).getLsbD i = (BitVec.ofNat 32 (m ^^^ 2 ^ k)).getLsbD i
  simp only [BitVec.getLsbD_and, BitVec.getLsbD_xor, BitVec.getLsbD_ofNat, BitVec.getLsbD_allOnes, hi, decide_true, Bool.true_and, Nat.testBit_xor, Nat.testBit_two_pow]
  by_cases e : k = i
  · subst e
    simp [hb]
  · simp [e]
theorem nI_xor (a b : Nat) : nI a ^^^ nI b = nI (a ^^^ b) := by
  apply Int32.toBitVec_inj.mp
  apply BitVec.eq_of_toNat_eq
  show a % 2 ^ 32 ^^^ b % 2 ^ 32 = (a ^^^ b) % 2 ^ 32
  exact (Nat.xor_mod_two_pow).symm
theorem xb_ne {m k j : Nat} (h : j ≠ k) : (m ^^^ 2 ^ k).testBit j = m.testBit j := by
  rw [Nat.testBit_xor, Nat.testBit_two_pow]
  have : decide (k = j) = false := by simp; omega
  rw [this, Bool.xor_false]
theorem xb_eq {m k : Nat} : (m ^^^ 2 ^ k).testBit k = !m.testBit k := by
  rw [Nat.testBit_xor, Nat.testBit_two_pow_self, Bool.xor_true]
theorem xb_lt {n m k : Nat} (hm : m < 2 ^ n) (hk : k < n) : m ^^^ 2 ^ k < 2 ^ n := Nat.xor_lt_two_pow hm (Nat.pow_lt_pow_right (by decide) hk)
theorem bit_hi {n m k : Nat} (hm : m < 2 ^ n) (h : m.testBit k = true) : k < n := by
  by_cases q : k < n
  · exact q
  · have := Nat.testBit_lt_two_pow (Nat.lt_of_lt_of_le hm (Nat.pow_le_pow_right (n := 2) (by decide) (show n ≤ k by omega)))
    rw [this] at h
    cases h
theorem mask0 {n m : Nat} (hm : m < 2 ^ n) (h : ∀ k, k < n → m.testBit k = false) : m = 0 := by
  apply Nat.eq_of_testBit_eq
  intro k
  rw [Nat.zero_testBit]
  by_cases q : k < n
  · exact h k q
  · exact Nat.testBit_lt_two_pow (Nat.lt_of_lt_of_le hm (Nat.pow_le_pow_right (n := 2) (by decide) (by omega)))
theorem mn_x {n m k : Nat} (hk : k < n) (hb : m.testBit k = true) : mn n (m ^^^ 2 ^ k) + 1 = mn n m := by
  have h := sm_off (n := n) (a := k) (f := fun o => ((m ^^^ 2 ^ k).testBit o).toNat) (g := fun o => (m.testBit o).toNat) hk (fun o _ ho => by rw [xb_ne ho])
  simp only [xb_eq, hb] at h
  exact h
theorem mn_0 {n m : Nat} (hm : m < 2 ^ n) (h : mn n m = 0) : m = 0 := by
  refine mask0 hm (fun k hk => ?_)
  cases q : m.testBit k
  · rfl
  · have := sm_ge (n := n) (fun o => (m.testBit o).toNat) hk
    rw [q] at this
    have : 1 ≤ mn n m := this
    omega
def bstk (n : Nat) (w s h f : Nat → Nat) : Nat → Nat
  | 0 => 0
  | j + 1 => if fo n f j && decide (tl n h (bstk n w s h f j) < tl n h j) && (ov n w s j).isNone then j else bstk n w s h f j
def bst (n : Nat) (w s h f : Nat → Nat) : Nat := bstk n w s h f (2 ^ n)
theorem bstk_lt (n : Nat) (w s h f : Nat → Nat) (j : Nat) : bstk n w s h f j = 0 ∨ bstk n w s h f j < j := by
  induction j with
  | zero => exact Or.inl rfl
  | succ j ih =>
    rw [bstk]
    split
    · right; omega
    · rcases ih with h | h
      · exact Or.inl h
      · right; omega
theorem bst_lt (n : Nat) (w s h f : Nat → Nat) : bst n w s h f < 2 ^ n := by
  have := bstk_lt n w s h f (2 ^ n)
  have := Nat.two_pow_pos n
  unfold bst
  omega
theorem ov_m0 (n : Nat) (w s : Nat → Nat) : ov n w s 0 = none := by
  cases h : ov n w s 0 with
  | none => rfl
  | some a =>
    have := (ov_some h).2.1
    rw [Nat.zero_testBit] at this
    cases this
theorem bstk_ok (n : Nat) (w s h f : Nat → Nat) (j : Nat) : fo n f (bstk n w s h f j) = true ∧ ov n w s (bstk n w s h f j) = none := by
  induction j with
  | zero =>
    refine ⟨fo_iff.mpr (fun k _ hb => ?_), ov_m0 n w s⟩
    have hb : (0 : Nat).testBit k = true := hb
    rw [Nat.zero_testBit] at hb
    cases hb
  | succ j ih =>
    rw [bstk]
    split
    · rename_i q
      simp at q
      exact ⟨q.1.1, q.2⟩
    · exact ih
theorem bstk_max (n : Nat) (w s h f : Nat → Nat) (j : Nat) : ∀ i, i < j → fo n f i = true → ov n w s i = none → tl n h i ≤ tl n h (bstk n w s h f j) := by
  induction j with
  | zero => intro i hi; omega
  | succ j ih =>
    intro i hi h1 h2
    rw [bstk]
    by_cases e : i = j
    · subst e
      split
      · exact Nat.le_refl _
      · rename_i q
        simp [h1, h2] at q
        exact q
    · have h3 := ih i (by omega) h1 h2
      split
      · rename_i q
        simp at q
        omega
      · exact h3
theorem tl_le {n m : Nat} {h : Nat → Nat} (hn : n ≤ 6) (hh : ∀ k, k < n → h k ≤ 200) : tl n h m ≤ 1200 := by
  have := sm_bound (n := n) (c := 200) (f := fun o => if m.testBit o then h o else 0) (fun k hk => by
    have := hh k hk
    split <;> omega)
  have : n * 200 ≤ 6 * 200 := Nat.mul_le_mul_right _ hn
  unfold tl
  omega
theorem pow64 {n : Nat} (hn : n ≤ 6) : 2 ^ n ≤ 64 := Nat.pow_le_pow_right (n := 2) (by decide) hn
theorem bstk_y {n : Nat} {w s h f : Nat → Nat} {j : Nat} (h1 : fo n f j = true) (h2 : tl n h (bstk n w s h f j) < tl n h j) (h3 : ov n w s j = none) : bstk n w s h f (j + 1) = j := by
  rw [bstk, h1, h3, decide_eq_true h2]
  rfl
theorem bstk_n {n : Nat} {w s h f : Nat → Nat} {j : Nat} (hh : fo n f j = false ∨ ¬ tl n h (bstk n w s h f j) < tl n h j ∨ ov n w s j ≠ none) : bstk n w s h f (j + 1) = bstk n w s h f j := by
  rw [bstk, if_neg]
  intro q
  simp only [Bool.and_eq_true, decide_eq_true_eq, Option.isNone_iff_eq_none] at q
  rcases hh with h | h | h
  · rw [q.1.1] at h; cases h
  · exact h q.1.2
  · exact h q.2
theorem bstk_1 (n : Nat) (w s h f : Nat → Nat) : bstk n w s h f 1 = 0 := by
  rcases bstk_lt n w s h f 1 with q | q
  · exact q
  · omega
theorem q_highestSet {n : Nat} {W S Hh F : Nat → Int32} {w s h f : Nat → Nat} (T : tr n W S w s) (hH : ∀ k, k < n → Hh k = nI (h k) ∧ h k ≤ 200) (hF : ∀ k, k < n → F k = nI (f k) ∧ f k ≤ 3) : f_X9_highestSet (nI n) W S Hh F = some (nI (bst n w s h f)) := by
  have hn := T.1
  have h6 := pow64 hn
  unfold f_X9_highestSet
  rw [wkb1_t (q_fitSet hn hF)]
  have hp := Nat.two_pow_pos n
  have key := lupF (fun nn acc i => f_X9_highestSet_L9 (nI n) W S Hh F nn (nI (fitm f n)) acc i) 1 (2 ^ n) (fun k => nI (bstk n w s h f k)) (some (nI (bst n w s h f))) (by omega) (by omega) ?_ ?_
  · rw [bstk_1] at key
    exact key
  · intro nn
    show f_X9_highestSet_L9 (nI n) W S Hh F (nn + 1) (nI (fitm f n)) (nI (bst n w s h f)) (nI (2 ^ n)) = _
    rw [f_X9_highestSet_L9, shl1 (by omega)]
    exact if_pos (nI_le (Nat.le_refl _) (by omega))
  · intro nn k _ hk
    show f_X9_highestSet_L9 (nI n) W S Hh F (nn + 1) (nI (fitm f n)) (nI (bstk n w s h f k)) (nI k) = f_X9_highestSet_L9 (nI n) W S Hh F nn (nI (fitm f n)) (nI (bstk n w s h f (k + 1))) (nI (k + 1))
    have hb := bstk_lt n w s h f k
    have t1 := tl_le (m := k) hn (fun k hk => (hH k hk).2)
    have t2 := tl_le (m := bstk n w s h f k) hn (fun k hk => (hH k hk).2)
    have hand := Nat.and_le_left (n := k) (m := fitm f n)
    rw [f_X9_highestSet_L9, shl1 (by omega), if_neg (nI_ge hk (by omega)), nI_and, nI_1]
    by_cases h1 : fo n f k = true
    · rw [if_pos (by rw [(and_fit hk).mpr h1]), wkb1_t (q_heightOf hn (fun k hk => (hH k hk).1) (by omega)), wkb1_t (q_heightOf hn (fun k hk => (hH k hk).1) (by omega))]
      by_cases h2 : tl n h k ≤ tl n h (bstk n w s h f k)
      · rw [if_pos (nI_le h2 (by omega)), bstk_n (Or.inr (Or.inl (by omega)))]
      · rw [if_neg (nI_ge (by omega) (by omega)), wkb1_t (q_overloadedOf T (by omega))]
        cases h3 : ov n w s k with
        | none =>
          rw [bstk_y h1 (by omega) h3]
          exact if_pos rfl
        | some a =>
          rw [bstk_n (Or.inr (Or.inr (by rw [h3]; exact fun z => by cases z)))]
          exact if_neg (oI_m1 (by have := (ov_some h3).1; omega))
    · rw [if_neg (fun e => h1 ((and_fit hk).mp ((nI_eq (by omega) (by omega)).mp e))), bstk_n (Or.inl (Bool.eq_false_iff.mpr h1))]
theorem q_best {n : Nat} {g col loads : Nat → Int32} {z : Int32} (G : gA n g) : ∃ col' loads' z', f_X11_best g col loads z = some (nI (bst n (gW g) (gS g) (gH g) (gF g)), col', loads', z') := by
  have hn := G.1
  have h6 := pow64 hn
  have hp := Nat.two_pow_pos n
  have hh : ∀ k, k < n → gH g k ≤ 200 := fun k hk => (G.2.2 k hk).2.2.1.2.2
  have key : ∀ d k nn (col loads : Nat → Int32) (z : Int32), k + d = 2 ^ n → d < nn → ∃ col' loads' z', f_X11_best_L4 g nn (nI (bstk n (gW g) (gS g) (gH g) (gF g) k)) (nI k) col loads z = some (nI (bst n (gW g) (gS g) (gH g) (gF g)), col', loads', z') := by
    intro d
    induction d with
    | zero =>
      intro k nn col loads z hk hnn
      obtain rfl : k = 2 ^ n := by omega
      cases nn with
      | zero => omega
      | succ nn =>
        rw [f_X11_best_L4, G.2.1, shl1 (by omega)]
        exact ⟨col, loads, z, if_pos (nI_le (Nat.le_refl _) (by omega))⟩
    | succ d ih =>
      intro k nn col loads z hk hnn
      cases nn with
      | zero => omega
      | succ nn =>
        have hb := bstk_lt n (gW g) (gS g) (gH g) (gF g) k
        have t1 := tl_le (m := k) hn hh
        have t2 := tl_le (m := bstk n (gW g) (gS g) (gH g) (gF g) k) hn hh
        rw [f_X11_best_L4, G.2.1, shl1 (by omega), if_neg (nI_ge (by omega) (by omega)), wkb1_t (q_areHurt G (by omega)), nI_1]
        have ih1 := fun col loads z => ih (k + 1) nn col loads z (by omega) (by omega)
        by_cases h1 : fo n (gF g) k = true
        · rw [h1, show bI (!true) = bI false from rfl, ifb_f, wkb1_t (q_tall G (by omega)), wkb1_t (q_tall G (by omega))]
          by_cases h2 : tl n (gH g) k ≤ tl n (gH g) (bstk n (gW g) (gS g) (gH g) (gF g) k)
          · rw [bstk_n (Or.inr (Or.inl (by omega)))] at ih1
            rw [if_neg (nI_nlt h2 (by omega))]
            exact ih1 col loads z
          · rw [if_pos (nI_lt (by omega) (by omega))]
            obtain ⟨c1, l1, e1, hL⟩ := q_lays (m := k) (col := col) (loads := loads) z G (by omega)
            rw [wkb3_t e1, wkb1_t (q_breaks G hL)]
            cases h3 : ov n (gW g) (gS g) k with
            | none =>
              rw [bstk_y h1 (by omega) h3] at ih1
              rw [oR_neg h3, if_neg (by decide)]
              exact ih1 _ _ _
            | some a =>
              rw [bstk_n (Or.inr (Or.inr (by rw [h3]; exact fun z => by cases z)))] at ih1
              have hr := rk_le n (gW g) (gS g) k a
              rw [oR_pos h3, if_pos (nI_pos' (by omega))]
              exact ih1 _ _ _
        · rw [bstk_n (Or.inl (Bool.eq_false_iff.mpr h1))] at ih1
          rw [Bool.eq_false_iff.mpr h1, show bI (!false) = bI true from rfl, ifb_t]
          exact ih1 col loads z
  obtain ⟨c, l, z', e⟩ := key (2 ^ n - 1) 1 FU col loads z (by omega) (by unfold FU; omega)
  rw [bstk_1] at e
  exact ⟨c, l, z', e⟩
/-- the search -/
def feas (n : Nat) (w s : Nat → Nat) (T c : Nat) : Prop := ∀ a, a < n → T.testBit a = true → c + ld n w s T a ≤ s a
theorem ld_x {n : Nat} {w s : Nat → Nat} {T a b : Nat} (ha : a < n) (hb : T.testBit a = false) : ld n w s (T ^^^ 2 ^ a) b = ld n w s T b + if lw w s b a then w a else 0 := by
  have h := sm_off (n := n) (a := a) (f := fun o => if (T ^^^ 2 ^ a).testBit o && lw w s b o then w o else 0) (g := fun o => if T.testBit o && lw w s b o then w o else 0) ha (fun o _ ho => by rw [xb_ne ho])
  simp only [xb_eq, hb, Bool.false_and, Bool.not_false, Bool.true_and] at h
  unfold ld
  have : (if false = true then w a else 0) = 0 := rfl
  rw [this] at h
  omega
theorem tl_x {n : Nat} {h : Nat → Nat} {T a : Nat} (ha : a < n) (hb : T.testBit a = false) : tl n h (T ^^^ 2 ^ a) = tl n h T + h a := by
  have q := sm_off (n := n) (a := a) (f := fun o => if (T ^^^ 2 ^ a).testBit o then h o else 0) (g := fun o => if T.testBit o then h o else 0) ha (fun o _ ho => by rw [xb_ne ho])
  have e1 : (if (T ^^^ 2 ^ a).testBit a then h a else 0) = h a := by rw [xb_eq, hb]; rfl
  have e2 : (if T.testBit a then h a else 0) = 0 := by rw [hb]; rfl
  rw [e1, e2] at q
  unfold tl
  omega
theorem feas_put {n : Nat} {w s : Nat → Nat} {T a c : Nat} (ha : a < n) (hb : T.testBit a = false) (hf : feas n w s T (c + w a)) (hc : c ≤ s a) : feas n w s (T ^^^ 2 ^ a) c := by
  intro b hbn hbT
  rw [ld_x ha hb]
  by_cases e : b = a
  · subst e
    rw [lw_irr]
    show c + (ld n w s T b + 0) ≤ s b
    by_cases q : ∃ r, ∃ o, o < n ∧ T.testBit o = true ∧ lw w s b o = true ∧ rk n w s T o = r
    · obtain ⟨r, ⟨o, h1, h2, h3, h4⟩, h5⟩ := pk_least (fun r => ∃ o, o < n ∧ T.testBit o = true ∧ lw w s b o = true ∧ rk n w s T o = r) q
      have hsum : ld n w s T b = ld n w s T o + w o := by
        have h := sm_off (n := n) (a := o) (f := fun x => if T.testBit x && lw w s b x then w x else 0) (g := fun x => if T.testBit x && lw w s o x then w x else 0) h1 (fun x hx hne => by
          cases k1 : T.testBit x
          · rfl
          · have : lw w s b x = lw w s o x := by
              cases k2 : lw w s o x
              · cases k3 : lw w s b x
                · rfl
                · exfalso
                  have k4 := lw_tot (fun e => hne e.symm) k2
                  have k5 := rk_lt hx k1 k4
                  exact h5 _ (by omega) ⟨x, hx, k1, k3, rfl⟩
              · exact lw_tr h3 k2
            rw [this])
        have e1 : (if T.testBit o && lw w s b o then w o else 0) = w o := by simp [h2, h3]
        have e2 : (if T.testBit o && lw w s o o then w o else 0) = 0 := by simp [lw_irr]
        simp only [e1, e2] at h
        unfold ld
        omega
      have h6 := hf o h1 h2
      rw [lw_iff] at h3
      omega
    · have : ld n w s T b = 0 := sm_zero (fun o ho => by
        cases k1 : T.testBit o
        · rfl
        · cases k2 : lw w s b o
          · rfl
          · exact absurd ⟨_, o, ho, k1, k2, rfl⟩ q)
      omega
  · have h1 : T.testBit b = true := by rw [xb_ne e] at hbT; exact hbT
    have := hf b hbn h1
    have : (if lw w s b a = true then w a else 0) ≤ w a := by split <;> omega
    omega
/-- the uppermost of a set -/
theorem top_of {n : Nat} (w s : Nat → Nat) {T : Nat} (hT : T < 2 ^ n) (h0 : T ≠ 0) : ∃ t, t < n ∧ T.testBit t = true ∧ ∀ o, o < n → T.testBit o = true → o ≠ t → lw w s o t = true := by
  have q : ∃ r, ∃ o, o < n ∧ T.testBit o = true ∧ n - rk n w s T o = r := by
    by_cases q : ∃ o, o < n ∧ T.testBit o = true
    · obtain ⟨o, h1, h2⟩ := q
      exact ⟨_, o, h1, h2, rfl⟩
    · exfalso
      refine h0 (mask0 hT (fun k hk => ?_))
      cases q2 : T.testBit k
      · rfl
      · exact absurd ⟨k, hk, q2⟩ q
  obtain ⟨r, ⟨t, h1, h2, h3⟩, h4⟩ := pk_least _ q
  refine ⟨t, h1, h2, fun o ho hb hne => ?_⟩
  cases q2 : lw w s o t
  · exfalso
    have k1 := rk_lt h1 h2 (lw_tot hne q2)
    have k2 := rk_le n w s T o
    exact h4 (n - rk n w s T o) (by omega) ⟨o, ho, hb, rfl⟩
  · rfl
theorem feas_cut {n : Nat} {w s : Nat → Nat} {T t c : Nat} (ht : t < n) (hb : T.testBit t = true) (htop : ∀ o, o < n → T.testBit o = true → o ≠ t → lw w s o t = true) (hf : feas n w s T c) : c ≤ s t ∧ feas n w s (T ^^^ 2 ^ t) (c + w t) := by
  have hx : (T ^^^ 2 ^ t).testBit t = false := by rw [xb_eq, hb]; rfl
  have hxx : (T ^^^ 2 ^ t) ^^^ 2 ^ t = T := by rw [Nat.xor_assoc, Nat.xor_self, Nat.xor_zero]
  refine ⟨by have := hf t ht hb; omega, fun a ha haT => ?_⟩
  have hne : a ≠ t := fun e => by rw [e, hx] at haT; cases haT
  rw [xb_ne hne] at haT
  have h1 := hf a ha haT
  have h2 := ld_x (w := w) (s := s) (T := T ^^^ 2 ^ t) (b := a) ht hx
  rw [hxx, htop a ha haT hne] at h2
  simp at h2
  omega
def sub_ (T m : Nat) : Prop := ∀ k, T.testBit k = true → m.testBit k = true
def hgh (n : Nat) (w s h : Nat → Nat) (m c v : Nat) : Prop := (∀ T, T < 2 ^ n → sub_ T m → feas n w s T c → tl n h T ≤ v) ∧ ∃ T, T < 2 ^ n ∧ sub_ T m ∧ feas n w s T c ∧ tl n h T = v
theorem q_highestBelow {n : Nat} {W S Hh : Nat → Int32} {w s h : Nat → Nat} (T : tr n W S w s) (hH : ∀ k, k < n → Hh k = nI (h k) ∧ h k ≤ 200) :
    ∀ (rd m c dep : Nat), m < 2 ^ n → mn n m + dep ≤ 6 → c + 120 * mn n m ≤ 720 → 6 < rd + dep → ∃ v, f_X9_highestBelow (nI n) W S Hh rd (nI m) (nI c) (nI dep) = some (nI v) ∧ hgh n w s h m c v := by
  have hn := T.1
  have h6 := pow64 hn
  have sub0 : ∀ m, sub_ 0 m := fun m k hk => by rw [Nat.zero_testBit] at hk; cases hk
  have feas0 : ∀ c, feas n w s 0 c := fun c a _ hk => by rw [Nat.zero_testBit] at hk; cases hk
  have tl0 : tl n h 0 = 0 := sm_zero (fun k _ => by rw [Nat.zero_testBit]; rfl)
  intro rd
  induction rd with
  | zero =>
    intro m c dep hm hmn _ hrd
    omega
  | succ rd ih =>
    intro m c dep hm hmn hc hrd
    rw [f_X9_highestBelow]
    unfold f_X9_highestBelowb
    by_cases hd : dep < 6
    · rw [if_pos (show nI dep < 6 from nI_lt (b := 6) hd (by decide))]
      have key : ∀ d k nn acc, k + d = n → d < nn → (∀ T, T < 2 ^ n → sub_ T m → feas n w s T c → (∀ t, t < n → T.testBit t = true → (∀ o, o < n → T.testBit o = true → o ≠ t → lw w s o t = true) → t < k) → tl n h T ≤ acc) → (∃ T, T < 2 ^ n ∧ sub_ T m ∧ feas n w s T c ∧ tl n h T = acc) → ∃ v, f_X9_highestBelowb_L14 (f_X9_highestBelow (nI n) W S Hh rd) (nI n) W S Hh (nI m) (nI c) (nI dep) nn (nI acc) (nI k) = some (nI v) ∧ hgh n w s h m c v := by
        intro d
        induction d with
        | zero =>
          intro k nn acc hk hnn h1 h2
          obtain rfl : k = n := by omega
          cases nn with
          | zero => omega
          | succ nn =>
            rw [f_X9_highestBelowb_L14]
            refine ⟨acc, if_pos (nI_le (Nat.le_refl _) (by omega)), fun T hT k1 k2 => h1 T hT k1 k2 (fun t ht _ _ => ht), h2⟩
        | succ d ihd =>
          intro k nn acc hk hnn h1 h2
          have hkn : k < n := by omega
          cases nn with
          | zero => omega
          | succ nn =>
            rw [f_X9_highestBelowb_L14, if_neg (nI_ge hkn (by omega)), wkb1_t (q_isMember hn (by omega) hkn), nI_1]
            have skip : (∀ T, T < 2 ^ n → sub_ T m → feas n w s T c → T.testBit k = true → (∀ o, o < n → T.testBit o = true → o ≠ k → lw w s o k = true) → False) → ∃ v, f_X9_highestBelowb_L14 (f_X9_highestBelow (nI n) W S Hh rd) (nI n) W S Hh (nI m) (nI c) (nI dep) nn (nI acc) (nI (k + 1)) = some (nI v) ∧ hgh n w s h m c v := by
              intro hno
              refine ihd (k + 1) nn acc (by omega) (by omega) (fun T hT k1 k2 k3 => h1 T hT k1 k2 (fun t ht hb htop => ?_)) h2
              have := k3 t ht hb htop
              by_cases e : t = k
              · subst e
                exact absurd (hno T hT k1 k2 hb htop) id
              · omega
            cases hb : m.testBit k
            · rw [ifb_f]
              exact skip (fun T _ k1 _ k3 _ => by have := k1 k k3; rw [hb] at this; cases this)
            · obtain ⟨t1, t2, t3, t4⟩ := T.2 k hkn
              obtain ⟨t5, t6⟩ := hH k hkn
              have ik : vp_in (nI k) 6 := vp_in_nI (by omega) (by decide)
              rw [ifb_t]
              simp only [gin_t ik, nI_clamp (show k < 2 ^ 31 by omega), t1, t2, t5, nI_ltI (show s k < 2 ^ 31 by omega) (show c < 2 ^ 31 by omega)]
              by_cases hs : s k < c
              · rw [if_pos hs]
                refine skip (fun T _ _ k2 k3 k4 => ?_)
                have := (feas_cut hkn k3 k4 k2).1
                omega
              · rw [if_neg hs]
                have hmx := mn_x hkn hb
                obtain ⟨v, e1, hv1, U, hU1, hU2, hU3, hU4⟩ := ih (m ^^^ 2 ^ k) (c + w k) (dep + 1) (xb_lt hm hkn) (by omega) (by omega) (by omega)
                have hv : v ≤ 1200 := by
                  rw [← hU4]
                  exact tl_le hn (fun k hk => (hH k hk).2)
                have ha : acc ≤ 1200 := by
                  obtain ⟨U, _, _, _, h4⟩ := h2
                  rw [← h4]
                  exact tl_le hn (fun k hk => (hH k hk).2)
                rw [shl1 (by omega), nI_clr hb, nI_add, nI_1, wkb1_t e1]
                simp only [nI_add, wkl_t, nI_ltI (show acc < 2 ^ 31 by omega) (show h k + v < 2 ^ 31 by omega)]
                have hUk : U.testBit k = false := by
                  cases q : U.testBit k
                  · rfl
                  · have := hU2 k q
                    rw [xb_eq, hb] at this
                    cases this
                have hnew : ∃ T, T < 2 ^ n ∧ sub_ T m ∧ feas n w s T c ∧ tl n h T = h k + v := by
                  refine ⟨U ^^^ 2 ^ k, xb_lt hU1 hkn, fun j hj => ?_, feas_put hkn hUk hU3 (by omega), ?_⟩
                  · by_cases e : j = k
                    · rw [e]; exact hb
                    · rw [xb_ne e] at hj
                      have := hU2 j hj
                      rw [xb_ne e] at this
                      exact this
                  · rw [tl_x hkn hUk, hU4]
                    omega
                have hold : ∀ acc', acc ≤ acc' → h k + v ≤ acc' → ∀ T, T < 2 ^ n → sub_ T m → feas n w s T c → (∀ t, t < n → T.testBit t = true → (∀ o, o < n → T.testBit o = true → o ≠ t → lw w s o t = true) → t < k + 1) → tl n h T ≤ acc' := by
                  intro acc' q1 q2 T hT k1 k2 k3
                  by_cases e : ∃ t, t < n ∧ T.testBit t = true ∧ (∀ o, o < n → T.testBit o = true → o ≠ t → lw w s o t = true) ∧ ¬ t < k
                  · obtain ⟨t, e1, e2, e3, e4⟩ := e
                    have := k3 t e1 e2 e3
                    obtain rfl : t = k := by omega
                    have hxx : (T ^^^ 2 ^ t) ^^^ 2 ^ t = T := by rw [Nat.xor_assoc, Nat.xor_self, Nat.xor_zero]
                    have hxf : (T ^^^ 2 ^ t).testBit t = false := by rw [xb_eq, e2]; rfl
                    have h9 := hv1 (T ^^^ 2 ^ t) (xb_lt hT hkn) (fun j hj => by
                      by_cases e : j = t
                      · rw [e, hxf] at hj; cases hj
                      · rw [xb_ne e] at hj ⊢
                        exact k1 j hj) (feas_cut hkn e2 e3 k2).2
                    have h10 := tl_x (h := h) hkn hxf
                    rw [hxx] at h10
                    omega
                  · have := h1 T hT k1 k2 (fun t q3 q4 q5 => by
                      by_cases q6 : t < k
                      · exact q6
                      · exact absurd ⟨t, q3, q4, q5, q6⟩ e)
                    omega
                by_cases hmax : acc < h k + v
                · rw [if_pos hmax]
                  exact ihd (k + 1) nn (h k + v) (by omega) (by omega) (hold _ (by omega) (Nat.le_refl _)) hnew
                · rw [if_neg hmax]
                  exact ihd (k + 1) nn acc (by omega) (by omega) (hold _ (Nat.le_refl _) (by omega)) h2
      refine key n 0 FU 0 (by omega) (by unfold FU; omega) (fun T hT k1 k2 k3 => ?_) ⟨0, Nat.two_pow_pos n, sub0 m, feas0 c, tl0⟩
      by_cases e : T = 0
      · rw [e, tl0]
        exact Nat.le_refl _
      · obtain ⟨t, q1, q2, q3⟩ := top_of w s hT e
        have := k3 t q1 q2 q3
        omega
    · rw [if_neg (show ¬ nI dep < 6 from nI_nlt (b := 6) (by omega) (by omega))]
      have hm0 : m = 0 := mn_0 hm (by omega)
      refine ⟨0, rfl, fun U hU k1 _ => ?_, 0, Nat.two_pow_pos n, sub0 m, feas0 c, tl0⟩
      have : U = 0 := mask0 hU (fun k _ => by
        cases q : U.testBit k
        · rfl
        · have := k1 k q
          rw [hm0, Nat.zero_testBit] at this
          cases this)
      rw [this, tl0]
      exact Nat.le_refl _
theorem q_highestBySearch {n : Nat} {W S Hh F : Nat → Int32} {w s h f : Nat → Nat} (T : tr n W S w s) (hH : ∀ k, k < n → Hh k = nI (h k) ∧ h k ≤ 200) (hF : ∀ k, k < n → F k = nI (f k) ∧ f k ≤ 3) : f_X9_highestBySearch (nI n) W S Hh F = some (nI (tl n h (bst n w s h f))) := by
  have hn := T.1
  unfold f_X9_highestBySearch
  rw [wkb1_t (q_fitSet hn hF)]
  have hM := mn_le n (fitm f n)
  obtain ⟨v, e, h1, U, h2, h3, h4, h5⟩ := q_highestBelow T hH 8 (fitm f n) 0 0 (fitm_lt f n) (by omega) (by omega) (by omega)
  have e2 : f_X9_highestBelow (nI n) W S Hh 8 (nI (fitm f n)) 0 0 = some (nI v) := e
  rw [wkb1_t e2]
  have hv : v = tl n h (bst n w s h f) := by
    apply Nat.le_antisymm
    · rw [← h5]
      refine bstk_max n w s h f (2 ^ n) U h2 (fo_iff.mpr (fun k hk hb => ?_)) ?_
      · have := h3 k hb
        rw [fitm_bit f hk] at this
        exact of_decide_eq_true this
      · cases ho : ov n w s U with
        | none => rfl
        | some a =>
          obtain ⟨q1, q2, q3, _⟩ := ov_some ho
          have := h4 a q1 q2
          omega
    · obtain ⟨k1, k2⟩ := bstk_ok n w s h f (2 ^ n)
      refine h1 (bst n w s h f) (bst_lt n w s h f) (fun k hb => ?_) (fun a ha hb => ?_)
      · have hk := bit_hi (bst_lt n w s h f) hb
        rw [fitm_bit f hk, fo_iff.mp k1 k hk hb]
        rfl
      · have : ld n w s (bst n w s h f) a ≤ s a := ov_none k2 a ha hb
        omega
  rw [hv]
