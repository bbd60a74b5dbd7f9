/-! PURE LAYER: the fewest transfers, in all ways -/
def iI (z : Int) : Int32 := Int32.ofInt z
theorem iI_toInt {z : Int} (h1 : -(2 ^ 31) ≤ z) (h2 : z < 2 ^ 31) : (iI z).toInt = z := Int32.toInt_ofInt_of_le h1 h2
theorem iI_of (x : Int32) : x = iI x.toInt := (Int32.ofInt_toInt x).symm
theorem iI_add (a b : Int) : iI a + iI b = iI (a + b) := (Int32.ofInt_add a b).symm
theorem iI_0 : iI 0 = 0 := rfl
theorem iI_z {z : Int} (h1 : -(2 ^ 31) ≤ z) (h2 : z < 2 ^ 31) : iI z = 0 ↔ z = 0 := by
  rw [← Int32.toInt_inj, iI_toInt h1 h2, show (0 : Int32).toInt = 0 from by decide]
theorem nI_iI (n : Nat) : nI n = iI (n : Int) := rfl
def sab (A : Nat) (b : Nat → Int) : Nat := sm A (fun k => (b k).natAbs)
theorem sB_abs (A : Nat) (b : Nat → Int) (S : Nat → Bool) : (sB A b S).natAbs ≤ sab A b := by
  induction A with
  | zero => exact Nat.le_refl _
  | succ A ih =>
    rw [sB_s]
    show _ ≤ sab A b + (b A).natAbs
    split <;> omega
/-- the place of an account among those with a balance -/
def cz (b : Nat → Int) : Nat → Nat
  | 0 => 0
  | j + 1 => cz b j + (decide (b j ≠ 0)).toNat
theorem cz_s (b : Nat → Int) (j : Nat) : cz b (j + 1) = cz b j + (decide (b j ≠ 0)).toNat := rfl
theorem cz_s1 {b : Nat → Int} {j : Nat} (h : b j ≠ 0) : cz b (j + 1) = cz b j + 1 := by rw [cz_s, decide_eq_true h]; rfl
theorem cz_s0 {b : Nat → Int} {j : Nat} (h : b j = 0) : cz b (j + 1) = cz b j := by rw [cz_s, h]; rfl
theorem cz_le (b : Nat → Int) (j : Nat) : cz b j ≤ j := by
  induction j with
  | zero => exact Nat.le_refl _
  | succ j ih =>
    by_cases q : b j = 0
    · rw [cz_s0 q]; omega
    · rw [cz_s1 q]; omega
theorem cz_mono {b : Nat → Int} {i j : Nat} (h : i ≤ j) : cz b i ≤ cz b j := by
  induction j with
  | zero => obtain rfl : i = 0 := by omega
            exact Nat.le_refl _
  | succ j ih =>
    by_cases e : i = j + 1
    · rw [e]; exact Nat.le_refl _
    · have := ih (by omega)
      rw [cz_s]
      omega
theorem cz_lt {b : Nat → Int} {i j : Nat} (h : i < j) (hb : b i ≠ 0) : cz b i < cz b j := by
  have := cz_mono (b := b) (show i + 1 ≤ j by omega)
  rw [cz_s1 hb] at this
  omega
theorem cz_inj {b : Nat → Int} {i j : Nat} (hi : b i ≠ 0) (hj : b j ≠ 0) (h : cz b i = cz b j) : i = j := by
  by_cases q : i < j
  · have := cz_lt q hi; omega
  · by_cases q2 : j < i
    · have := cz_lt q2 hj; omega
    · omega
theorem cz_sur {b : Nat → Int} : ∀ {A i : Nat}, i < cz b A → ∃ j, j < A ∧ b j ≠ 0 ∧ cz b j = i := by
  intro A
  induction A with
  | zero => intro i h; exact absurd h (Nat.not_lt_zero _)
  | succ A ih =>
    intro i h
    by_cases q : b A = 0
    · rw [cz_s0 q] at h
      obtain ⟨j, h1, h2⟩ := ih h
      exact ⟨j, by omega, h2⟩
    · rw [cz_s1 q] at h
      by_cases e : i = cz b A
      · exact ⟨A, by omega, q, e.symm⟩
      · obtain ⟨j, h1, h2⟩ := ih (show i < cz b A by omega)
        exact ⟨j, by omega, h2⟩
/-- the accounts of a set of open ones -/
def Sm (b : Nat → Int) (m : Nat) : Nat → Bool := fun j => decide (b j ≠ 0) && m.testBit (cz b j)
theorem Sm_x {b : Nat → Int} {m j : Nat} (hb : b j ≠ 0) : Sm b (m ^^^ 2 ^ cz b j) = (if m.testBit (cz b j) = true then dl (Sm b m) j else Sm b (m ^^^ 2 ^ cz b j)) := by
  by_cases q : m.testBit (cz b j) = true
  · rw [if_pos q]
    funext k
    unfold Sm dl
    by_cases hk : b k = 0
    · simp [hk]
    · by_cases e : k = j
      · subst e
        rw [xb_eq, q]
        simp
      · rw [xb_ne (fun e2 => e (cz_inj hk hb e2))]
        simp [e]
  · rw [if_neg q]
theorem Sm_dl {b : Nat → Int} {m j : Nat} (hb : b j ≠ 0) (hm : m.testBit (cz b j) = true) : Sm b (m ^^^ 2 ^ cz b j) = dl (Sm b m) j := by
  rw [Sm_x hb, if_pos hm]
def sO (o : Nat → Int) : Nat → Nat → Int
  | 0, _ => 0
  | i + 1, m => sO o i m + if m.testBit i then o i else 0
theorem sO_s (o : Nat → Int) (i m : Nat) : sO o (i + 1) m = sO o i m + if m.testBit i then o i else 0 := rfl
theorem sO_congr {o : Nat → Int} {i m m' : Nat} (h : ∀ j, j < i → m.testBit j = m'.testBit j) : sO o i m = sO o i m' := by
  induction i with
  | zero => rfl
  | succ i ih => rw [sO_s, sO_s, ih (fun j hj => h j (by omega)), h i (by omega)]
theorem bit_add {m i : Nat} (h : m < 2 ^ i) : ∀ j, (m + 2 ^ i).testBit j = (m.testBit j || decide (i = j)) := by
  intro j
  rw [← or_pow h, Nat.testBit_or, Nat.testBit_two_pow]
theorem sO_sB {A : Nat} {b o : Nat → Int} (m : Nat) (h : ∀ j, j < A → b j ≠ 0 → o (cz b j) = b j) : sO o (cz b A) m = sB A b (Sm b m) := by
  induction A with
  | zero => rfl
  | succ A ih =>
    rw [sB_s, ← ih (fun j hj => h j (by omega))]
    by_cases q : b A = 0
    · rw [cz_s0 q]
      simp [Sm, q]
    · rw [cz_s1 q, sO_s, h A (by omega) q]
      simp [Sm, q]
theorem mn_cn {A : Nat} {b : Nat → Int} (m : Nat) : mn (cz b A) m = cn A (Sm b m) := by
  induction A with
  | zero => rfl
  | succ A ih =>
    show _ = cn A (Sm b m) + (Sm b m A).toNat
    rw [← ih]
    by_cases q : b A = 0
    · rw [cz_s0 q]
      simp [Sm, q]
    · rw [cz_s1 q, mn_s]
      simp [Sm, q]
/-- the class's rows -/
def opn (B : Nat → Int32) (b : Nat → Int) (o0 : Nat → Int32) : Nat → Nat → Int32
  | 0 => o0
  | k + 1 => if b k = 0 then opn B b o0 k else upd (opn B b o0 k) (cz b k) (B k)
theorem opn_at {B : Nat → Int32} {b : Nat → Int} {o0 : Nat → Int32} : ∀ {k j : Nat}, j < k → b j ≠ 0 → opn B b o0 k (cz b j) = B j := by
  intro k
  induction k with
  | zero => intro j h; omega
  | succ k ih =>
    intro j hj hb
    rw [opn]
    by_cases e : j = k
    · subst e
      rw [if_neg hb, pk_us]
    · split
      · exact ih (by omega) hb
      · rename_i q
        rw [pk_un (fun e2 => e (cz_inj hb q e2))]
        exact ih (by omega) hb
/-- balances as numbers -/
def bOk (A : Nat) (B : Nat → Int32) (b : Nat → Int) : Prop := 1 ≤ A ∧ A ≤ 11 ∧ (∀ k, k < A → B k = iI (b k)) ∧ sab A b < 2 ^ 30
theorem bOk_abs {A : Nat} {B : Nat → Int32} {b : Nat → Int} (h : bOk A B b) {k : Nat} (hk : k < A) : (b k).natAbs < 2 ^ 30 := by
  have := sm_ge (n := A) (fun k => (b k).natAbs) hk
  have := h.2.2.2
  unfold sab at this
  omega
theorem bOk_0 {A : Nat} {B : Nat → Int32} {b : Nat → Int} (h : bOk A B b) {k : Nat} (hk : k < A) : B k = 0 ↔ b k = 0 := by
  have := bOk_abs h hk
  rw [h.2.2.1 k hk]
  exact iI_z (by omega) (by omega)
theorem pw11 {c : Nat} (h : c ≤ 11) : 2 ^ c ≤ 2048 := Nat.pow_le_pow_right (n := 2) (by decide) h
theorem shl1' {k : Nat} (h : k < 31) : (1 : Int32) <<< (nI k &&& 31) = nI (2 ^ k) := shl1 h
theorem q_takeOpen {A : Nat} {B : Nat → Int32} {b : Nat → Int} (h : bOk A B b) (E0 : Int32) (o0 s0 : Nat → Int32) (hs0 : s0 0 = 0) : ∃ o s, f_X8_takeOpenBalances E0 o0 s0 (nI A) B = some (nI (cz b A), o, s) ∧ (∀ j, j < A → b j ≠ 0 → o (cz b j) = B j) ∧ ∀ m, m < 2 ^ cz b A → s m = iI (sB A b (Sm b m)) := by
  obtain ⟨h1, h11, hB, hsab⟩ := id h
  have hc := cz_le b A
  have h2 := pw11 (show cz b A ≤ 11 by omega)
  unfold f_X8_takeOpenBalances
  refine ⟨opn B b o0 A, ?_⟩
  have inner : ∀ (K : Int32 → Int32 → (Nat → Int32) → (Nat → Int32) → Option (Int32 × (Nat → Int32) × (Nat → Int32))) (i : Nat), i < cz b A → ∀ d k nn (s : Nat → Int32), k + d = 2 ^ i → d < nn → (∀ m, m < 2 ^ i → s m = iI (sO (fun j => (opn B b o0 A j).toInt) i m)) → (∀ m, m < k → s (m + 2 ^ i) = iI (sO (fun j => (opn B b o0 A j).toInt) i m + (opn B b o0 A i).toInt)) → ∃ s', f_X8_takeOpenBalances_L67 (nI A) B K nn (nI i) (nI k) (nI (cz b A)) (opn B b o0 A) s = K (nI (i + 1)) (nI (cz b A)) (opn B b o0 A) s' ∧ ∀ m, m < 2 ^ (i + 1) → s' m = iI (sO (fun j => (opn B b o0 A j).toInt) (i + 1) m) := by
    intro K i hi d
    have hpi : 2 ^ (i + 1) ≤ 2048 := pw11 (by omega)
    rw [Nat.pow_succ] at hpi
    induction d with
    | zero =>
      intro k nn s hk hnn k1 k2
      obtain rfl : k = 2 ^ i := by omega
      cases nn with
      | zero => omega
      | succ nn =>
        rw [f_X8_takeOpenBalances_L67, shl1 (by omega), if_pos (nI_le (Nat.le_refl _) (by omega)), nI_1]
        refine ⟨s, rfl, fun m hm => ?_⟩
        rw [Nat.pow_succ] at hm
        by_cases q : m < 2 ^ i
        · rw [k1 m q, sO_s, Nat.testBit_lt_two_pow q]
          simp
        · obtain ⟨z, rfl⟩ : ∃ z, m = z + 2 ^ i := ⟨m - 2 ^ i, by omega⟩
          have hz : z < 2 ^ i := by omega
          have e9 := sO_congr (o := fun j => (opn B b o0 A j).toInt) (i := i) (m := z + 2 ^ i) (m' := z) (fun j hj => by
            have e8 : decide (i = j) = false := by simp; omega
            rw [bit_add hz j, e8, Bool.or_false])
          rw [k2 z hz, sO_s, bit_add hz i, Nat.testBit_lt_two_pow hz, e9]
          simp only [decide_true, Bool.or_true, if_true]
    | succ d ih =>
      intro k nn s hk hnn k1 k2
      have hkk : k < 2 ^ i := by omega
      cases nn with
      | zero => omega
      | succ nn =>
        have ik : vp_in (nI k) 2048 := vp_in_nI (by omega) (by decide)
        have ii : vp_in (nI i) 11 := vp_in_nI (by omega) (by decide)
        have ij : vp_in (nI (k + 2 ^ i)) 2048 := vp_in_nI (by omega) (by decide)
        rw [f_X8_takeOpenBalances_L67, shl1 (by omega), if_neg (nI_ge (by omega) (by omega))]
        simp only [nI_or, or_pow hkk, gin_t ik, gin_t ii, gin_t ij, wkl_t, nI_clamp (show k < 2 ^ 31 by omega), nI_clamp (show i < 2 ^ 31 by omega), nI_clamp (show k + 2 ^ i < 2 ^ 31 by omega), nI_1]
        refine ih (k + 1) nn _ (by omega) (by omega) (fun m hm => ?_) (fun m hm => ?_)
        · rw [pk_un (by omega)]
          exact k1 m hm
        · by_cases e : m = k
          · subst e
            rw [pk_us, k1 m hkk, iI_of (opn B b o0 A i), iI_add, ← iI_of]
          · rw [pk_un (by omega)]
            exact k2 m (by omega)
  have outer : ∀ d i nn (s : Nat → Int32), i + d = cz b A → d < nn → (∀ m, m < 2 ^ i → s m = iI (sO (fun j => (opn B b o0 A j).toInt) i m)) → ∃ s', f_X8_takeOpenBalances_L57 (nI A) B nn (nI i) (nI (cz b A)) (opn B b o0 A) s = some (nI (cz b A), opn B b o0 A, s') ∧ ∀ m, m < 2 ^ cz b A → s' m = iI (sO (fun j => (opn B b o0 A j).toInt) (cz b A) m) := by
    intro d
    induction d with
    | zero =>
      intro i nn s hi hnn k1
      obtain rfl : i = cz b A := by omega
      cases nn with
      | zero => omega
      | succ nn =>
        rw [f_X8_takeOpenBalances_L57, if_pos (nI_le (Nat.le_refl _) (by omega))]
        exact ⟨s, rfl, k1⟩
    | succ d ih =>
      intro i nn s hi hnn k1
      cases nn with
      | zero => omega
      | succ nn =>
        rw [f_X8_takeOpenBalances_L57, if_neg (nI_ge (by omega) (by omega))]
        have hpi : 2 ^ i ≤ 2048 := pw11 (by omega)
        obtain ⟨s', e, k2⟩ := inner (f_X8_takeOpenBalances_L57 (nI A) B nn) i (by omega) (2 ^ i) 0 FU s (by omega) (by unfold FU; omega) k1 (fun m hm => absurd hm (Nat.not_lt_zero _))
        have e : f_X8_takeOpenBalances_L67 (nI A) B (f_X8_takeOpenBalances_L57 (nI A) B nn) FU (nI i) 0 (nI (cz b A)) (opn B b o0 A) s = _ := e
        rw [e]
        exact ih (i + 1) nn s' (by omega) (by omega) k2
  obtain ⟨s', e, hs'⟩ := outer (cz b A) 0 FU s0 (by omega) (by unfold FU; omega) (fun m hm => by
    obtain rfl : m = 0 := by
      have : m < 1 := hm
      omega
    rw [hs0]
    rfl)
  refine ⟨s', ?_, fun j hj hb => opn_at hj hb, fun m hm => ?_⟩
  · refine lupF (fun nn (acc : Int32 × (Nat → Int32)) i => f_X8_takeOpenBalances_L7 (nI A) B nn i acc.1 acc.2 s0) 0 A (fun k => (nI (cz b k), opn B b o0 k)) _ (Nat.zero_le _) (by omega) ?_ ?_
    · intro nn
      show f_X8_takeOpenBalances_L7 (nI A) B (nn + 1) (nI A) (nI (cz b A)) (opn B b o0 A) s0 = _
      rw [f_X8_takeOpenBalances_L7, if_pos (nI_le (Nat.le_refl _) (by omega))]
      exact e
    · intro nn k _ hk
      show f_X8_takeOpenBalances_L7 (nI A) B (nn + 1) (nI k) (nI (cz b k)) (opn B b o0 k) s0 = f_X8_takeOpenBalances_L7 (nI A) B nn (nI (k + 1)) (nI (cz b (k + 1))) (opn B b o0 (k + 1)) s0
      have hck := cz_le b k
      have ik : vp_in (nI k) 11 := vp_in_nI (by omega) (by decide)
      have ic : vp_in (nI (cz b k)) 11 := vp_in_nI (by omega) (by decide)
      rw [f_X8_takeOpenBalances_L7, if_neg (nI_ge hk (by omega)), opn]
      simp only [gin_t ik, gin_t ic, wkl_t, nI_clamp (show k < 2 ^ 31 by omega), nI_clamp (show cz b k < 2 ^ 31 by omega), nI_1, bOk_0 h hk]
      by_cases q : b k = 0
      · rw [if_pos q, if_pos q, cz_s0 q]
      · rw [if_neg q, if_neg q, cz_s1 q]
  · rw [hs' m hm, sO_sB m (fun j hj hb => ?_)]
    show (opn B b o0 A (cz b j)).toInt = b j
    have := bOk_abs h hj
    rw [opn_at hj hb, hB j hj, iI_toInt (by omega) (by omega)]
theorem x_lt0 : ∀ m, m < 2048 → ∀ i, i < 11 → m.testBit i = true → m ^^^ 2 ^ i < m := by decide +kernel
theorem x_lt {m i : Nat} (hm : m < 2048) (h : m.testBit i = true) : m ^^^ 2 ^ i < m := x_lt0 m hm i (bit_hi (n := 11) hm h) h
theorem sB_no (A : Nat) (b : Nat → Int) {S : Nat → Bool} (h : ∀ j, j < A → S j = false) : sB A b S = 0 := by
  induction A with
  | zero => rfl
  | succ A ih =>
    rw [sB_s, ih (fun j hj => h j (by omega)), h A (by omega)]
    rfl
/-- the greatest of the sets without one -/
noncomputable def mxo (A : Nat) (b : Nat → Int) (m : Nat) : Nat → Nat
  | 0 => 0
  | i + 1 => if m.testBit i then (if mxo A b m i < pm A b (Sm b (m ^^^ 2 ^ i)) then pm A b (Sm b (m ^^^ 2 ^ i)) else mxo A b m i) else mxo A b m i
theorem mxo_le {A : Nat} {b : Nat → Int} {m : Nat} : ∀ {i : Nat}, mxo A b m i = 0 ∨ ∃ j, j < i ∧ m.testBit j = true ∧ mxo A b m i = pm A b (Sm b (m ^^^ 2 ^ j)) := by
  intro i
  induction i with
  | zero => exact Or.inl rfl
  | succ i ih =>
    rw [mxo]
    by_cases hb : m.testBit i = true
    · rw [if_pos hb]
      by_cases q : mxo A b m i < pm A b (Sm b (m ^^^ 2 ^ i))
      · rw [if_pos q]
        exact Or.inr ⟨i, by omega, hb, rfl⟩
      · rw [if_neg q]
        rcases ih with h | ⟨j, h1, h2⟩
        · exact Or.inl h
        · exact Or.inr ⟨j, by omega, h2⟩
    · rw [if_neg hb]
      rcases ih with h | ⟨j, h1, h2⟩
      · exact Or.inl h
      · exact Or.inr ⟨j, by omega, h2⟩
theorem mxo_ge {A : Nat} {b : Nat → Int} {m : Nat} : ∀ {i j : Nat}, j < i → m.testBit j = true → pm A b (Sm b (m ^^^ 2 ^ j)) ≤ mxo A b m i := by
  intro i
  induction i with
  | zero => intro j h; omega
  | succ i ih =>
    intro j hj hb
    rw [mxo]
    by_cases e : j = i
    · subst e
      rw [if_pos hb]
      split <;> omega
    · have := ih (show j < i by omega) hb
      split
      · split <;> omega
      · exact this
theorem mxo_pm {A : Nat} {b : Nat → Int} {m : Nat} (h0 : m ≠ 0) (hm : m < 2 ^ cz b A) : mxo A b m (cz b A) + (if sB A b (Sm b m) = 0 then 1 else 0) = pm A b (Sm b m) := by
  have hbit : ∃ i, i < cz b A ∧ m.testBit i = true := by
    by_cases q : ∃ i, i < cz b A ∧ m.testBit i = true
    · exact q
    · exfalso
      refine h0 (mask0 hm (fun k hk => ?_))
      cases e : m.testBit k
      · rfl
      · exact absurd ⟨k, hk, e⟩ q
  have at_ : ∀ i, i < cz b A → m.testBit i = true → ∃ j, j < A ∧ b j ≠ 0 ∧ Sm b m j = true ∧ Sm b (m ^^^ 2 ^ i) = dl (Sm b m) j := by
    intro i hi hb
    obtain ⟨j, h1, h2, h3⟩ := cz_sur hi
    refine ⟨j, h1, h2, ?_, ?_⟩
    · unfold Sm
      rw [h3, hb]
      simp [h2]
    · rw [← h3]
      exact Sm_dl h2 (by rw [h3]; exact hb)
  by_cases q : sB A b (Sm b m) = 0
  · rw [if_pos q]
    obtain ⟨i, hi, hb⟩ := hbit
    obtain ⟨j, k1, k2, k3, k4⟩ := at_ i hi hb
    have e1 := pm_zero k1 k3 k2 q
    have e2 := mxo_ge (A := A) (b := b) hi hb
    rw [k4] at e2
    rcases mxo_le (A := A) (b := b) (m := m) (i := cz b A) with h | ⟨i', hi', hb', e3⟩
    · omega
    · obtain ⟨j', l1, l2, l3, l4⟩ := at_ i' hi' hb'
      have e4 := pm_zero l1 l3 l2 q
      rw [l4] at e3
      omega
  · rw [if_neg q]
    obtain ⟨j, k1, k2, k3, k4, k5⟩ := pm_sign q
    have hb : m.testBit (cz b j) = true := by
      unfold Sm at k2
      simp at k2
      exact k2.2
    have e2 := mxo_ge (A := A) (b := b) (m := m) (cz_lt k1 k3) hb
    rw [Sm_dl k3 hb, k5] at e2
    rcases mxo_le (A := A) (b := b) (m := m) (i := cz b A) with h | ⟨i', hi', hb', e3⟩
    · omega
    · obtain ⟨j', l1, l2, l3, l4⟩ := at_ i' hi' hb'
      rw [l4] at e3
      have := pm_dl_le (A := A) (b := b) (S := Sm b m) (i := j')
      omega
theorem pm11 {A : Nat} (b : Nat → Int) (S : Nat → Bool) (h : A ≤ 11) : pm A b S ≤ 11 := by
  have h1 := pm_cn A b S
  have h2 := sm_bound (n := A) (c := 1) (f := fun j => (S j).toNat) (fun k _ => by cases S k <;> decide)
  have : cn A S ≤ A * 1 := h2
  omega
theorem q_mostGroups {A m : Nat} {B gr : Nat → Int32} {b : Nat → Int} (h : bOk A B b) (hm : m < 2 ^ cz b A) (hg : ∀ m', m' < m → gr m' = nI (pm A b (Sm b m'))) : f_X8_mostGroupsWithoutOne (nI (cz b A)) gr (nI m) = some (nI (mxo A b m (cz b A))) := by
  have hc := cz_le b A
  have hA := h.2.1
  have h2 := pw11 (show cz b A ≤ 11 by omega)
  have mx11 : ∀ i, mxo A b m i ≤ 11 := fun i => by
    rcases mxo_le (A := A) (b := b) (m := m) (i := i) with q | ⟨j, _, _, q⟩
    · omega
    · rw [q]; exact pm11 _ _ hA
  unfold f_X8_mostGroupsWithoutOne
  refine lupF (fun nn acc i => f_X8_mostGroupsWithoutOne_L4 (nI (cz b A)) gr (nI m) nn acc i) 0 (cz b A) (fun k => nI (mxo A b m k)) _ (Nat.zero_le _) (by omega) ?_ ?_
  · intro nn
    show f_X8_mostGroupsWithoutOne_L4 (nI (cz b A)) gr (nI m) (nn + 1) _ (nI (cz b A)) = _
    rw [f_X8_mostGroupsWithoutOne_L4]
    exact if_pos (nI_le (Nat.le_refl _) (by omega))
  · intro nn i _ hi
    show f_X8_mostGroupsWithoutOne_L4 (nI (cz b A)) gr (nI m) (nn + 1) (nI (mxo A b m i)) (nI i) = f_X8_mostGroupsWithoutOne_L4 (nI (cz b A)) gr (nI m) nn (nI (mxo A b m (i + 1))) (nI (i + 1))
    have hmx := mx11 i
    rw [f_X8_mostGroupsWithoutOne_L4, if_neg (nI_ge hi (by omega)), bit1 (by omega) (by omega), shl1 (by omega), nI_1, mxo]
    cases hb : m.testBit i
    · rw [if_neg (by decide)]
      rfl
    · have hx := x_lt (by omega) hb
      have hp := pm11 (A := A) b (Sm b (m ^^^ 2 ^ i)) hA
      rw [if_pos (by rfl), nI_clr hb, gin_t (vp_in_nI (by omega) (by decide)), nI_clamp (by omega), hg _ hx, wkl_t]
      simp only [nI_ltI (show mxo A b m i < 2 ^ 31 by omega) (show pm A b (Sm b (m ^^^ 2 ^ i)) < 2 ^ 31 by omega), if_true]
      by_cases q : mxo A b m i < pm A b (Sm b (m ^^^ 2 ^ i))
      · rw [if_pos q, if_pos q]
      · rw [if_neg q, if_neg q]
/-- the answer -/
noncomputable def stl (A : Nat) (b : Nat → Int) : Nat := cz b A - pm A b (fun _ => true)
theorem Sm_full {A : Nat} {b : Nat → Int} : pm A b (Sm b (2 ^ cz b A - 1)) = pm A b (fun _ => true) := by
  rw [pm_open (S := fun _ => true)]
  refine pm_congr (fun j hj => ?_)
  unfold Sm
  by_cases q : b j = 0
  · simp [q]
  · rw [Nat.testBit_two_pow_sub_one]
    have := cz_lt hj q
    simp [q, this]
theorem Sm_0 {A : Nat} {b : Nat → Int} : pm A b (Sm b 0) = 0 := pm_nz (fun i _ h => by
  unfold Sm at h
  rw [Nat.zero_testBit] at h
  simp at h)
theorem pm_cz {A : Nat} {b : Nat → Int} (m : Nat) : pm A b (Sm b m) ≤ mn (cz b A) m := by
  rw [mn_cn]
  exact pm_cn A b _
theorem q_fewestBySets {A : Nat} {B : Nat → Int32} {b : Nat → Int} (h : bOk A B b) (E0 : Int32) (o0 s0 g0 : Nat → Int32) (hs0 : s0 0 = 0) (hg0 : g0 0 = 0) : ∃ c o s g, f_X8_fewestBySets E0 o0 s0 g0 (nI A) B = some (nI (stl A b), c, o, s, g) ∧ s 0 = 0 ∧ g 0 = 0 := by
  obtain ⟨h1, h11, hB, hsab⟩ := id h
  have hc := cz_le b A
  have h2 := pw11 (show cz b A ≤ 11 by omega)
  have hp := Nat.two_pow_pos (cz b A)
  obtain ⟨o, s, e, ho, hs⟩ := q_takeOpen h E0 o0 s0 hs0
  unfold f_X8_fewestBySets
  rw [wkb3_t e, shl1 (by omega)]
  have key : ∀ d k nn (g : Nat → Int32), k + d = 2 ^ cz b A → d < nn → 1 ≤ k → (∀ m, m < k → g m = nI (pm A b (Sm b m))) → ∃ g', f_X8_fewestBySets_L14 (nI A) B nn (nI (2 ^ cz b A)) (nI k) (nI (cz b A)) o s g = some (nI (stl A b), nI (cz b A), o, s, g') ∧ g' 0 = 0 := by
    intro d
    induction d with
    | zero =>
      intro k nn g hk hnn k0 k1
      obtain rfl : k = 2 ^ cz b A := by omega
      cases nn with
      | zero => omega
      | succ nn =>
        rw [f_X8_fewestBySets_L14, if_pos (nI_le (Nat.le_refl _) (by omega)), show (1 : Int32) = nI 1 from rfl, pk_sub (by omega), gin_t (vp_in_nI (by omega) (by decide)), nI_clamp (by omega), k1 _ (by omega), Sm_full]
        have hle : pm A b (fun _ => true) ≤ cz b A := by
          rw [← Sm_full]
          have := pm_cz (A := A) (b := b) (2 ^ cz b A - 1)
          have := mn_le (cz b A) (2 ^ cz b A - 1)
          omega
        rw [pk_sub hle]
        refine ⟨g, rfl, ?_⟩
        rw [k1 0 (by omega), Sm_0]
        rfl
    | succ d ih =>
      intro k nn g hk hnn k0 k1
      cases nn with
      | zero => omega
      | succ nn =>
        have hpm := mxo_pm (A := A) (b := b) (m := k) (by omega) (by omega)
        have habs := sB_abs A b (Sm b k)
        have hz : s k = 0 ↔ sB A b (Sm b k) = 0 := by
          rw [hs k (by omega)]
          exact iI_z (by omega) (by omega)
        have ik : vp_in (nI k) 2048 := vp_in_nI (by omega) (by decide)
        rw [f_X8_fewestBySets_L14, if_neg (nI_ge (by omega) (by omega)), wkb1_t (q_mostGroups h (by omega) k1)]
        simp only [gin_t ik, nI_clamp (show k < 2 ^ 31 by omega), wkl_t, hz, nI_1]
        have fin : ∀ v, v = nI (pm A b (Sm b k)) → ∃ g', f_X8_fewestBySets_L14 (nI A) B nn (nI (2 ^ cz b A)) (nI (k + 1)) (nI (cz b A)) o s (upd g k v) = some (nI (stl A b), nI (cz b A), o, s, g') ∧ g' 0 = 0 := by
          intro v hv
          refine ih (k + 1) nn _ (by omega) (by omega) (by omega) (fun m hm => ?_)
          by_cases e2 : m = k
          · subst e2
            rw [pk_us, hv]
          · rw [pk_un e2]
            exact k1 m (by omega)
        by_cases q : sB A b (Sm b k) = 0
        · rw [if_pos q] at hpm
          rw [if_pos q]
          exact fin _ (by rw [hpm])
        · rw [if_neg q] at hpm
          rw [if_neg q]
          refine fin _ ?_
          rw [← hpm, show (0 : Int32) = nI 0 from rfl, nI_add]
  obtain ⟨g', e2, k2⟩ := key (2 ^ cz b A - 1) 1 FU g0 (by omega) (by unfold FU; omega) (Nat.le_refl _) (fun m hm => by
    obtain rfl : m = 0 := by omega
    rw [hg0, Sm_0]
    rfl)
  refine ⟨_, _, _, g', e2, ?_, k2⟩
  rw [hs 0 (by omega), sB_no A b (fun j _ => by unfold Sm; rw [Nat.zero_testBit, Bool.and_false])]
  rfl
theorem low_ex : ∀ m, m < 2048 → 0 < m → ∃ i, i < 11 ∧ m.testBit i = true ∧ m &&& (m - 1) = m ^^^ 2 ^ i := by decide +kernel
theorem q_fill0 {k : Nat} (hk : k ≤ 2048) (f : Nat → Int32) : ∃ f', f_J7_fill_53178_2048_L5 (-1) FU (nI 0) (nI k) f = some f' ∧ ∀ m, m < k → f' m = -1 := by
  have key : ∀ d i nn (f : Nat → Int32), i + d = k → d < nn → (∀ m, m < i → f m = -1) → ∃ f', f_J7_fill_53178_2048_L5 (-1) nn (nI i) (nI k) f = some f' ∧ ∀ m, m < k → f' m = -1 := by
    intro d
    induction d with
    | zero =>
      intro i nn f hi hnn h
      obtain rfl : i = k := by omega
      cases nn with
      | zero => omega
      | succ nn =>
        rw [f_J7_fill_53178_2048_L5]
        exact ⟨f, if_pos (nI_le (Nat.le_refl _) (by omega)), h⟩
    | succ d ih =>
      intro i nn f hi hnn h
      cases nn with
      | zero => omega
      | succ nn =>
        rw [f_J7_fill_53178_2048_L5, if_neg (nI_ge (by omega) (by omega)), gin_t (vp_in_nI (by omega) (by decide)), nI_clamp (by omega), wkl_t, nI_1]
        refine ih (i + 1) nn _ (by omega) (by omega) (fun m hm => ?_)
        by_cases e : m = i
        · subst e; exact pk_us
        · rw [pk_un e]
          exact h m (by omega)
  exact key k 0 FU f (by omega) (by unfold FU; omega) (fun m hm => absurd hm (Nat.not_lt_zero _))
theorem q_fill {k : Nat} (hk : k ≤ 2048) (f : Nat → Int32) : ∃ f', f_J7_fill_53178_2048 f (-1) = some f' ∧ ∀ m, m < k → f' m = -1 := by
  obtain ⟨f', e, h⟩ := q_fill0 (k := 2048) (Nat.le_refl _) f
  exact ⟨f', (show f_J7_fill_53178_2048_L5 (-1) FU 0 2048 f = some f' from e), fun m hm => h m (by omega)⟩
/-- the fewest for a set that is left -/
noncomputable def fw (A : Nat) (b : Nat → Int) (m : Nat) : Nat := mn (cz b A) m - pm A b (Sm b m)
def trOk (A : Nat) (b : Nat → Int) (t : Nat → Int32) : Prop := ∀ m, m < 2 ^ cz b A → t m = -1 ∨ t m = nI (fw A b m)
theorem fw_le {A : Nat} {b : Nat → Int} (m : Nat) (h : A ≤ 11) : fw A b m ≤ 11 := by
  have := mn_le (cz b A) m
  have := cz_le b A
  unfold fw
  omega
theorem neg_iI (z : Int) : -iI z = iI (-z) := (Int32.ofInt_neg z).symm
theorem q_fewestFor {A : Nat} {B o s : Nat → Int32} {b : Nat → Int} (h : bOk A B b) (ho : ∀ j, j < A → b j ≠ 0 → o (cz b j) = B j) (hs : ∀ m, m < 2 ^ cz b A → s m = iI (sB A b (Sm b m))) :
    ∀ (rd m dep : Nat) (t : Nat → Int32), m < 2 ^ cz b A → mn (cz b A) m < rd → dep + mn (cz b A) m ≤ 11 → trOk A b t → ∃ t', f_X8_fewestFor (nI (cz b A)) o s rd (nI m) (nI dep) t = some (nI (fw A b m), t') ∧ trOk A b t' := by
  obtain ⟨h1, h11, hB, hsab⟩ := id h
  have hc := cz_le b A
  have h2 := pw11 (show cz b A ≤ 11 by omega)
  intro rd
  induction rd with
  | zero => intro m dep t _ h; omega
  | succ rd ih =>
    intro m dep t hm hrd hdep ht
    rw [f_X8_fewestFor]
    unfold f_X8_fewestForb
    by_cases h0 : m = 0
    · rw [if_pos (by rw [h0]; rfl)]
      refine ⟨t, ?_, ht⟩
      have : fw A b m = 0 := by
        unfold fw
        have : mn (cz b A) m = 0 := by
          rw [h0]
          exact sm_zero (fun k _ => by rw [Nat.zero_testBit]; rfl)
        omega
      rw [this]
      rfl
    · have hmn : mn (cz b A) m ≠ 0 := fun e => h0 (mn_0 hm e)
      have im : vp_in (nI m) 2048 := vp_in_nI (by omega) (by decide)
      have hfw := fw_le (A := A) (b := b) m h11
      rw [if_neg (nI_ne0 (by omega) (by omega)), if_pos (show nI dep ≤ 11 from nI_le (b := 11) (by omega) (by decide)), gin_t im, nI_clamp (by omega)]
      rcases ht m hm with e | e
      · rw [e, if_pos rfl]
        have habs := sB_abs A b (Sm b m)
        have hz : -(s m) = 0 ↔ sB A b (Sm b m) = 0 := by
          rw [hs m hm, neg_iI, iI_z (by omega) (by omega)]
          omega
        have put : ∀ t', trOk A b t' → trOk A b (upd t' m (nI (fw A b m))) := by
          intro t' ht' m' hm'
          by_cases e2 : m' = m
          · subst e2
            rw [pk_us]
            exact Or.inr rfl
          · rw [pk_un e2]
            exact ht' m' hm'
        simp only [gin_t im, hz, wkl_t, pk_us, nI_1]
        by_cases q : sB A b (Sm b m) = 0
        · rw [if_pos q]
          obtain ⟨i, hi, hb, el⟩ := low_ex m (by omega) (by omega)
          have hic : i < cz b A := bit_hi hm hb
          obtain ⟨j, j1, j2, j3⟩ := cz_sur hic
          have hx := mn_x hic hb
          obtain ⟨t', e2, k2⟩ := ih (m ^^^ 2 ^ i) (dep + 1) t (xb_lt hm hic) (by omega) (by omega) ht
          have hmm : nI m - 1 = nI (m - 1) := by
            rw [show (1 : Int32) = nI 1 from rfl, pk_sub (by omega)]
          rw [hmm, nI_and, el, wkb2_t e2]
          have hv : fw A b (m ^^^ 2 ^ i) = fw A b m := by
            have e3 : Sm b (m ^^^ 2 ^ i) = dl (Sm b m) j := by
              rw [← j3]
              exact Sm_dl j2 (by rw [j3]; exact hb)
            have hSj : Sm b m j = true := by
              unfold Sm
              rw [j3, hb]
              simp [j2]
            have := pm_zero j1 hSj j2 q
            unfold fw
            rw [e3]
            omega
          rw [hv]
          exact ⟨_, rfl, put t' k2⟩
        · rw [if_neg q]
          have loop : ∀ d k nn (acc : Nat) (t : Nat → Int32), k + d = cz b A → d < nn → trOk A b t → acc ≤ 11 → fw A b m ≤ acc → (∀ i, i < k → m.testBit i = true → (∀ j, j < A → b j ≠ 0 → cz b j = i → (0 < b j ↔ 0 < sB A b (Sm b m)) → acc ≤ 1 + fw A b (m ^^^ 2 ^ i))) → ∃ t', f_X8_fewestWithEachOther_L7 (f_X8_fewestFor (nI (cz b A)) o s rd) (nI (cz b A)) o (nI m) (-(s m)) (nI dep) nn (nI acc) (nI k) t = some (nI (fw A b m), t') ∧ trOk A b t' := by
            intro d
            induction d with
            | zero =>
              intro k nn acc t hk hnn ht hacc hlo hup
              obtain rfl : k = cz b A := by omega
              cases nn with
              | zero => omega
              | succ nn =>
                rw [f_X8_fewestWithEachOther_L7, if_pos (nI_le (Nat.le_refl _) (by omega))]
                obtain ⟨j, k1, k2, k3, k4, k5⟩ := pm_sign q
                have hb : m.testBit (cz b j) = true := by
                  unfold Sm at k2
                  simp at k2
                  exact k2.2
                have hx := mn_x (cz_lt k1 k3) hb
                have := hup (cz b j) (cz_lt k1 k3) hb j k1 k3 rfl k4
                have hv : fw A b (m ^^^ 2 ^ cz b j) + 1 = fw A b m := by
                  have := pm_cz (A := A) (b := b) (m ^^^ 2 ^ cz b j)
                  unfold fw
                  rw [Sm_dl k3 hb, k5] at *
                  omega
                have : acc = fw A b m := by omega
                rw [this]
                exact ⟨t, rfl, ht⟩
            | succ d ihd =>
              intro k nn acc t hk hnn ht hacc hlo hup
              have hkc : k < cz b A := by omega
              cases nn with
              | zero => omega
              | succ nn =>
                obtain ⟨j, j1, j2, j3⟩ := cz_sur hkc
                have hbj := bOk_abs h j1
                have hok : o k = iI (b j) := by rw [← j3, ho j j1 j2, hB j j1]
                have ik : vp_in (nI k) 11 := vp_in_nI (by omega) (by decide)
                rw [f_X8_fewestWithEachOther_L7, if_neg (nI_ge hkc (by omega)), gin_t ik, nI_clamp (by omega), hok]
                have skip : (m.testBit k = true → ¬ (0 < b j ↔ 0 < sB A b (Sm b m))) → ∃ t', f_X8_fewestWithEachOther_L7 (f_X8_fewestFor (nI (cz b A)) o s rd) (nI (cz b A)) o (nI m) (-(s m)) (nI dep) nn (nI acc) (nI (k + 1)) t = some (nI (fw A b m), t') ∧ trOk A b t' := by
                  intro hno
                  refine ihd (k + 1) nn acc t (by omega) (by omega) ht hacc hlo (fun i hi hb j' q1 q2 q3 q4 => ?_)
                  by_cases e5 : i = k
                  · subst e5
                    obtain rfl : j' = j := cz_inj q2 j2 (by omega)
                    exact absurd q4 (hno hb)
                  · exact hup i (by omega) hb j' q1 q2 q3 q4
                have take : m.testBit k = true → (0 < b j ↔ 0 < sB A b (Sm b m)) → ∃ t', wkb2 (f_X8_fewestFor (nI (cz b A)) o s rd (nI m &&& (((1 : Int32) <<< (nI k &&& 31)) ^^^ (-1))) (nI dep + 1) t) (fun r3 w4 => f_X8_fewestWithEachOther_L7 (f_X8_fewestFor (nI (cz b A)) o s rd) (nI (cz b A)) o (nI m) (-(s m)) (nI dep) nn (if (1 + r3) < nI acc then (1 + r3) else nI acc) (nI k + 1) w4) = some (nI (fw A b m), t') ∧ trOk A b t' := by
                  intro hb hsg
                  have hx := mn_x hkc hb
                  obtain ⟨t', e2, k2⟩ := ih (m ^^^ 2 ^ k) (dep + 1) t (xb_lt hm hkc) (by omega) (by omega) ht
                  have hf := fw_le (A := A) (b := b) (m ^^^ 2 ^ k) h11
                  have e3 : Sm b (m ^^^ 2 ^ k) = dl (Sm b m) j := by
                    rw [← j3]
                    exact Sm_dl j2 (by rw [j3]; exact hb)
                  have hge : fw A b m ≤ 1 + fw A b (m ^^^ 2 ^ k) := by
                    have := pm_dl_le (A := A) (b := b) (S := Sm b m) (i := j)
                    unfold fw
                    rw [e3]
                    omega
                  rw [shl1 (by omega), nI_clr hb, nI_1, nI_1, wkb2_t e2]
                  simp only [show (1 : Int32) = nI 1 from rfl, nI_add, nI_ltI (show 1 + fw A b (m ^^^ 2 ^ k) < 2 ^ 31 by omega) (show acc < 2 ^ 31 by omega)]
                  have hup' : ∀ acc', acc' ≤ acc → acc' ≤ 1 + fw A b (m ^^^ 2 ^ k) → ∀ i, i < k + 1 → m.testBit i = true → (∀ j, j < A → b j ≠ 0 → cz b j = i → (0 < b j ↔ 0 < sB A b (Sm b m)) → acc' ≤ 1 + fw A b (m ^^^ 2 ^ i)) := by
                    intro acc' a1 a2 i hi hb' j' q1 q2 q3 q4
                    by_cases e5 : i = k
                    · rw [e5]; exact a2
                    · have := hup i (by omega) hb' j' q1 q2 q3 q4
                      omega
                  by_cases q5 : 1 + fw A b (m ^^^ 2 ^ k) < acc
                  · rw [if_pos q5]
                    exact ihd (k + 1) nn _ t' (by omega) (by omega) k2 (by omega) hge (hup' _ (by omega) (Nat.le_refl _))
                  · rw [if_neg q5]
                    exact ihd (k + 1) nn acc t' (by omega) (by omega) k2 hacc hlo (hup' _ (Nat.le_refl _) (by omega))
                have sgnb : iI (b j) ≤ 0 ↔ ¬ 0 < b j := by
                  rw [Int32.le_iff_toInt_le, iI_toInt (by omega) (by omega), show (0 : Int32).toInt = 0 from by decide]
                  omega
                have sgns : -(s m) ≤ 0 ↔ 0 < sB A b (Sm b m) := by
                  rw [hs m hm, neg_iI, Int32.le_iff_toInt_le, iI_toInt (by omega) (by omega), show (0 : Int32).toInt = 0 from by decide]
                  omega
                have go : ∀ y0 : Int32, (y0 = 0 ∨ y0 = 1) → (y0 = 0 → ¬ (0 < b j ↔ 0 < sB A b (Sm b m))) → (y0 = 1 → (0 < b j ↔ 0 < sB A b (Sm b m))) → ∃ t', f_X8_fewestWithEachOther_L48 (f_X8_fewestFor (nI (cz b A)) o s rd) (nI (cz b A)) o (nI m) (-(s m)) (nI dep) (f_X8_fewestWithEachOther_L7 (f_X8_fewestFor (nI (cz b A)) o s rd) (nI (cz b A)) o (nI m) (-(s m)) (nI dep) nn) (nI acc) (nI k) y0 t = some (nI (fw A b m), t') ∧ trOk A b t' := by
                  intro y0 hy h00 h11'
                  unfold f_X8_fewestWithEachOther_L48
                  rw [bit1 (by omega) (by omega)]
                  cases hb : m.testBit k
                  · rw [if_neg (by decide), nI_1]
                    exact skip (fun z => by rw [hb] at z; cases z)
                  · rw [if_pos (by rfl)]
                    rcases hy with rfl | rfl
                    · rw [if_pos rfl, nI_1]
                      exact skip (fun _ => h00 rfl)
                    · rw [if_neg (by decide)]
                      exact take hb (h11' rfl)
                unfold f_X8_fewestWithEachOther_L31 f_X8_fewestWithEachOther_L40
                by_cases q1 : iI (b j) ≤ 0
                · have p1 := sgnb.mp q1
                  rw [if_pos q1]
                  by_cases q2 : -(s m) ≤ 0
                  · have p2 := sgns.mp q2
                    rw [if_pos q2, if_pos rfl]
                    exact go 0 (Or.inl rfl) (fun _ z => p1 (z.mpr p2)) (fun z => absurd z (by decide))
                  · have p2 : ¬ 0 < sB A b (Sm b m) := fun z => q2 (sgns.mpr z)
                    rw [if_neg q2, if_neg (by decide)]
                    exact go 1 (Or.inr rfl) (fun z => absurd z (by decide)) (fun _ => ⟨fun z => absurd z p1, fun z => absurd z p2⟩)
                · have p1 : 0 < b j := by
                    by_cases z : 0 < b j
                    · exact z
                    · exact absurd (sgnb.mpr z) q1
                  rw [if_neg q1]
                  by_cases q2 : -(s m) ≤ 0
                  · have p2 := sgns.mp q2
                    rw [if_pos q2, if_neg (by decide)]
                    exact go 1 (Or.inr rfl) (fun z => absurd z (by decide)) (fun _ => ⟨fun _ => p2, fun _ => p1⟩)
                  · have p2 : ¬ 0 < sB A b (Sm b m) := fun z => q2 (sgns.mpr z)
                    rw [if_neg q2, if_pos rfl]
                    exact go 0 (Or.inl rfl) (fun _ z => p2 (z.mp p1)) (fun z => absurd z (by decide))
          obtain ⟨t', e2, k2⟩ := loop (cz b A) 0 FU 11 t (by omega) (by unfold FU; omega) ht (Nat.le_refl _) hfw (fun i hi => absurd hi (Nat.not_lt_zero _))
          have e2 : f_X8_fewestWithEachOther (f_X8_fewestFor (nI (cz b A)) o s rd) (nI (cz b A)) o t (nI m) (-(s m)) (nI dep) = some (nI (fw A b m), t') := e2
          rw [wkb2_t e2]
          exact ⟨_, rfl, put t' k2⟩
      · rw [e, if_neg (oI_m1 (by omega)), gin_t im]
        exact ⟨t, rfl, ht⟩
theorem q_fewestBySearch {A : Nat} {B : Nat → Int32} {b : Nat → Int} (h : bOk A B b) (E0 : Int32) (o0 s0 t0 : Nat → Int32) (hs0 : s0 0 = 0) : ∃ c o s t, f_X8_fewestBySearch E0 o0 s0 t0 (nI A) B = some (nI (stl A b), c, o, s, t) ∧ s 0 = 0 := by
  obtain ⟨h1, h11, hB, hsab⟩ := id h
  have hc := cz_le b A
  have h2 := pw11 (show cz b A ≤ 11 by omega)
  have hp := Nat.two_pow_pos (cz b A)
  obtain ⟨o, s, e, ho, hs⟩ := q_takeOpen h E0 o0 s0 hs0
  obtain ⟨t, e1, ht⟩ := q_fill h2 t0
  have hM := mn_le (cz b A) (2 ^ cz b A - 1)
  obtain ⟨t', e2, _⟩ := q_fewestFor h ho hs 14 (2 ^ cz b A - 1) 0 t (by omega) (by omega) (by omega) (fun m hm => Or.inl (ht m hm))
  unfold f_X8_fewestBySearch
  have e3 : nI (2 ^ cz b A) - 1 = nI (2 ^ cz b A - 1) := by
    rw [show (1 : Int32) = nI 1 from rfl, pk_sub (by omega)]
  have e2 : f_X8_fewestFor (nI (cz b A)) o s 14 (nI (2 ^ cz b A - 1)) 0 t = some (nI (fw A b (2 ^ cz b A - 1)), t') := e2
  rw [wkb3_t e, shl1 (by omega), wkb1_t e1, e3, wkb2_t e2]
  have hmn : mn (cz b A) (2 ^ cz b A - 1) = cz b A := by
    have : mn (cz b A) (2 ^ cz b A - 1) = sm (cz b A) (fun _ => 1) := sm_congr (fun k hk => by rw [Nat.testBit_two_pow_sub_one]; simp [hk])
    rw [this]
    generalize cz b A = n
    induction n with
    | zero => rfl
    | succ n ih => show sm n _ + 1 = n + 1; rw [ih]
  have hv : fw A b (2 ^ cz b A - 1) = stl A b := by
    unfold fw stl
    rw [hmn, Sm_full]
  rw [hv]
  refine ⟨_, _, _, _, rfl, ?_⟩
  rw [hs 0 (by omega), sB_no A b (fun j _ => by unfold Sm; rw [Nat.zero_testBit, Bool.and_false])]
  rfl
/-- the reference's way -/
def Tm (m : Nat) : Nat → Bool := fun j => m.testBit j
theorem Tm_x {m a : Nat} (h : m.testBit a = true) : Tm (m ^^^ 2 ^ a) = dl (Tm m) a := by
  funext j
  unfold Tm dl
  by_cases e : j = a
  · subst e
    rw [xb_eq, h]
    simp
  · rw [xb_ne e]
    simp [e]
noncomputable def mxt (A : Nat) (b : Nat → Int) (m : Nat) : Nat → Nat
  | 0 => 0
  | a + 1 => if m.testBit a then (if pm A b (dl (Tm m) a) + (if sB A b (Tm m) = 0 ∧ b a ≠ 0 then 1 else 0) ≤ mxt A b m a then mxt A b m a else pm A b (dl (Tm m) a) + (if sB A b (Tm m) = 0 ∧ b a ≠ 0 then 1 else 0)) else mxt A b m a
theorem mxt_le {A : Nat} {b : Nat → Int} {m : Nat} : ∀ {a : Nat}, a ≤ A → mxt A b m a ≤ pm A b (Tm m) := by
  intro a
  induction a with
  | zero => intro _; exact Nat.zero_le _
  | succ a ih =>
    intro ha
    have h1 := ih (by omega)
    rw [mxt]
    by_cases hb : m.testBit a = true
    · rw [if_pos hb]
      have h2 := pm_dl_le (A := A) (b := b) (S := Tm m) (i := a)
      have h3 : pm A b (dl (Tm m) a) + (if sB A b (Tm m) = 0 ∧ b a ≠ 0 then 1 else 0) ≤ pm A b (Tm m) := by
        by_cases q : sB A b (Tm m) = 0 ∧ b a ≠ 0
        · rw [if_pos q]
          have := pm_zero (S := Tm m) (show a < A by omega) hb q.2 q.1
          omega
        · rw [if_neg q]
          omega
      by_cases z : pm A b (dl (Tm m) a) + (if sB A b (Tm m) = 0 ∧ b a ≠ 0 then 1 else 0) ≤ mxt A b m a
      · rw [if_pos z]
        exact h1
      · rw [if_neg z]
        exact h3
    · rw [if_neg hb]
      exact h1
theorem mxt_ge {A : Nat} {b : Nat → Int} {m : Nat} : ∀ {a j : Nat}, j < a → m.testBit j = true → pm A b (dl (Tm m) j) + (if sB A b (Tm m) = 0 ∧ b j ≠ 0 then 1 else 0) ≤ mxt A b m a := by
  intro a
  induction a with
  | zero => intro j h; omega
  | succ a ih =>
    intro j hj hb
    rw [mxt]
    by_cases e : j = a
    · subst e
      rw [if_pos hb]
      by_cases q : pm A b (dl (Tm m) j) + (if sB A b (Tm m) = 0 ∧ b j ≠ 0 then 1 else 0) ≤ mxt A b m j
      · rw [if_pos q]; exact q
      · rw [if_neg q]
        exact Nat.le_refl _
    · have h1 := ih (show j < a by omega) hb
      by_cases hb2 : m.testBit a = true
      · rw [if_pos hb2]
        by_cases q : pm A b (dl (Tm m) a) + (if sB A b (Tm m) = 0 ∧ b a ≠ 0 then 1 else 0) ≤ mxt A b m a
        · rw [if_pos q]; exact h1
        · rw [if_neg q]; omega
      · rw [if_neg hb2]; exact h1
theorem mxt_pm {A : Nat} {b : Nat → Int} {m : Nat} : mxt A b m A = pm A b (Tm m) := by
  have h1 := mxt_le (A := A) (b := b) (m := m) (Nat.le_refl A)
  by_cases hz : ∃ j, j < A ∧ m.testBit j = true ∧ b j ≠ 0
  · by_cases q : sB A b (Tm m) = 0
    · obtain ⟨j, h2, h3, h4⟩ := hz
      have h5 := mxt_ge (A := A) (b := b) h2 h3
      rw [if_pos ⟨q, h4⟩] at h5
      have := pm_zero (S := Tm m) h2 h3 h4 q
      omega
    · obtain ⟨j, h2, h3, h4, _, h6⟩ := pm_sign q
      have h5 := mxt_ge (A := A) (b := b) (m := m) h2 h3
      rw [if_neg (fun z => q z.1)] at h5
      omega
  · have : pm A b (Tm m) = 0 := pm_nz (fun i hi h => by
      by_cases q : b i = 0
      · exact q
      · exact absurd ⟨i, hi, h, q⟩ hz)
    omega
theorem q_settles {n : Nat} {g su gr : Nat → Int32} {b : Nat → Int} (hn : n ≤ 6) (hg0 : g 0 = nI n) (h : bOk (5 + n) (fun k => g (36 + k)) b) : ∃ su' gr', f_X11_settles g su gr = some (nI (stl (5 + n) b), su', gr') := by
  generalize hA : 5 + n = A at h
  obtain ⟨h1, h11, hB, hsab⟩ := id h
  have h2 := pw11 h11
  have hp := Nat.two_pow_pos A
  unfold f_X11_settles
  rw [hg0, show (5 : Int32) = nI 5 from rfl, nI_add, hA]
  have hcz := cz_le b A
  have e36 : ∀ k, (36 : Int32) + nI k = nI (36 + k) := fun k => by rw [show (36 : Int32) = nI 36 from rfl, nI_add]
  have e0 : pm A b (Tm 0) = 0 := pm_nz (fun i _ h => by unfold Tm at h; rw [Nat.zero_testBit] at h; cases h)
  have s0 : sB A b (Tm 0) = 0 := sB_no A b (fun j _ => by unfold Tm; rw [Nat.zero_testBit])
  have inner : ∀ (K : Int32 → Int32 → Int32 → (Nat → Int32) → (Nat → Int32) → Option (Int32 × (Nat → Int32) × (Nat → Int32))) (x2 : Int32) (m : Nat), 0 < m → m < 2 ^ A → ∀ d a nn (su gr : Nat → Int32), a + d = A → d < nn → (∀ m', m' < m → su m' = iI (sB A b (Tm m')) ∧ gr m' = nI (pm A b (Tm m'))) → ((∃ j, j < a ∧ m.testBit j = true) → su m = iI (sB A b (Tm m))) → ∃ su', f_X11_settles_L73 g K nn (nI A) x2 (nI m) (nI (mxt A b m a)) (nI a) su gr = K (nI A) x2 (nI (m + 1)) su' (upd gr m (nI (pm A b (Tm m)))) ∧ ∀ m', m' ≤ m → su' m' = iI (sB A b (Tm m')) := by
    intro K x2 m hm0 hm d
    have im : vp_in (nI m) 2048 := vp_in_nI (by omega) (by decide)
    induction d with
    | zero =>
      intro a nn su gr ha hnn k1 k2
      obtain rfl : a = A := by omega
      cases nn with
      | zero => omega
      | succ nn =>
        rw [f_X11_settles_L73, if_pos (nI_le (Nat.le_refl _) (by omega)), gin_t im, wkl_t, nI_clamp (by omega), nI_1, mxt_pm]
        refine ⟨su, rfl, fun m' hm' => ?_⟩
        by_cases e : m' = m
        · rw [e]
          refine k2 ?_
          by_cases q : ∃ j, j < a ∧ m.testBit j = true
          · exact q
          · exfalso
            have := mask0 hm (fun k hk => by
              cases z : m.testBit k
              · rfl
              · exact absurd ⟨k, hk, z⟩ q)
            omega
        · exact (k1 m' (by omega)).1
    | succ d ih =>
      intro a nn su gr ha hnn k1 k2
      have haA : a < A := by omega
      cases nn with
      | zero => omega
      | succ nn =>
        rw [f_X11_settles_L73, if_neg (nI_ge haA (by omega)), bit1 (by omega) (by omega), shl1 (by omega), nI_1]
        have step := ih (a + 1) nn
        rw [mxt] at step
        cases hb : m.testBit a
        · rw [hb] at step
          exact step su gr (by omega) (by omega) k1 (fun ⟨j, j1, j2⟩ => k2 ⟨j, by
            by_cases e : j = a
            · rw [e, hb] at j2; cases j2
            · omega, j2⟩)
        · rw [hb] at step
          have hx := x_lt (by omega) hb
          have ix : vp_in (nI (m ^^^ 2 ^ a)) 2048 := vp_in_nI (by omega) (by decide)
          have ig : vp_in (nI (36 + a)) 238 := vp_in_nI (by omega) (by decide)
          have hba := bOk_abs h haA
          have hgz : g (36 + a) = 0 ↔ b a = 0 := bOk_0 h haA
          have hga : g (36 + a) = iI (b a) := hB a haA
          have habs := sB_abs A b (Tm m)
          have hsum : su (m ^^^ 2 ^ a) + g (36 + a) = iI (sB A b (Tm m)) := by
            rw [(k1 _ hx).1, hga, iI_add, Tm_x hb, sB_dl (S := Tm m) haA hb]
            congr 1
            omega
          have hp11 := pm11 (A := A) b (dl (Tm m) a) h11
          have hm11 : mxt A b m a ≤ 11 := Nat.le_trans (mxt_le (by omega)) (pm11 _ _ h11)
          rw [ifb_t]
          simp only [nI_xor, e36, gin_t ix, gin_t ig, gin_t im, wkl_t, nI_clamp (show m ^^^ 2 ^ a < 2 ^ 31 by omega), nI_clamp (show 36 + a < 2 ^ 31 by omega), nI_clamp (show m < 2 ^ 31 by omega), hsum, pk_us, iI_z (show -(2 ^ 31) ≤ sB A b (Tm m) by omega) (show sB A b (Tm m) < 2 ^ 31 by omega), hgz, (k1 _ hx).2, Tm_x hb]
          have fin : ∀ v, v = pm A b (dl (Tm m) a) + (if sB A b (Tm m) = 0 ∧ b a ≠ 0 then 1 else 0) → ∃ su', (if nI v ≤ nI (mxt A b m a) then f_X11_settles_L73 g K nn (nI A) x2 (nI m) (nI (mxt A b m a)) (nI (a + 1)) (upd su m (iI (sB A b (Tm m)))) gr else f_X11_settles_L73 g K nn (nI A) x2 (nI m) (nI v) (nI (a + 1)) (upd su m (iI (sB A b (Tm m)))) gr) = K (nI A) x2 (nI (m + 1)) su' (upd gr m (nI (pm A b (Tm m)))) ∧ ∀ m', m' ≤ m → su' m' = iI (sB A b (Tm m')) := by
            intro v hv
            rw [← hv] at step
            have hv12 : v ≤ 12 := by
              rw [hv]
              split <;> omega
            have st2 := step (upd su m (iI (sB A b (Tm m)))) gr (by omega) (by omega) (fun m' hm' => by rw [pk_un (by omega)]; exact k1 m' hm') (fun _ => pk_us)
            simp only [if_true] at st2
            by_cases q : v ≤ mxt A b m a
            · rw [if_pos (nI_le q (by omega))]
              rw [if_pos q] at st2
              exact st2
            · rw [if_neg (nI_ge (by omega) (by omega))]
              rw [if_neg q] at st2
              exact st2
          by_cases q1 : sB A b (Tm m) = 0
          · rw [if_pos q1]
            by_cases q2 : b a = 0
            · rw [if_pos q2, show (0 : Int32) = nI 0 from rfl, nI_add]
              exact fin _ (by rw [if_neg (fun z => z.2 q2)])
            · rw [if_neg q2, show (1 : Int32) = nI 1 from rfl, nI_add]
              exact fin _ (by rw [if_pos ⟨q1, q2⟩])
          · rw [if_neg q1, show (0 : Int32) = nI 0 from rfl, nI_add]
            exact fin _ (by rw [if_neg (fun z => q1 z.1)])
  have outer : ∀ d m nn (su gr : Nat → Int32), m + d = 2 ^ A → d < nn → 0 < m → (∀ m', m' < m → su m' = iI (sB A b (Tm m')) ∧ gr m' = nI (pm A b (Tm m'))) → ∃ su' gr', f_X11_settles_L60 g nn (nI A) (nI (cz b A)) (nI m) su gr = some (nI (stl A b), su', gr') := by
    intro d
    induction d with
    | zero =>
      intro m nn su gr hm hnn hm0 k1
      obtain rfl : m = 2 ^ A := by omega
      cases nn with
      | zero => omega
      | succ nn =>
        have e3 : nI (2 ^ A) - 1 = nI (2 ^ A - 1) := by
          rw [show (1 : Int32) = nI 1 from rfl, pk_sub (by omega)]
        rw [f_X11_settles_L60, shl1 (by omega), if_pos (nI_le (Nat.le_refl _) (by omega)), e3, gin_t (vp_in_nI (by omega) (by decide)), nI_clamp (by omega), (k1 _ (by omega)).2]
        have hT : pm A b (Tm (2 ^ A - 1)) = pm A b (fun _ => true) := pm_congr (fun j hj => by unfold Tm; rw [Nat.testBit_two_pow_sub_one]; simp [hj])
        have hle : pm A b (fun _ => true) ≤ cz b A := by
          rw [← Sm_full]
          have := pm_cz (A := A) (b := b) (2 ^ cz b A - 1)
          have := mn_le (cz b A) (2 ^ cz b A - 1)
          omega
        rw [hT, pk_sub hle]
        exact ⟨su, gr, rfl⟩
    | succ d ih =>
      intro m nn su gr hm hnn hm0 k1
      cases nn with
      | zero => omega
      | succ nn =>
        rw [f_X11_settles_L60, shl1 (by omega), if_neg (nI_ge (by omega) (by omega))]
        obtain ⟨su', e, k2⟩ := inner (f_X11_settles_L60 g nn) (nI (cz b A)) m hm0 (by omega) A 0 FU su gr (by omega) (by unfold FU; omega) k1 (fun ⟨j, j1, _⟩ => absurd j1 (Nat.not_lt_zero _))
        have e : f_X11_settles_L73 g (f_X11_settles_L60 g nn) FU (nI A) (nI (cz b A)) (nI m) 0 0 su gr = _ := e
        rw [e]
        refine ih (m + 1) nn su' _ (by omega) (by omega) (by omega) (fun m' hm' => ⟨k2 m' (by omega), ?_⟩)
        by_cases e2 : m' = m
        · rw [e2, pk_us]
        · rw [pk_un e2]
          exact (k1 m' (by omega)).2
  obtain ⟨su', gr', e⟩ := outer (2 ^ A - 1) 1 FU (upd su 0 0) (upd gr 0 0) (by omega) (by unfold FU; omega) (by omega) (fun m' hm' => by
    obtain rfl : m' = 0 := by omega
    rw [pk_us, pk_us, s0, e0]
    exact ⟨rfl, rfl⟩)
  refine ⟨su', gr', ?_⟩
  refine lupF (fun nn acc i => f_X11_settles_L13 g nn (nI A) acc i su gr) 0 A (fun k => nI (cz b k)) _ (Nat.zero_le _) (by omega) ?_ ?_
  · intro nn
    show f_X11_settles_L13 g (nn + 1) (nI A) (nI (cz b A)) (nI A) su gr = _
    rw [f_X11_settles_L13, if_pos (nI_le (Nat.le_refl _) (by omega)), wkl_t, wkl_t]
    exact e
  · intro nn k _ hk
    show f_X11_settles_L13 g (nn + 1) (nI A) (nI (cz b k)) (nI k) su gr = f_X11_settles_L13 g nn (nI A) (nI (cz b (k + 1))) (nI (k + 1)) su gr
    have hgz : g (36 + k) = 0 ↔ b k = 0 := bOk_0 h hk
    rw [f_X11_settles_L13, if_neg (nI_ge hk (by omega)), e36, gin_t (vp_in_nI (by omega) (by decide)), nI_clamp (by omega), nI_1]
    simp only [hgz]
    by_cases q : b k = 0
    · rw [if_pos q, cz_s0 q, show (0 : Int32) = nI 0 from rfl, nI_add]
      rfl
    · rw [if_neg q, cz_s1 q, nI_1]
