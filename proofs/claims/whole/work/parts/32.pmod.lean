/-! PURE LAYER: columns, as the reference lays them -/
theorem lw_irr (w s : Nat → Nat) (a : Nat) : lw w s a a = false := by
  rw [Bool.eq_false_iff]
  intro h
  rw [lw_iff] at h
  omega
theorem lw_asym {w s : Nat → Nat} {a b : Nat} (h : lw w s a b = true) : lw w s b a = false := by
  rw [Bool.eq_false_iff]
  intro q
  rw [lw_iff] at *
  omega
theorem lw_tot {w s : Nat → Nat} {a b : Nat} (h : a ≠ b) (q : lw w s a b = false) : lw w s b a = true := by
  rw [Bool.eq_false_iff, ne_eq, lw_iff] at q
  rw [lw_iff]
  omega
theorem lw_tr {w s : Nat → Nat} {a b c : Nat} (h : lw w s a b = true) (q : lw w s b c = true) : lw w s a c = true := by
  rw [lw_iff] at *
  omega
theorem rk_lt {n : Nat} {w s : Nat → Nat} {m a b : Nat} (ha : a < n) (hm : m.testBit a = true) (h : lw w s a b = true) : rk n w s m a < rk n w s m b := by
  refine sm_lt (fun k _ => ?_) ha ?_
  · cases h1 : m.testBit k
    · exact Nat.le_refl _
    · cases h2 : lw w s k a
      · exact Nat.zero_le _
      · rw [lw_tr h2 h]
        exact Nat.le_refl _
  · rw [hm, h, lw_irr]
    decide
theorem rk_ge {n : Nat} {w s : Nat → Nat} {m a b : Nat} (h : lw w s a b = false) : rk n w s m b ≤ rk n w s m a := by
  by_cases e : a = b
  · subst e; exact Nat.le_refl _
  · have h' := lw_tot e h
    refine sm_le (fun k _ => ?_)
    cases h1 : m.testBit k
    · exact Nat.le_refl _
    · cases h2 : lw w s k b
      · exact Nat.zero_le _
      · rw [lw_tr h2 h']
        exact Nat.le_refl _
theorem rk_iff {n : Nat} {w s : Nat → Nat} {m a b : Nat} (ha : a < n) (hm : m.testBit a = true) : lw w s a b = true ↔ rk n w s m a < rk n w s m b := by
  constructor
  · exact rk_lt ha hm
  · intro h
    cases q : lw w s a b
    · have := rk_ge (n := n) (m := m) q
      omega
    · rfl
theorem rk_inj {n : Nat} {w s : Nat → Nat} {m a b : Nat} (ha : a < n) (hb : b < n) (hma : m.testBit a = true) (hmb : m.testBit b = true) (h : rk n w s m a = rk n w s m b) : a = b := by
  by_cases e : a = b
  · exact e
  · exfalso
    cases q : lw w s a b
    · have := rk_lt hb hmb (lw_tot e q)
      omega
    · have := rk_lt ha hma q
      omega
theorem rk_mn {n : Nat} {w s : Nat → Nat} {m a : Nat} (ha : a < n) (hm : m.testBit a = true) : rk n w s m a < mn n m := by
  refine sm_lt (fun k _ => ?_) ha ?_
  · cases h1 : m.testBit k
    · exact Nat.le_refl _
    · cases h2 : lw w s k a <;> decide
  · rw [hm, lw_irr]
    decide
theorem mn_le (n m : Nat) : mn n m ≤ n := by
  have := sm_bound (n := n) (c := 1) (f := fun o => (m.testBit o).toNat) (fun k _ => by cases m.testBit k <;> decide)
  simpa [mn] using this
/-- the reference's acrobats -/
def gW (g : Nat → Int32) (k : Nat) : Nat := if k < 6 then (g (6 + 5 * k)).toNatClampNeg else 0
theorem gW_cg {g g' : Nat → Int32} (h : ∀ k, k < 6 → g' (6 + 5 * k) = g (6 + 5 * k)) : gW g' = gW g := by
  funext k
  unfold gW
  by_cases q : k < 6
  · rw [if_pos q, if_pos q, h k q]
  · rw [if_neg q, if_neg q]
def gS (g : Nat → Int32) (k : Nat) : Nat := if k < 6 then (g (6 + 5 * k + 1)).toNatClampNeg else 0
theorem gS_cg {g g' : Nat → Int32} (h : ∀ k, k < 6 → g' (6 + 5 * k + 1) = g (6 + 5 * k + 1)) : gS g' = gS g := by
  funext k
  unfold gS
  by_cases q : k < 6
  · rw [if_pos q, if_pos q, h k q]
  · rw [if_neg q, if_neg q]
def gH (g : Nat → Int32) (k : Nat) : Nat := if k < 6 then (g (6 + 5 * k + 2)).toNatClampNeg else 0
theorem gH_cg {g g' : Nat → Int32} (h : ∀ k, k < 6 → g' (6 + 5 * k + 2) = g (6 + 5 * k + 2)) : gH g' = gH g := by
  funext k
  unfold gH
  by_cases q : k < 6
  · rw [if_pos q, if_pos q, h k q]
  · rw [if_neg q, if_neg q]
def gC (g : Nat → Int32) (k : Nat) : Nat := if k < 6 then (g (6 + 5 * k + 3)).toNatClampNeg else 0
theorem gC_cg {g g' : Nat → Int32} (h : ∀ k, k < 6 → g' (6 + 5 * k + 3) = g (6 + 5 * k + 3)) : gC g' = gC g := by
  funext k
  unfold gC
  by_cases q : k < 6
  · rw [if_pos q, if_pos q, h k q]
  · rw [if_neg q, if_neg q]
def gF (g : Nat → Int32) (k : Nat) : Nat := if k < 6 then (g (6 + 5 * k + 4)).toNatClampNeg else 0
theorem gF_cg {g g' : Nat → Int32} (h : ∀ k, k < 6 → g' (6 + 5 * k + 4) = g (6 + 5 * k + 4)) : gF g' = gF g := by
  funext k
  unfold gF
  by_cases q : k < 6
  · rw [if_pos q, if_pos q, h k q]
  · rw [if_neg q, if_neg q]
/-- what holds of the acrobats -/
def gA (n : Nat) (g : Nat → Int32) : Prop := n ≤ 6 ∧ g 0 = nI n ∧ ∀ k, k < n → (g (6 + 5 * k) = nI (gW g k) ∧ 30 ≤ gW g k ∧ gW g k ≤ 120) ∧ (g (6 + 5 * k + 1) = nI (gS g k) ∧ gS g k ≤ 400) ∧ (g (6 + 5 * k + 2) = nI (gH g k) ∧ 100 ≤ gH g k ∧ gH g k ≤ 200) ∧ (g (6 + 5 * k + 3) = nI (gC g k) ∧ 1 ≤ gC g k ∧ gC g k ≤ 50) ∧ (g (6 + 5 * k + 4) = nI (gF g k) ∧ gF g k ≤ 3)
theorem gA_tr {n : Nat} {g : Nat → Int32} (G : gA n g) : tr n (fun k => g (6 + 5 * k)) (fun k => g (6 + 5 * k + 1)) (gW g) (gS g) :=
  ⟨G.1, fun k hk => ⟨(G.2.2 k hk).1.1, (G.2.2 k hk).2.1.1, (G.2.2 k hk).1.2.2, (G.2.2 k hk).2.1.2⟩⟩
theorem q_ofI {a : Nat} {g : Nat → Int32} (w : Nat) {x : Int32} (ha : a < 6) (hw : w < 5) (hx : x = nI w) : f_X11_of g (nI a) x = some (g (6 + 5 * a + w)) := by
  subst hx
  unfold f_X11_of
  have e : ((6 : Int32) + (5 * nI a)) + nI w = nI (6 + 5 * a + w) := by
    rw [show (5 : Int32) = nI 5 from rfl, show (6 : Int32) = nI 6 from rfl, pk_mul, nI_add, nI_add]
  rw [e, gin_t (vp_in_nI (by omega) (by decide)), nI_clamp (by omega)]
theorem q_of0 {a : Nat} {g : Nat → Int32} (ha : a < 6) : f_X11_of g (nI a) 0 = some (g (6 + 5 * a)) := q_ofI 0 ha (by decide) rfl
theorem q_of1 {a : Nat} {g : Nat → Int32} (ha : a < 6) : f_X11_of g (nI a) 1 = some (g (6 + 5 * a + 1)) := q_ofI 1 ha (by decide) rfl
theorem q_of2 {a : Nat} {g : Nat → Int32} (ha : a < 6) : f_X11_of g (nI a) 2 = some (g (6 + 5 * a + 2)) := q_ofI 2 ha (by decide) rfl
theorem q_of3 {a : Nat} {g : Nat → Int32} (ha : a < 6) : f_X11_of g (nI a) 3 = some (g (6 + 5 * a + 3)) := q_ofI 3 ha (by decide) rfl
theorem q_of4 {a : Nat} {g : Nat → Int32} (ha : a < 6) : f_X11_of g (nI a) 4 = some (g (6 + 5 * a + 4)) := q_ofI 4 ha (by decide) rfl
theorem q_isLower {n a b : Nat} {g : Nat → Int32} (G : gA n g) (ha : a < n) (hb : b < n) : f_X11_isLower g (nI a) (nI b) = some (bI (lw (gW g) (gS g) a b)) := by
  obtain ⟨hn, h0, G⟩ := G
  obtain ⟨⟨a1, -, a2⟩, ⟨a3, a4⟩, -⟩ := G a ha
  obtain ⟨⟨b1, -, b2⟩, ⟨b3, b4⟩, -⟩ := G b hb
  unfold f_X11_isLower
  simp only [wkb1_t (q_of0 (g := g) (show a < 6 by omega)), wkb1_t (q_of1 (g := g) (show a < 6 by omega)), wkb1_t (q_of0 (g := g) (show b < 6 by omega)), wkb1_t (q_of1 (g := g) (show b < 6 by omega)), Nat.add_zero, a1, a3, b1, b3, nI_add, Int32.sub_sub]
  have e := pk_sub_toInt (a := gW g a + gS g a) (b := gW g b + gS g b) (by omega) (by omega)
  have z : (0 : Int32).toInt = 0 := by decide
  simp only [Int32.lt_iff_toInt_lt, ← Int32.toInt_inj, e, z, nI_leI (show b < 2 ^ 31 by omega) (show a < 2 ^ 31 by omega)]
  by_cases h1 : (0 : Int) < ((gW g a + gS g a : Nat) : Int) - ((gW g b + gS g b : Nat) : Int)
  · rw [if_pos h1]
    exact bIT (lw_iff.mpr (by omega))
  · rw [if_neg h1]
    by_cases h2 : ((gW g a + gS g a : Nat) : Int) - ((gW g b + gS g b : Nat) : Int) = 0
    · rw [if_pos h2]
      by_cases h3 : b ≤ a
      · rw [if_pos h3]
        exact bIF (fun q => by rw [lw_iff] at q; omega)
      · rw [if_neg h3]
        exact bIT (lw_iff.mpr (by omega))
    · rw [if_neg h2]
      exact bIF (fun q => by rw [lw_iff] at q; omega)
/-- the column of the first k -/
def lay (w s : Nat → Nat) (m k : Nat) (col : Nat → Int32) : Prop := ∀ p, p < mn k m → ∃ a, a < k ∧ m.testBit a = true ∧ rk k w s m a = p ∧ col p = nI a
def colj (col : Nat → Int32) (M j : Nat) : Nat → Int32 := fun p => if j < p ∧ p ≤ M then col (p - 1) else col p
theorem colj_top (col : Nat → Int32) (M : Nat) : colj col M M = col := by
  funext p
  exact if_neg (by omega)
theorem colj_s (col : Nat → Int32) {M j : Nat} (hj : j < M) : upd (colj col M (j + 1)) (j + 1) (colj col M (j + 1) j) = colj col M j := by
  funext p
  by_cases e : p = j + 1
  · subst e
    rw [pk_us]
    show (if j + 1 < j ∧ j ≤ M then col (j - 1) else col j) = (if j < j + 1 ∧ j + 1 ≤ M then col (j + 1 - 1) else col (j + 1))
    rw [if_neg (by omega), if_pos (by omega)]
    rfl
  · rw [pk_un e]
    show (if j + 1 < p ∧ p ≤ M then col (p - 1) else col p) = (if j < p ∧ p ≤ M then col (p - 1) else col p)
    by_cases q : j + 1 < p ∧ p ≤ M
    · rw [if_pos q, if_pos (by omega)]
    · rw [if_neg q]
      by_cases q2 : j < p ∧ p ≤ M
      · omega
      · rw [if_neg q2]
theorem q_lays33 {n k m : Nat} {g col loads : Nat → Int32} (x : Int32) (K7 : Int32 → (Nat → Int32) → (Nat → Int32) → Int32 → Option ((Nat → Int32) × (Nat → Int32) × Int32)) (G : gA n g) (hk : k < n) (hL : lay (gW g) (gS g) m k col) (r : Nat) (hr : r = rk k (gW g) (gS g) m k) :
    ∀ d j nn, j = r + d → j ≤ mn k m → d < nn → f_X11_lays_L33 g x K7 nn (nI k) (nI j) (colj col (mn k m) j) loads (nI (mn k m)) = K7 (nI (k + 1)) (upd (colj col (mn k m) r) r (nI k)) loads (nI (mn k m + 1)) := by
  have hn := G.1
  have hM := mn_le k m
  intro d
  induction d with
  | zero =>
    intro j nn hj hjM hd
    obtain rfl : j = r := by omega
    cases nn with
    | zero => omega
    | succ nn =>
      rw [f_X11_lays_L33]
      have ij : vp_in (nI j) 6 := vp_in_nI (by omega) (by decide)
      simp only [gin_t ij, wkl_t, nI_clamp (show j < 2 ^ 31 by omega), nI_1]
      by_cases h0 : j = 0
      · rw [if_pos (by rw [h0]; decide)]
      · obtain ⟨i, rfl⟩ : ∃ i, j = i + 1 := ⟨j - 1, by omega⟩
        rw [if_neg (nI_nle (by omega) (by omega)), nI_pred, gin_t (vp_in_nI (by omega) (by decide)), nI_clamp (by omega)]
        obtain ⟨a, ha, hma, hra, hca⟩ := hL i (by omega)
        have hc : colj col (mn k m) (i + 1) i = nI a := by
          rw [← hca]
          exact if_neg (by omega)
        have hl : lw (gW g) (gS g) a k = true := (rk_iff ha hma).mpr (by omega)
        rw [hc, wkb1_t (q_isLower G hk (show a < n by omega)), lw_asym hl, ifb_f]
  | succ d ih =>
    intro j nn hj hjM hd
    obtain ⟨i, rfl⟩ : ∃ i, j = i + 1 := ⟨j - 1, by omega⟩
    cases nn with
    | zero => omega
    | succ nn =>
      rw [f_X11_lays_L33]
      have ij : vp_in (nI i) 6 := vp_in_nI (by omega) (by decide)
      have ij1 : vp_in (nI (i + 1)) 6 := vp_in_nI (by omega) (by decide)
      obtain ⟨a, ha, hma, hra, hca⟩ := hL i (by omega)
      have hc : colj col (mn k m) (i + 1) i = nI a := by
        rw [← hca]
        exact if_neg (by omega)
      have hl : lw (gW g) (gS g) k a = true := by
        cases q : lw (gW g) (gS g) a k
        · exact lw_tot (by omega) q
        · have := (rk_iff (n := k) (m := m) ha hma).mp q
          omega
      rw [if_neg (nI_nle (by omega) (by omega)), nI_pred, gin_t ij, nI_clamp (by omega), hc, wkb1_t (q_isLower G hk (show a < n by omega)), hl, ifb_t]
      simp only [gin_t ij, gin_t ij1, wkl_t, nI_clamp (show i + 1 < 2 ^ 31 by omega), pk_m1]
      rw [← hc, colj_s col (by omega)]
      exact ih i nn (by omega) (by omega) (by omega)
theorem mn_s (k m : Nat) : mn (k + 1) m = mn k m + (m.testBit k).toNat := rfl
theorem lay_skip {w s : Nat → Nat} {m k : Nat} {col : Nat → Int32} (h : lay w s m k col) (hb : m.testBit k = false) : lay w s m (k + 1) col := by
  intro p hp
  rw [mn_s, hb] at hp
  obtain ⟨a, ha, h1, h2, h3⟩ := h p hp
  refine ⟨a, by omega, h1, ?_, h3⟩
  rw [rk_s, hb]
  exact h2
theorem lay_put {w s : Nat → Nat} {m k : Nat} {col : Nat → Int32} (h : lay w s m k col) (hb : m.testBit k = true) (r : Nat) (hr : r = rk k w s m k) (hrM : r ≤ mn k m) : lay w s m (k + 1) (upd (colj col (mn k m) r) r (nI k)) := by
  intro p hp
  rw [mn_s, hb] at hp
  have hp : p < mn k m + 1 := hp
  by_cases e : p = r
  · subst e
    refine ⟨k, by omega, hb, ?_, pk_us⟩
    rw [rk_s, lw_irr, hb, ← hr]
    rfl
  · rw [pk_un e]
    by_cases q : p < r
    · obtain ⟨a, ha, h1, h2, h3⟩ := h p (by omega)
      have hl : lw w s a k = true := (rk_iff ha h1).mpr (by omega)
      refine ⟨a, by omega, h1, ?_, ?_⟩
      · rw [rk_s, lw_asym hl, Bool.and_false]
        exact h2
      · rw [← h3]
        exact if_neg (by omega)
    · obtain ⟨a, ha, h1, h2, h3⟩ := h (p - 1) (by omega)
      have hl : lw w s k a = true := by
        cases q : lw w s a k
        · exact lw_tot (by omega) q
        · have := (rk_iff (n := k) (m := m) ha h1).mp q
          omega
      refine ⟨a, by omega, h1, ?_, ?_⟩
      · rw [rk_s, hl, hb, h2]
        show p - 1 + 1 = p
        omega
      · rw [← h3]
        exact if_pos (by omega)
/-- what a laid column holds -/
def laid (n : Nat) (w s : Nat → Nat) (m : Nat) (col loads : Nat → Int32) : Prop := ∀ p, p < mn n m → ∃ a, a < n ∧ m.testBit a = true ∧ rk n w s m a = p ∧ col p = nI a ∧ loads p = nI (ld n w s m a)
def up_ (n : Nat) (w s : Nat → Nat) (m p : Nat) : Nat := sm n (fun o => if m.testBit o && decide (p ≤ rk n w s m o) then w o else 0)
theorem up_ld {n : Nat} {w s : Nat → Nat} {m a : Nat} (ha : a < n) (hm : m.testBit a = true) : up_ n w s m (rk n w s m a + 1) = ld n w s m a := by
  refine sm_congr (fun o ho => ?_)
  cases h1 : m.testBit o
  · rfl
  · have : decide (rk n w s m a + 1 ≤ rk n w s m o) = lw w s a o := by
      cases q : lw w s a o
      · have := rk_ge (n := n) (m := m) q
        simp
        omega
      · have := rk_lt ha hm q
        simp
        omega
    rw [this]
theorem up_s {n : Nat} {w s : Nat → Nat} {m a : Nat} (ha : a < n) (hm : m.testBit a = true) : up_ n w s m (rk n w s m a) = up_ n w s m (rk n w s m a + 1) + w a := by
  have h := sm_off (n := n) (a := a) (f := fun o => if m.testBit o && decide (rk n w s m a + 1 ≤ rk n w s m o) then w o else 0) (g := fun o => if m.testBit o && decide (rk n w s m a ≤ rk n w s m o) then w o else 0) ha (fun o ho hne => by
    cases h1 : m.testBit o
    · rfl
    · have : decide (rk n w s m a + 1 ≤ rk n w s m o) = decide (rk n w s m a ≤ rk n w s m o) := by
        have : rk n w s m a ≠ rk n w s m o := fun e => hne (rk_inj ho ha h1 hm e.symm)
        simp
        omega
      rw [this])
  have e1 : (if m.testBit a && decide (rk n w s m a + 1 ≤ rk n w s m a) then w a else 0) = 0 := by
    rw [if_neg]
    simp
  have e2 : (if m.testBit a && decide (rk n w s m a ≤ rk n w s m a) then w a else 0) = w a := by
    rw [if_pos]
    simp [hm]
  simp only [e1, e2] at h
  unfold up_
  omega
theorem up_top {n : Nat} {w s : Nat → Nat} {m : Nat} : up_ n w s m (mn n m) = 0 := by
  refine sm_zero (fun k hk => ?_)
  cases h1 : m.testBit k
  · rfl
  · have := rk_mn (w := w) (s := s) hk h1
    rw [if_neg]
    simp
    omega
theorem up_le {n : Nat} {w s : Nat → Nat} {m p : Nat} (hn : n ≤ 6) (hw : ∀ k, k < n → w k ≤ 120) : up_ n w s m p ≤ 720 := by
  have := sm_bound (n := n) (c := 120) (f := fun o => if m.testBit o && decide (p ≤ rk n w s m o) then w o else 0) (fun k hk => by
    have := hw k hk
    split <;> omega)
  have : n * 120 ≤ 6 * 120 := Nat.mul_le_mul_right _ hn
  unfold up_
  omega
theorem q_lays105 {n m : Nat} {g col : Nat → Int32} (x : Int32) (G : gA n g) (hL : lay (gW g) (gS g) m n col) :
    ∀ (p nn : Nat) (loads : Nat → Int32), p ≤ mn n m → p < nn → (∀ q, p ≤ q → q < mn n m → ∀ a, a < n → m.testBit a = true → rk n (gW g) (gS g) m a = q → loads q = nI (ld n (gW g) (gS g) m a)) →
    ∃ loads', f_X11_lays_L105 g x nn (nI (up_ n (gW g) (gS g) m p)) (nI p - 1) col loads (nI (mn n m)) = some (col, loads', nI (mn n m)) ∧ laid n (gW g) (gS g) m col loads' := by
  have hn := G.1
  have hM := mn_le n m
  intro p
  induction p with
  | zero =>
    intro nn loads hp hnn hq
    cases nn with
    | zero => omega
    | succ nn =>
      rw [f_X11_lays_L105]
      refine ⟨loads, if_pos (by decide), fun q hq2 => ?_⟩
      obtain ⟨a, ha, h1, h2, h3⟩ := hL q hq2
      exact ⟨a, ha, h1, h2, h3, hq q (Nat.zero_le _) hq2 a ha h1 h2⟩
  | succ p ih =>
    intro nn loads hp hnn hq
    cases nn with
    | zero => omega
    | succ nn =>
      obtain ⟨a, ha, h1, h2, h3⟩ := hL p (by omega)
      rw [f_X11_lays_L105]
      have ip : vp_in (nI p) 6 := vp_in_nI (by omega) (by decide)
      rw [nI_pred, if_neg (nI_pos (by omega))]
      simp only [gin_t ip, wkl_t, nI_clamp (show p < 2 ^ 31 by omega), h3, wkb1_t (q_of0 (g := g) (show a < 6 by omega)), Nat.add_zero, (G.2.2 a ha).1.1, nI_add]
      have e : up_ n (gW g) (gS g) m (p + 1) + gW g a = up_ n (gW g) (gS g) m p := by
        rw [← h2]
        exact (up_s ha h1).symm
      have e9 : nI p + (-1) = nI p - 1 := (Int32.sub_eq_add_neg _ _).symm
      rw [e, e9]
      refine ih nn (upd loads p (nI (up_ n (gW g) (gS g) m (p + 1)))) (by omega) (by omega) (fun q hq1 hq2 b hb hb1 hb2 => ?_)
      by_cases e2 : q = p
      · subst e2
        obtain rfl : a = b := rk_inj (w := gW g) (s := gS g) ha hb h1 hb1 (by omega)
        rw [pk_us, ← h2, up_ld ha h1]
      · rw [pk_un e2]
        exact hq q (by omega) hq2 b hb hb1 hb2
theorem bool_nI (b : Bool) : (if bI b = 0 then 0 else 1) = b.toNat := by cases b <;> rfl
theorem q_lays {n m : Nat} {g col loads : Nat → Int32} (z : Int32) (G : gA n g) (hm : m < 64) :
    ∃ col' loads', f_X11_lays g col loads z (nI m) = some (col', loads', nI (mn n m)) ∧ laid n (gW g) (gS g) m col' loads' := by
  have hn := G.1
  have key : ∀ d k nn (col : Nat → Int32), k + d = n → d < nn → lay (gW g) (gS g) m k col → ∃ col' loads', f_X11_lays_L7 g (nI m) nn (nI k) col loads (nI (mn k m)) = some (col', loads', nI (mn n m)) ∧ laid n (gW g) (gS g) m col' loads' := by
    intro d
    induction d with
    | zero =>
      intro k nn col hk hnn hL
      obtain rfl : k = n := by omega
      cases nn with
      | zero => omega
      | succ nn =>
        rw [f_X11_lays_L7, G.2.1, if_pos (nI_le (Nat.le_refl _) (by omega))]
        obtain ⟨loads', h1, h2⟩ := q_lays105 (nI m) G hL (mn k m) FU loads (Nat.le_refl _) (by have := mn_le k m; unfold FU; omega) (fun q h1 h2 => by omega)
        rw [up_top] at h1
        exact ⟨col, loads', h1, h2⟩
    | succ d ih =>
      intro k nn col hk hnn hL
      cases nn with
      | zero => omega
      | succ nn =>
        have hM := mn_le k m
        rw [f_X11_lays_L7, G.2.1, if_neg (nI_ge (by omega) (by omega)), bit1 (by omega) (by omega)]
        cases hb : m.testBit k
        · rw [ifb_f, nI_1]
          have := ih (k + 1) nn col (by omega) (by omega) (lay_skip hL hb)
          rw [mn_s, hb] at this
          exact this
        · rw [ifb_t]
          have hr : rk k (gW g) (gS g) m k ≤ mn k m := by
            refine sm_le (fun o _ => ?_)
            cases m.testBit o
            · exact Nat.le_refl _
            · cases lw (gW g) (gS g) o k <;> decide
          have h1 := q_lays33 (loads := loads) (nI m) (f_X11_lays_L7 g (nI m) nn) G (by omega) hL _ rfl (mn k m - rk k (gW g) (gS g) m k) (mn k m) FU (by omega) (Nat.le_refl _) (by unfold FU; omega)
          rw [colj_top] at h1
          rw [h1]
          have := ih (k + 1) nn _ (by omega) (by omega) (lay_put hL hb _ rfl hr)
          rw [mn_s, hb] at this
          exact this
  exact key n 0 FU col (by omega) (by unfold FU; omega) (fun p hp => by exact absurd hp (Nat.not_lt_zero _))
