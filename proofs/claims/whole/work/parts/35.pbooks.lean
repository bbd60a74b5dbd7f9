/-! PURE LAYER: nights, falls -/
theorem q_mx {f t : Nat} (hf : f < 2 ^ 30) (ht : t < 2 ^ 30) : (if (0 : Int32) < nI f - nI t then nI f - nI t else 0) = nI (f - t) := by
  have e := pk_sub_toInt hf ht
  by_cases q : t < f
  · rw [if_pos (by rw [Int32.lt_iff_toInt_lt, e, show (0 : Int32).toInt = 0 from by decide]; omega), pk_sub (by omega)]
  · rw [if_neg (by rw [Int32.lt_iff_toInt_lt, e, show (0 : Int32).toInt = 0 from by decide]; omega), show f - t = 0 by omega]
    rfl
theorem q_le0 {f t : Nat} (hf : f < 2 ^ 30) (ht : t < 2 ^ 30) : nI f - nI t ≤ 0 ↔ f ≤ t := by
  rw [Int32.le_iff_toInt_le, pk_sub_toInt hf ht, show (0 : Int32).toInt = 0 from by decide]
  omega
/-- how many are hurt after t nights -/
def hct (f : Nat → Nat) (t k : Nat) : Nat := sm k (fun j => (decide (t < f j)).toNat)
theorem hct_s (f : Nat → Nat) (t k : Nat) : hct f t (k + 1) = hct f t k + (decide (t < f k)).toNat := rfl
def hlF (F : Nat → Int32) (f : Nat → Nat) (t : Nat) : Nat → Nat → Int32 := fun k j => if j < k then nI (f j - t) else F j
theorem hlF_s (F : Nat → Int32) (f : Nat → Nat) (t k : Nat) : upd (hlF F f t k) k (nI (f k - t)) = hlF F f t (k + 1) := by
  funext j
  by_cases e : j = k
  · subst e
    rw [pk_us]
    exact (if_pos (by omega)).symm
  · rw [pk_un e]
    show (if j < k then _ else _) = (if j < k + 1 then _ else _)
    by_cases q : j < k
    · rw [if_pos q, if_pos (by omega)]
    · rw [if_neg q, if_neg (by omega)]
theorem q_heal {n t : Nat} {F : Nat → Int32} {f : Nat → Nat} (hn : n ≤ 6) (ht : t ≤ 99) (hF : ∀ k, k < n → F k = nI (f k) ∧ f k ≤ 3) : f_X9_heal (nI n) F (nI t) = some (nI (hct f t n), hlF F f t n) := by
  unfold f_X9_heal
  have h0 : hlF F f t 0 = F := by
    funext j
    exact if_neg (by omega)
  have := lupF (fun nn (acc : Int32 × (Nat → Int32)) i => f_X9_heal_L4 (nI n) (nI t) nn acc.1 i acc.2) 0 n (fun k => (nI (hct f t k), hlF F f t k)) (some (nI (hct f t n), hlF F f t n)) (Nat.zero_le _) (by omega) ?_ ?_
  · rw [h0] at this
    exact this
  · intro nn
    show f_X9_heal_L4 (nI n) (nI t) (nn + 1) (nI (hct f t n)) (nI n) (hlF F f t n) = _
    rw [f_X9_heal_L4]
    exact if_pos (nI_le (Nat.le_refl _) (by omega))
  · intro nn k _ hk
    show f_X9_heal_L4 (nI n) (nI t) (nn + 1) (nI (hct f t k)) (nI k) (hlF F f t k) = f_X9_heal_L4 (nI n) (nI t) nn (nI (hct f t (k + 1))) (nI (k + 1)) (hlF F f t (k + 1))
    have hv : hlF F f t k k = nI (f k) := by
      rw [← (hF k hk).1]
      exact if_neg (by omega)
    have h3 := (hF k hk).2
    have ik : vp_in (nI k) 6 := vp_in_nI (by omega) (by decide)
    have hv2 : hlF F f t (k + 1) k = nI (f k - t) := if_pos (by omega)
    rw [f_X9_heal_L4, if_neg (nI_ge hk (by omega))]
    simp only [gin_t ik, wkl_t, nI_clamp (show k < 2 ^ 31 by omega), hv, q_mx (show f k < 2 ^ 30 by omega) (show t < 2 ^ 30 by omega), hlF_s, hv2, nI_1]
    rw [hct_s]
    by_cases q : t < f k
    · rw [if_neg (nI_nle (by omega) (by omega))]
      have : decide (t < f k) = true := by simp [q]
      rw [this]
      rfl
    · rw [if_pos (by rw [show f k - t = 0 by omega]; decide)]
      have : decide (t < f k) = false := by simp; omega
      rw [this]
      rfl
/-- the reference's row after nights -/
def hlg (g : Nat → Int32) (t : Nat) : Nat → Nat → Int32 := fun k j => if j = 1 then g 1 + nI t else if 10 ≤ j ∧ j < 10 + 5 * k ∧ (j - 10) % 5 = 0 then nI (gF g ((j - 10) / 5) - t) else g j
theorem hlg_s (g : Nat → Int32) (t k : Nat) : upd (hlg g t k) (6 + 5 * k + 4) (nI (gF g k - t)) = hlg g t (k + 1) := by
  funext j
  by_cases e : j = 6 + 5 * k + 4
  · subst e
    rw [pk_us]
    show _ = (if 6 + 5 * k + 4 = 1 then _ else _)
    rw [if_neg (by omega), if_pos (by omega), show (6 + 5 * k + 4 - 10) / 5 = k by omega]
  · rw [pk_un e]
    show (if j = 1 then _ else _) = (if j = 1 then _ else _)
    by_cases q : j = 1
    · rw [if_pos q, if_pos q]
    · rw [if_neg q, if_neg q]
      by_cases q : 10 ≤ j ∧ j < 10 + 5 * k ∧ (j - 10) % 5 = 0
      · rw [if_pos q, if_pos (by omega)]
      · rw [if_neg q, if_neg (by omega)]
theorem hlg_hurt {g : Nat → Int32} {t n k : Nat} (hk : k < n) : hlg g t n (6 + 5 * k + 4) = nI (gF g k - t) := by
  show (if 6 + 5 * k + 4 = 1 then _ else _) = _
  rw [if_neg (by omega), if_pos (by omega), show (6 + 5 * k + 4 - 10) / 5 = k by omega]
theorem hlg_else {g : Nat → Int32} {t n j : Nat} (h1 : j ≠ 1) (h : ∀ k, k < n → j ≠ 6 + 5 * k + 4) : hlg g t n j = g j := by
  show (if j = 1 then _ else _) = _
  rw [if_neg h1, if_neg (fun q => h ((j - 10) / 5) (by omega) (by omega))]
theorem q_passes {n t : Nat} {g : Nat → Int32} (G : gA n g) (ht : t ≤ 99) : f_X11_passes g (nI t) = some (nI (hct (gF g) t n), hlg g t n) := by
  have hn := G.1
  unfold f_X11_passes
  rw [wkl_t]
  have h0 : hlg g t 0 = upd g 1 (g 1 + nI t) := by
    funext j
    by_cases e : j = 1
    · subst e
      rw [pk_us]
      exact if_pos rfl
    · rw [pk_un e]
      exact hlg_else e (fun k hk => by omega)
  rw [← h0]
  have := lupF (fun nn (acc : Int32 × (Nat → Int32)) i => f_X11_passes_L14 (nI t) nn acc.1 i acc.2) 0 n (fun k => (nI (hct (gF g) t k), hlg g t k)) (some (nI (hct (gF g) t n), hlg g t n)) (Nat.zero_le _) (by omega) ?_ ?_
  · exact this
  · intro nn
    show f_X11_passes_L14 (nI t) (nn + 1) (nI (hct (gF g) t n)) (nI n) (hlg g t n) = _
    rw [f_X11_passes_L14, show hlg g t n 0 = nI n from (hlg_else (by decide) (fun k hk => by omega)).trans G.2.1]
    exact if_pos (nI_le (Nat.le_refl _) (by omega))
  · intro nn k _ hk
    show f_X11_passes_L14 (nI t) (nn + 1) (nI (hct (gF g) t k)) (nI k) (hlg g t k) = f_X11_passes_L14 (nI t) nn (nI (hct (gF g) t (k + 1))) (nI (k + 1)) (hlg g t (k + 1))
    have hv : hlg g t k (6 + 5 * k + 4) = nI (gF g k) := by
      rw [← (G.2.2 k hk).2.2.2.2.1]
      exact hlg_else (by omega) (fun j hj => by omega)
    have h3 := (G.2.2 k hk).2.2.2.2.2
    have e4 : ((6 : Int32) + (5 * nI k)) + 4 = nI (6 + 5 * k + 4) := by
      rw [show (5 : Int32) = nI 5 from rfl, show (6 : Int32) = nI 6 from rfl, show (4 : Int32) = nI 4 from rfl, pk_mul, nI_add, nI_add]
    have ik : vp_in (nI (6 + 5 * k + 4)) 238 := vp_in_nI (by omega) (by decide)
    rw [f_X11_passes_L14, show hlg g t k 0 = nI n from (hlg_else (by decide) (fun k hk => by omega)).trans G.2.1, if_neg (nI_ge hk (by omega)), wkb1_t (q_of4 (g := hlg g t k) (show k < 6 by omega)), hv]
    simp only [e4, gin_t ik, wkl_t, nI_clamp (show 6 + 5 * k + 4 < 2 ^ 31 by omega), nI_1, q_le0 (show gF g k < 2 ^ 30 by omega) (show t < 2 ^ 30 by omega)]
    rw [hct_s]
    by_cases q : gF g k ≤ t
    · rw [if_pos q, if_pos q]
      have : decide (t < gF g k) = false := by simp; omega
      rw [this, show (0 : Int32) = nI (gF g k - t) by rw [show gF g k - t = 0 by omega]; rfl, hlg_s, show nI (gF g k - t) = nI 0 by rw [show gF g k - t = 0 by omega], nI_add]
      rfl
    · rw [if_neg q, if_neg q]
      have : decide (t < gF g k) = true := by simp; omega
      rw [this, pk_sub (by omega), hlg_s]
      rfl
/-- those who land beside the net -/
def injF (F : Nat → Int32) (n m : Nat) (w s : Nat → Nat) (ed k : Nat) : Nat → Int32 := fun j => if j < k ∧ m.testBit j = true ∧ ed < rk n w s m j then 3 else F j
theorem q_injureBeside {n m a q : Nat} {W S F : Nat → Int32} {w s : Nat → Nat} (T : tr n W S w s) (hm : m < 64) (ha : a < n) (hq : q ≤ 5) : f_X9_injureBeside (nI n) W S F (nI m) (nI a) (nI q) = some (injF F n m w s (rk n w s m a + q) n) := by
  have hn := T.1
  have hra := rk_le n w s m a
  unfold f_X9_injureBeside
  rw [wkb1_t (q_placeOf T hm ha), nI_add]
  have h0 : injF F n m w s (rk n w s m a + q) 0 = F := by
    funext j
    exact if_neg (by omega)
  have := lupF (fun nn (acc : Nat → Int32) i => f_X9_injureBeside_L13 (nI n) W S (nI m) (nI a) (nI q) nn (nI (rk n w s m a + q)) i acc) 0 n (fun k => injF F n m w s (rk n w s m a + q) k) (some (injF F n m w s (rk n w s m a + q) n)) (Nat.zero_le _) (by omega) ?_ ?_
  · rw [h0] at this
    exact this
  · intro nn
    show f_X9_injureBeside_L13 (nI n) W S (nI m) (nI a) (nI q) (nn + 1) (nI (rk n w s m a + q)) (nI n) _ = _
    rw [f_X9_injureBeside_L13]
    exact if_pos (nI_le (Nat.le_refl _) (by omega))
  · intro nn k _ hk
    show f_X9_injureBeside_L13 (nI n) W S (nI m) (nI a) (nI q) (nn + 1) (nI (rk n w s m a + q)) (nI k) (injF F n m w s (rk n w s m a + q) k) = f_X9_injureBeside_L13 (nI n) W S (nI m) (nI a) (nI q) nn (nI (rk n w s m a + q)) (nI (k + 1)) (injF F n m w s (rk n w s m a + q) (k + 1))
    have same : ¬ (m.testBit k = true ∧ rk n w s m a + q < rk n w s m k) → injF F n m w s (rk n w s m a + q) (k + 1) = injF F n m w s (rk n w s m a + q) k := by
      intro hno
      funext j
      show (if j < k + 1 ∧ _ then _ else _) = (if j < k ∧ _ then _ else _)
      by_cases e : j = k
      · subst e
        rw [if_neg (fun z => hno z.2), if_neg (fun z => hno z.2)]
      · by_cases z : j < k ∧ m.testBit j = true ∧ rk n w s m a + q < rk n w s m j
        · rw [if_pos z, if_pos ⟨by omega, z.2⟩]
        · rw [if_neg z, if_neg (fun z2 => z ⟨by omega, z2.2⟩)]
    have hrk := rk_le n w s m k
    rw [f_X9_injureBeside_L13, if_neg (nI_ge hk (by omega)), wkb1_t (q_isMember hn hm hk), nI_1]
    cases hb : m.testBit k
    · rw [ifb_f, same (fun z => by rw [hb] at z; cases z.1)]
    · rw [ifb_t, wkb1_t (q_placeOf T hm hk)]
      by_cases z : rk n w s m k ≤ rk n w s m a + q
      · rw [if_pos (nI_le z (by omega)), same (fun z2 => by omega)]
      · rw [if_neg (nI_ge (by omega) (by omega)), gin_t (vp_in_nI (by omega) (by decide)), nI_clamp (by omega), wkl_t]
        have : upd (injF F n m w s (rk n w s m a + q) k) k 3 = injF F n m w s (rk n w s m a + q) (k + 1) := by
          funext j
          by_cases e : j = k
          · subst e
            rw [pk_us]
            exact (if_pos ⟨by omega, hb, by omega⟩).symm
          · rw [pk_un e]
            show (if j < k ∧ _ then _ else _) = (if j < k + 1 ∧ _ then _ else _)
            by_cases z : j < k ∧ m.testBit j = true ∧ rk n w s m a + q < rk n w s m j
            · rw [if_pos z, if_pos ⟨by omega, z.2⟩]
            · rw [if_neg z, if_neg (fun z2 => z ⟨by omega, z2.2⟩)]
        rw [this]
def injg (g : Nat → Int32) (n m ed p : Nat) : Nat → Int32 := fun j => if 10 ≤ j ∧ j < 10 + 5 * n ∧ (j - 10) % 5 = 0 ∧ m.testBit ((j - 10) / 5) = true ∧ ed < rk n (gW g) (gS g) m ((j - 10) / 5) ∧ rk n (gW g) (gS g) m ((j - 10) / 5) < p then 3 else g j
theorem injg_hurt {g : Nat → Int32} {n m ed p k : Nat} (hk : k < n) : injg g n m ed p (6 + 5 * k + 4) = if m.testBit k = true ∧ ed < rk n (gW g) (gS g) m k ∧ rk n (gW g) (gS g) m k < p then 3 else g (6 + 5 * k + 4) := by
  show (if _ then _ else _) = _
  rw [show (6 + 5 * k + 4 - 10) / 5 = k by omega]
  by_cases z : m.testBit k = true ∧ ed < rk n (gW g) (gS g) m k ∧ rk n (gW g) (gS g) m k < p
  · rw [if_pos z, if_pos ⟨by omega, by omega, by omega, z⟩]
  · rw [if_neg z, if_neg (fun y => z y.2.2.2)]
theorem injg_else {g : Nat → Int32} {n m ed p j : Nat} (h : ∀ k, k < n → j ≠ 6 + 5 * k + 4) : injg g n m ed p j = g j := by
  show (if _ then _ else _) = _
  rw [if_neg (fun q => h ((j - 10) / 5) (by omega) (by omega))]
theorem q_falls53 {n m p0 q : Nat} {g col loads : Nat → Int32} (v : Int32) (G : gA n g) (hL : laid n (gW g) (gS g) m col loads) (hp : p0 < mn n m) (hq : q ≤ 5) (hg2 : g 2 = nI q) :
    f_X11_falls_L53 col loads (nI (mn n m)) FU v (nI p0) (nI p0 + 1) g = some (-v, upd (injg g n m (p0 + q) (mn n m)) 5 (g 5 + nI (mn n m - 1 - p0))) := by
  have hn := G.1
  have hM := mn_le n m
  have h0 : injg g n m (p0 + q) (p0 + 1) = g := by
    funext j
    exact if_neg (by omega)
  rw [nI_1]
  have := lupF (fun nn (acc : Nat → Int32) i => f_X11_falls_L53 col loads (nI (mn n m)) nn v (nI p0) i acc) (p0 + 1) (mn n m) (fun k => injg g n m (p0 + q) k) (some (-v, upd (injg g n m (p0 + q) (mn n m)) 5 (g 5 + nI (mn n m - 1 - p0)))) (by omega) (by omega) ?_ ?_
  · rw [h0] at this
    exact this
  · intro nn
    show f_X11_falls_L53 col loads (nI (mn n m)) (nn + 1) v (nI p0) (nI (mn n m)) _ = _
    rw [f_X11_falls_L53, if_pos (nI_le (Nat.le_refl _) (by omega)), wkl_t, show (1 : Int32) = nI 1 from rfl, pk_sub (by omega), pk_sub (by omega), injg_else (fun k hk => by omega)]
  · intro nn p hp1 hp2
    show f_X11_falls_L53 col loads (nI (mn n m)) (nn + 1) v (nI p0) (nI p) (injg g n m (p0 + q) p) = f_X11_falls_L53 col loads (nI (mn n m)) nn v (nI p0) (nI (p + 1)) (injg g n m (p0 + q) (p + 1))
    obtain ⟨a, ha, k1, k2, k3, k4⟩ := hL p hp2
    have huniq : ∀ b, b < n → m.testBit b = true → rk n (gW g) (gS g) m b = p → b = a := fun b hb h1 h2 => rk_inj (w := gW g) (s := gS g) hb ha h1 k1 (by omega)
    rw [f_X11_falls_L53, if_neg (nI_ge hp2 (by omega)), pk_sub (by omega), injg_else (fun k hk => by omega), hg2, nI_1]
    by_cases z : p - p0 ≤ q
    · rw [if_pos (nI_le z (by omega))]
      have : injg g n m (p0 + q) (p + 1) = injg g n m (p0 + q) p := by
        funext j
        show (if _ then _ else _) = (if _ then _ else _)
        by_cases y : 10 ≤ j ∧ j < 10 + 5 * n ∧ (j - 10) % 5 = 0 ∧ m.testBit ((j - 10) / 5) = true ∧ p0 + q < rk n (gW g) (gS g) m ((j - 10) / 5) ∧ rk n (gW g) (gS g) m ((j - 10) / 5) < p
        · rw [if_pos y, if_pos (by omega)]
        · rw [if_neg y, if_neg (by omega)]
      rw [this]
    · have e4 : ((6 : Int32) + (5 * nI a)) + 4 = nI (6 + 5 * a + 4) := by
        rw [show (5 : Int32) = nI 5 from rfl, show (6 : Int32) = nI 6 from rfl, show (4 : Int32) = nI 4 from rfl, pk_mul, nI_add, nI_add]
      have ip : vp_in (nI p) 6 := vp_in_nI (by omega) (by decide)
      have ia : vp_in (nI (6 + 5 * a + 4)) 238 := vp_in_nI (by omega) (by decide)
      rw [if_neg (nI_ge (by omega) (by omega))]
      simp only [gin_t ip, nI_clamp (show p < 2 ^ 31 by omega), k3, e4, gin_t ia, wkl_t, nI_clamp (show 6 + 5 * a + 4 < 2 ^ 31 by omega)]
      have : upd (injg g n m (p0 + q) p) (6 + 5 * a + 4) 3 = injg g n m (p0 + q) (p + 1) := by
        funext j
        by_cases e : j = 6 + 5 * a + 4
        · subst e
          rw [pk_us, injg_hurt ha, if_pos ⟨k1, by omega, by omega⟩]
        · rw [pk_un e]
          show (if _ then _ else _) = (if _ then _ else _)
          by_cases y : 10 ≤ j ∧ j < 10 + 5 * n ∧ (j - 10) % 5 = 0 ∧ m.testBit ((j - 10) / 5) = true ∧ p0 + q < rk n (gW g) (gS g) m ((j - 10) / 5) ∧ rk n (gW g) (gS g) m ((j - 10) / 5) < p
          · rw [if_pos y, if_pos ⟨y.1, y.2.1, y.2.2.1, y.2.2.2.1, y.2.2.2.2.1, by have := y.2.2.2.2.2; omega⟩]
          · rw [if_neg y, if_neg (fun y2 => y ⟨y2.1, y2.2.1, y2.2.2.1, y2.2.2.2.1, y2.2.2.2.2.1, by
              have := y2.2.2.2.2.2
              by_cases e2 : rk n (gW g) (gS g) m ((j - 10) / 5) = p
              · have := huniq _ (by omega) y2.2.2.2.1 e2
                omega
              · omega⟩)]
      rw [this]
