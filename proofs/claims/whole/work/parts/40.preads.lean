/-! PURE LAYER: what calls read -/
theorem wkx_t {α β : Type} {o : Option (α ⊕ String)} {k : α → Option (β ⊕ String)} {a : α} (h : o = some (.inl a)) : wkx o k = k a := by rw [h]; rfl
theorem wkx_e {α β : Type} {o : Option (α ⊕ String)} {k : α → Option (β ⊕ String)} {E : String} (h : o = some (.inr E)) : wkx o k = some (.inr E) := by rw [h]; rfl
theorem wky_t {α β γ : Type} {o : Option (α ⊕ String)} {x : String → γ} {k : α → Option (β ⊕ γ)} {a : α} (h : o = some (.inl a)) : wky o x k = k a := by rw [h]; rfl
theorem wky_e {α β γ : Type} {o : Option (α ⊕ String)} {x : String → γ} {k : α → Option (β ⊕ γ)} {E : String} (h : o = some (.inr E)) : wky o x k = some (.inr (x E)) := by rw [h]; rfl
/-- both answer alike: the same value, or the exception that the code tells -/
def agr {α : Type} (L : List String) (out : α ⊕ String) (b : α) (code : Int32) : Prop := (out = .inl b ∧ code = 0) ∨ ∃ (i : Nat) (E : String), L[i]? = some E ∧ out = .inr E ∧ code = nI (i + 1)
abbrev xIOOB : String := "java/lang/IndexOutOfBoundsException"
abbrev xIAE : String := "java/lang/IllegalArgumentException"
abbrev xISE : String := "java/lang/IllegalStateException"
abbrev xARI : String := "java/lang/ArithmeticException"
abbrev xUNS : String := "java/lang/UnsupportedOperationException"
abbrev xNSE : String := "java/util/NoSuchElementException"
/-- the acrobats of both -/
def RT (n : Nat) (Tc : Int32) (W S Hh C F g : Nat → Int32) : Prop := Tc = nI n ∧ gA n g ∧ (∀ k, k < 6 → W k = g (6 + 5 * k) ∧ S k = g (6 + 5 * k + 1) ∧ Hh k = g (6 + 5 * k + 2) ∧ C k = g (6 + 5 * k + 3) ∧ F k = g (6 + 5 * k + 4)) ∧ ∀ k, n ≤ k → k < 6 → g (6 + 5 * k + 4) = 0
theorem RT_tr {n : Nat} {Tc : Int32} {W S Hh C F g : Nat → Int32} (R : RT n Tc W S Hh C F g) : tr n W S (gW g) (gS g) := by
  have hn := R.2.1.1
  refine ⟨hn, fun k hk => ?_⟩
  obtain ⟨r1, r2, -⟩ := R.2.2.1 k (by omega)
  obtain ⟨⟨g1, -, g2⟩, ⟨g3, g4⟩, -⟩ := R.2.1.2.2 k hk
  exact ⟨r1.trans g1, r2.trans g3, g2, g4⟩
theorem RT_h {n : Nat} {Tc : Int32} {W S Hh C F g : Nat → Int32} (R : RT n Tc W S Hh C F g) : ∀ k, k < n → Hh k = nI (gH g k) ∧ gH g k ≤ 200 := fun k hk => by
  have hn := R.2.1.1
  exact ⟨(R.2.2.1 k (by omega)).2.2.1.trans (R.2.1.2.2 k hk).2.2.1.1, (R.2.1.2.2 k hk).2.2.1.2.2⟩
theorem RT_f {n : Nat} {Tc : Int32} {W S Hh C F g : Nat → Int32} (R : RT n Tc W S Hh C F g) : ∀ k, k < n → F k = nI (gF g k) ∧ gF g k ≤ 3 := fun k hk => by
  have hn := R.2.1.1
  exact ⟨(R.2.2.1 k (by omega)).2.2.2.2.trans (R.2.1.2.2 k hk).2.2.2.2.1, (R.2.1.2.2 k hk).2.2.2.2.2⟩
theorem nI_pm1 {n : Nat} (hn : n < 2 ^ 30) : (nI n - 1).toInt = (n : Int) - 1 := pk_sub_toInt (b := 1) hn (by decide)
theorem q_in0 {n : Nat} {x : Int32} (hn : n < 2 ^ 30) (h : x < 0 ∨ nI n ≤ x) : f_X11_in x 0 (nI n - 1) = some 0 := by
  unfold f_X11_in
  by_cases q : x < 0
  · rw [if_pos q]
  · rw [if_neg q, if_pos]
    have h1 := h.resolve_left q
    rw [Int32.le_iff_toInt_le, nI_toInt (by omega)] at h1
    rw [Int32.lt_iff_toInt_lt, nI_pm1 hn]
    omega
theorem q_in1 {n j : Nat} (hn : n < 2 ^ 30) (hj : j < n) : f_X11_in (nI j) 0 (nI n - 1) = some 1 := by
  unfold f_X11_in
  rw [if_neg (nI_pos (by omega)), if_neg]
  rw [Int32.lt_iff_toInt_lt, nI_pm1 hn, nI_toInt (by omega)]
  omega
theorem q_fails0 (c : Int32) : f_X11_fails c 0 = some (0, 0) := rfl
theorem q_failsP (c : Int32) {k : Nat} (h0 : 0 < k) (hk : k < 2 ^ 31) : f_X11_fails c (nI k) = some (1, nI k) := if_neg (nI_nle h0 hk)
theorem q_isAcr0 {n : Nat} {g : Nat → Int32} {x : Int32} (G : gA n g) (h : x < 0 ∨ nI n ≤ x) : f_X11_isAcrobat g x = some 0 := by
  have hn := G.1
  unfold f_X11_isAcrobat
  rw [G.2.1, wkb1_t (q_in0 (by omega) h)]
  rfl
theorem q_isAcr1 {n j : Nat} {g : Nat → Int32} (G : gA n g) (h : j < n) : f_X11_isAcrobat g (nI j) = some 1 := by
  have hn := G.1
  unfold f_X11_isAcrobat
  rw [G.2.1, wkb1_t (q_in1 (by omega) h)]
  rfl
theorem q_isNone0 {n : Nat} {g : Nat → Int32} {x : Int32} (c : Int32) (G : gA n g) (h : x < 0 ∨ nI n ≤ x) : f_X11_isNone g c x = some (1, 1) := by
  unfold f_X11_isNone
  rw [wkb1_t (q_isAcr0 G h)]
  rfl
theorem q_isNone1 {n j : Nat} {g : Nat → Int32} (c : Int32) (G : gA n g) (h : j < n) : f_X11_isNone g c (nI j) = some (0, 0) := by
  unfold f_X11_isNone
  rw [wkb1_t (q_isAcr1 G h), if_neg one_ne]
  rfl
theorem q_reqA0 {n : Nat} {x : Int32} (h : x < 0 ∨ nI n ≤ x) : f_X10_requireAcrobat (nI n) x = some (.inr xIOOB) := by
  unfold f_X10_requireAcrobat
  rw [wkb1_t (q_has0 h)]
  rfl
theorem q_reqA1 {n j : Nat} (hn : n ≤ 6) (h : j < n) : f_X10_requireAcrobat (nI n) (nI j) = some (.inl ()) := by
  unfold f_X10_requireAcrobat
  rw [wkb1_t (q_has hn h), if_neg one_ne]
theorem ix3 (x : Int32) (n : Nat) (hn : n < 2 ^ 31) : (x < 0 ∨ nI n ≤ x) ∨ ∃ j, j < n ∧ x = nI j := by
  rcases pk_ix x hn with h | h | h
  · exact Or.inl (Or.inl h)
  · exact Or.inl (Or.inr h)
  · exact Or.inr h
theorem o_weight {n : Nat} {Tc : Int32} {W S Hh C F g : Nat → Int32} (R : RT n Tc W S Hh C F g) (c x : Int32) : ∃ out b c', f_X10_weight Tc W x = some out ∧ f_X11_weight g c x = some (b, c') ∧ agr [xIOOB] out b c' := by
  obtain ⟨rfl, G, R1, -⟩ := R
  have hn := G.1
  unfold f_X10_weight f_X11_weight
  rcases ix3 x n (by omega) with h | ⟨j, hj, rfl⟩
  · exact ⟨_, _, _, wkx_e (q_reqA0 h), by rw [wkb2_t (q_isNone0 c G h)]; rfl, Or.inr ⟨0, _, rfl, rfl, rfl⟩⟩
  · rw [wkx_t (q_reqA1 hn hj), gin_t (vp_in_nI (by omega) (by decide)), nI_clamp (by omega), wkb2_t (q_isNone1 c G hj), if_pos rfl, wkb1_t (q_of0 (by omega)), (R1 j (by omega)).1]
    exact ⟨_, _, _, rfl, rfl, Or.inl ⟨rfl, rfl⟩⟩
theorem o_strength {n : Nat} {Tc : Int32} {W S Hh C F g : Nat → Int32} (R : RT n Tc W S Hh C F g) (c x : Int32) : ∃ out b c', f_X10_strength Tc S x = some out ∧ f_X11_strength g c x = some (b, c') ∧ agr [xIOOB] out b c' := by
  obtain ⟨rfl, G, R1, -⟩ := R
  have hn := G.1
  unfold f_X10_strength f_X11_strength
  rcases ix3 x n (by omega) with h | ⟨j, hj, rfl⟩
  · exact ⟨_, _, _, wkx_e (q_reqA0 h), by rw [wkb2_t (q_isNone0 c G h)]; rfl, Or.inr ⟨0, _, rfl, rfl, rfl⟩⟩
  · rw [wkx_t (q_reqA1 hn hj), gin_t (vp_in_nI (by omega) (by decide)), nI_clamp (by omega), wkb2_t (q_isNone1 c G hj), if_pos rfl, wkb1_t (q_of1 (by omega)), (R1 j (by omega)).2.1]
    exact ⟨_, _, _, rfl, rfl, Or.inl ⟨rfl, rfl⟩⟩
theorem o_height {n : Nat} {Tc : Int32} {W S Hh C F g : Nat → Int32} (R : RT n Tc W S Hh C F g) (c x : Int32) : ∃ out b c', f_X10_height Tc Hh x = some out ∧ f_X11_height g c x = some (b, c') ∧ agr [xIOOB] out b c' := by
  obtain ⟨rfl, G, R1, -⟩ := R
  have hn := G.1
  unfold f_X10_height f_X11_height
  rcases ix3 x n (by omega) with h | ⟨j, hj, rfl⟩
  · exact ⟨_, _, _, wkx_e (q_reqA0 h), by rw [wkb2_t (q_isNone0 c G h)]; rfl, Or.inr ⟨0, _, rfl, rfl, rfl⟩⟩
  · rw [wkx_t (q_reqA1 hn hj), gin_t (vp_in_nI (by omega) (by decide)), nI_clamp (by omega), wkb2_t (q_isNone1 c G hj), if_pos rfl, wkb1_t (q_of2 (by omega)), (R1 j (by omega)).2.2.1]
    exact ⟨_, _, _, rfl, rfl, Or.inl ⟨rfl, rfl⟩⟩
theorem o_wage {n : Nat} {Tc : Int32} {W S Hh C F g : Nat → Int32} (R : RT n Tc W S Hh C F g) (c x : Int32) : ∃ out b c', f_X10_wage Tc C x = some out ∧ f_X11_wage g c x = some (b, c') ∧ agr [xIOOB] out b c' := by
  obtain ⟨rfl, G, R1, -⟩ := R
  have hn := G.1
  unfold f_X10_wage f_X11_wage
  rcases ix3 x n (by omega) with h | ⟨j, hj, rfl⟩
  · exact ⟨_, _, _, wkx_e (q_reqA0 h), by rw [wkb2_t (q_isNone0 c G h)]; rfl, Or.inr ⟨0, _, rfl, rfl, rfl⟩⟩
  · rw [wkx_t (q_reqA1 hn hj), gin_t (vp_in_nI (by omega) (by decide)), nI_clamp (by omega), wkb2_t (q_isNone1 c G hj), if_pos rfl, wkb1_t (q_of3 (by omega)), (R1 j (by omega)).2.2.2.1]
    exact ⟨_, _, _, rfl, rfl, Or.inl ⟨rfl, rfl⟩⟩
theorem o_nightsUntilFit {n : Nat} {Tc : Int32} {W S Hh C F g : Nat → Int32} (R : RT n Tc W S Hh C F g) (c x : Int32) : ∃ out b c', f_X10_nightsUntilFit Tc F x = some out ∧ f_X11_nightsUntilFit g c x = some (b, c') ∧ agr [xIOOB] out b c' := by
  obtain ⟨rfl, G, R1, -⟩ := R
  have hn := G.1
  unfold f_X10_nightsUntilFit f_X11_nightsUntilFit
  rcases ix3 x n (by omega) with h | ⟨j, hj, rfl⟩
  · exact ⟨_, _, _, wkx_e (q_reqA0 h), by rw [wkb2_t (q_isNone0 c G h)]; rfl, Or.inr ⟨0, _, rfl, rfl, rfl⟩⟩
  · rw [wkx_t (q_reqA1 hn hj), gin_t (vp_in_nI (by omega) (by decide)), nI_clamp (by omega), wkb2_t (q_isNone1 c G hj), if_pos rfl, wkb1_t (q_of4 (by omega)), (R1 j (by omega)).2.2.2.2]
    exact ⟨_, _, _, rfl, rfl, Or.inl ⟨rfl, rfl⟩⟩
theorem o_isInjured {n : Nat} {Tc : Int32} {W S Hh C F g : Nat → Int32} (R : RT n Tc W S Hh C F g) (c x : Int32) : ∃ out b c', f_X10_isInjured Tc F x = some out ∧ f_X11_isInjured g c x = some (b, c') ∧ agr [xIOOB] out b c' ∧ (b = 0 ∨ b = 1) := by
  obtain ⟨rfl, G, R1, -⟩ := R
  have hn := G.1
  unfold f_X10_isInjured f_X11_isInjured
  rcases ix3 x n (by omega) with h | ⟨j, hj, rfl⟩
  · exact ⟨_, _, _, wkx_e (q_reqA0 h), by rw [wkb2_t (q_isNone0 c G h)]; rfl, Or.inr ⟨0, _, rfl, rfl, rfl⟩, Or.inl rfl⟩
  · rw [wkx_t (q_reqA1 hn hj), gin_t (vp_in_nI (by omega) (by decide)), nI_clamp (by omega), wkb2_t (q_isNone1 c G hj), if_pos rfl, wkb1_t (q_of4 (by omega)), (R1 j (by omega)).2.2.2.2]
    by_cases q : g (6 + 5 * j + 4) ≤ 0
    · rw [if_pos q, if_pos q]
      exact ⟨_, _, _, rfl, rfl, Or.inl ⟨rfl, rfl⟩, Or.inl rfl⟩
    · rw [if_neg q, if_neg q]
      exact ⟨_, _, _, rfl, rfl, Or.inl ⟨rfl, rfl⟩, Or.inr rfl⟩
/-- sets -/
theorem q_reqS0 {n : Nat} {x : Int32} (hn : n ≤ 6) (h : x ≤ 0 ∨ nI (2 ^ n) ≤ x) : f_X10_requireSet (nI n) x = some (.inr xIAE) := by
  unfold f_X10_requireSet
  rw [wkb1_t (q_isSet0 hn h)]
  rfl
theorem q_reqS1 {n m : Nat} (hn : n ≤ 6) (h0 : 0 < m) (hm : m < 2 ^ n) : f_X10_requireSet (nI n) (nI m) = some (.inl ()) := by
  unfold f_X10_requireSet
  rw [wkb1_t (q_isSet hn h0 hm), if_neg one_ne]
theorem q_isSetM0 {n : Nat} {g : Nat → Int32} {x : Int32} (G : gA n g) (h : x ≤ 0 ∨ nI (2 ^ n) ≤ x) : f_X11_isSet g x = some 0 := by
  have hn := G.1
  unfold f_X11_isSet
  rw [G.2.1]
  by_cases q : x ≤ 0
  · rw [if_pos q]
  · rw [if_neg q, shl1 (by omega), if_pos (h.resolve_left q)]
theorem q_isSetM1 {n m : Nat} {g : Nat → Int32} (G : gA n g) (h0 : 0 < m) (hm : m < 2 ^ n) : f_X11_isSet g (nI m) = some 1 := by
  have hn := G.1
  have h6 := pow64 hn
  unfold f_X11_isSet
  rw [G.2.1, if_neg (nI_nle h0 (by omega)), shl1 (by omega), if_neg (nI_ge hm (by omega))]
theorem q_isWrong0 {n : Nat} {g col loads : Nat → Int32} {c z x : Int32} (G : gA n g) (h : x ≤ 0 ∨ nI (2 ^ n) ≤ x) : f_X11_isWrong g c col loads z x = some (1, 1, col, loads, z) := by
  unfold f_X11_isWrong
  rw [wkb1_t (q_isSetM0 G h)]
  rfl
theorem q_isWrong1 {n m : Nat} {g col loads : Nat → Int32} {c z : Int32} (G : gA n g) (h0 : 0 < m) (hm : m < 2 ^ n) : ∃ col' loads', f_X11_isWrong g c col loads z (nI m) = some (0, 0, col', loads', nI (mn n m)) ∧ laid n (gW g) (gS g) m col' loads' := by
  have h6 := pow64 G.1
  obtain ⟨c1, l1, e1, hL⟩ := q_lays (col := col) (loads := loads) (m := m) z G (by omega)
  refine ⟨c1, l1, ?_, hL⟩
  unfold f_X11_isWrong
  rw [wkb1_t (q_isSetM1 G h0 hm), if_neg one_ne, wkb2_t (q_fails0 c), if_pos rfl, wkb3_t e1]
theorem o_canStand {n : Nat} {Tc : Int32} {W S Hh C F g : Nat → Int32} (R : RT n Tc W S Hh C F g) (c x : Int32) (col loads : Nat → Int32) (z : Int32) : ∃ out b c' col' loads' z', f_X10_canStand Tc W S x = some out ∧ f_X11_canStand g c col loads z x = some (b, c', col', loads', z') ∧ agr [xIAE] out b c' ∧ (b = 0 ∨ b = 1) := by
  have T := RT_tr R
  obtain ⟨rfl, G, R1, -⟩ := R
  have hn := G.1
  have h6 := pow64 hn
  unfold f_X10_canStand f_X11_canStand
  rcases set_or n hn x with h | ⟨m, h0, hm, rfl⟩
  · exact ⟨_, _, _, _, _, _, wkx_e (q_reqS0 hn h), by rw [wkb5_t (q_isWrong0 G h)]; rfl, Or.inr ⟨0, _, rfl, rfl, rfl⟩, Or.inl rfl⟩
  · obtain ⟨c1, l1, e1, hL⟩ := q_isWrong1 (c := c) (col := col) (loads := loads) (z := z) G h0 hm
    rw [wkx_t (q_reqS1 hn h0 hm), wkb1_t (q_overloadedOf T (by omega)), wkb5_t e1, if_pos rfl, wkb1_t (q_breaks G hL)]
    cases ho : ov n (gW g) (gS g) m with
    | none =>
      rw [oR_neg ho, show oI none = -1 from rfl, if_pos rfl, if_neg (by decide)]
      exact ⟨_, _, _, _, _, _, rfl, rfl, Or.inl ⟨rfl, rfl⟩, Or.inr rfl⟩
    | some a =>
      have ha := (ov_some ho).1
      have hr := rk_le n (gW g) (gS g) m a
      rw [oR_pos ho, show oI (some a) = nI a from rfl, if_neg (oI_m1 (by omega)), if_pos (nI_pos' (by omega))]
      exact ⟨_, _, _, _, _, _, rfl, rfl, Or.inl ⟨rfl, rfl⟩, Or.inl rfl⟩
theorem laid_at {n m a : Nat} {w s : Nat → Nat} {col loads : Nat → Int32} (hL : laid n w s m col loads) (ha : a < n) (hm : m.testBit a = true) : col (rk n w s m a) = nI a ∧ loads (rk n w s m a) = nI (ld n w s m a) := by
  obtain ⟨b, hb, k1, k2, k3, k4⟩ := hL _ (rk_mn ha hm)
  obtain rfl : b = a := rk_inj hb ha k1 hm k2
  exact ⟨k3, k4⟩
theorem q_reqF0 : f_X10_requireFound (-1) = some (.inr xNSE) := rfl
theorem q_reqF1 {j : Nat} (h : j < 2 ^ 31) : f_X10_requireFound (nI j) = some (.inl (nI j)) := if_neg (oI_m1 h)
theorem o_acrobatAt {n : Nat} {Tc : Int32} {W S Hh C F g : Nat → Int32} (R : RT n Tc W S Hh C F g) (c x y : Int32) (col loads : Nat → Int32) (z : Int32) : ∃ out b c' col' loads' z', f_X10_acrobatAt Tc W S x y = some out ∧ f_X11_acrobatAt g c col loads z x y = some (b, c', col', loads', z') ∧ agr [xIAE, xNSE] out b c' := by
  have T := RT_tr R
  obtain ⟨rfl, G, R1, -⟩ := R
  have hn := G.1
  have h6 := pow64 hn
  unfold f_X10_acrobatAt f_X11_acrobatAt
  rcases set_or n hn x with h | ⟨m, h0, hm, rfl⟩
  · exact ⟨_, _, _, _, _, _, wkx_e (q_reqS0 hn h), by rw [wkb5_t (q_isWrong0 G h)]; rfl, Or.inr ⟨0, _, rfl, rfl, rfl⟩⟩
  · obtain ⟨c1, l1, e1, hL⟩ := q_isWrong1 (c := c) (col := col) (loads := loads) (z := z) G h0 hm
    have hM := mn_le n m
    rw [wkx_t (q_reqS1 hn h0 hm), wkb5_t e1, if_pos rfl]
    rcases ix3 y (mn n m) (by omega) with h | ⟨p, hp, rfl⟩
    · have e2 : f_X9_memberAt (nI n) W S (nI m) y = some (-1) := q_memberAt0 T (by omega) (fun a ha hb e => by
        have hr := rk_mn (w := gW g) (s := gS g) ha hb
        rw [← e] at h
        rcases h with h | h
        · exact nI_pos (by omega) h
        · exact nI_ge hr (by omega) h)
      rw [wkb1_t e2, wkb1_t (q_in0 (by omega) h), if_pos rfl]
      exact ⟨_, _, _, _, _, _, rfl, rfl, Or.inr ⟨1, _, rfl, rfl, rfl⟩⟩
    · obtain ⟨a, ha, k1, k2, k3, k4⟩ := hL p hp
      have e2 := q_memberAt T (by omega) ha k1
      rw [k2] at e2
      rw [wkb1_t e2, wkx_t (q_reqF1 (by omega)), wkb1_t (q_in1 (by omega) hp), if_neg one_ne, wkb2_t (q_fails0 0), if_pos rfl, gin_t (vp_in_nI (by omega) (by decide)), nI_clamp (by omega), k3]
      exact ⟨_, _, _, _, _, _, rfl, rfl, Or.inl ⟨rfl, rfl⟩⟩
theorem q_placeOfM {n m : Nat} {w s : Nat → Nat} {col loads : Nat → Int32} (hn : n ≤ 6) (hL : laid n w s m col loads) {a : Nat} (ha : a < n) (hb : m.testBit a = true) : f_X11_placeOf col (nI (mn n m)) (nI a) = some (nI (rk n w s m a)) := by
  have hM := mn_le n m
  have hr := rk_mn (w := w) (s := s) ha hb
  unfold f_X11_placeOf
  refine lupF (fun nn (_ : Unit) i => f_X11_placeOf_L2 col (nI (mn n m)) (nI a) nn i) 0 (rk n w s m a) (fun _ => ()) _ (Nat.zero_le _) (by omega) ?_ ?_
  · intro nn
    show f_X11_placeOf_L2 col (nI (mn n m)) (nI a) (nn + 1) (nI (rk n w s m a)) = _
    rw [f_X11_placeOf_L2, if_neg (nI_ge hr (by omega)), gin_t (vp_in_nI (by omega) (by decide)), nI_clamp (by omega)]
    exact if_pos (laid_at hL ha hb).1
  · intro nn p _ hp
    show f_X11_placeOf_L2 col (nI (mn n m)) (nI a) (nn + 1) (nI p) = f_X11_placeOf_L2 col (nI (mn n m)) (nI a) nn (nI (p + 1))
    obtain ⟨b, hb', k1, k2, k3, k4⟩ := hL p (by omega)
    rw [f_X11_placeOf_L2, if_neg (nI_ge (show p < mn n m by omega) (by omega)), gin_t (vp_in_nI (by omega) (by decide)), nI_clamp (by omega), k3, nI_1]
    exact if_neg (fun e => by
      obtain rfl := (nI_eq (by omega) (by omega)).mp e
      omega)
theorem q_placeOfM0 {n m : Nat} {w s : Nat → Nat} {col loads : Nat → Int32} {y : Int32} (hn : n ≤ 6) (hL : laid n w s m col loads) (hy : ∀ a, a < n → m.testBit a = true → nI a ≠ y) : f_X11_placeOf col (nI (mn n m)) y = some (-1) := by
  have hM := mn_le n m
  unfold f_X11_placeOf
  refine lupF (fun nn (_ : Unit) i => f_X11_placeOf_L2 col (nI (mn n m)) y nn i) 0 (mn n m) (fun _ => ()) _ (Nat.zero_le _) (by omega) ?_ ?_
  · intro nn
    show f_X11_placeOf_L2 col (nI (mn n m)) y (nn + 1) (nI (mn n m)) = _
    rw [f_X11_placeOf_L2]
    exact if_pos (nI_le (Nat.le_refl _) (by omega))
  · intro nn p _ hp
    show f_X11_placeOf_L2 col (nI (mn n m)) y (nn + 1) (nI p) = f_X11_placeOf_L2 col (nI (mn n m)) y nn (nI (p + 1))
    obtain ⟨b, hb', k1, k2, k3, k4⟩ := hL p hp
    rw [f_X11_placeOf_L2, if_neg (nI_ge hp (by omega)), gin_t (vp_in_nI (by omega) (by decide)), nI_clamp (by omega), k3, nI_1]
    exact if_neg (hy b hb' k1)
theorem o_loadOn {n : Nat} {Tc : Int32} {W S Hh C F g : Nat → Int32} (R : RT n Tc W S Hh C F g) (c x y : Int32) (col loads : Nat → Int32) (z : Int32) : ∃ out b c' col' loads' z', f_X10_loadOn Tc W S x y = some out ∧ f_X11_loadOn g c col loads z x y = some (b, c', col', loads', z') ∧ agr [xIAE, xNSE] out b c' := by
  have T := RT_tr R
  obtain ⟨rfl, G, R1, -⟩ := R
  have hn := G.1
  have h6 := pow64 hn
  unfold f_X10_loadOn f_X11_loadOn
  rcases set_or n hn x with h | ⟨m, h0, hm, rfl⟩
  · exact ⟨_, _, _, _, _, _, wkx_e (q_reqS0 hn h), by rw [wkb5_t (q_isWrong0 G h)]; rfl, Or.inr ⟨0, _, rfl, rfl, rfl⟩⟩
  · obtain ⟨c1, l1, e1, hL⟩ := q_isWrong1 (c := c) (col := col) (loads := loads) (z := z) G h0 hm
    have hM := mn_le n m
    rw [wkx_t (q_reqS1 hn h0 hm), wkb5_t e1, if_pos rfl]
    have no : f_X9_isMember (nI n) (nI m) y = some 0 → (∀ a, a < n → m.testBit a = true → nI a ≠ y) → ∃ out b c' col' loads' z', wkb1 (f_X9_isMember (nI n) (nI m) y) (fun r4 => if r4 = 0 then some (.inr "java/util/NoSuchElementException") else wkb1 (f_X9_loadOf (nI n) W S (nI m) y) (fun r7 => some (.inl r7))) = some out ∧ wkb1 (f_X11_placeOf c1 (nI (mn n m)) y) (fun r8 => if (0 : Int32) ≤ r8 then wkb2 (f_X11_fails 0 0) (fun r11 w12 => if r11 = 0 then wkb1 (f_X11_placeOf c1 (nI (mn n m)) y) (fun r15 => gin r15 6 (some (l1 r15.toNatClampNeg, w12, c1, l1, nI (mn n m)))) else some (0, w12, c1, l1, nI (mn n m))) else wkb2 (f_X11_fails 0 2) (fun r18 w19 => if r18 = 0 then wkb1 (f_X11_placeOf c1 (nI (mn n m)) y) (fun r22 => gin r22 6 (some (l1 r22.toNatClampNeg, w19, c1, l1, nI (mn n m)))) else some (0, w19, c1, l1, nI (mn n m)))) = some (b, c', col', loads', z') ∧ agr [xIAE, xNSE] out b c' := by
      intro e2 hy
      rw [wkb1_t e2, wkb1_t (q_placeOfM0 hn hL hy), if_pos rfl, if_neg (by decide)]
      exact ⟨_, _, _, _, _, _, rfl, rfl, Or.inr ⟨1, _, rfl, rfl, rfl⟩⟩
    rcases ix3 y n (by omega) with h | ⟨a, ha, rfl⟩
    · refine no (q_isMember0 h) (fun a ha hb e => ?_)
      rw [← e] at h
      rcases h with h | h
      · exact nI_pos (by omega) h
      · exact nI_ge ha (by omega) h
    · have e2 := q_isMember hn (show m < 64 by omega) ha
      cases hb : m.testBit a
      · rw [hb] at e2
        refine no e2 (fun b hb' hbb e => ?_)
        obtain rfl := (nI_eq (by omega) (by omega)).mp e
        rw [hb] at hbb
        cases hbb
      · have hr := rk_mn (w := gW g) (s := gS g) ha hb
        rw [hb] at e2
        rw [wkb1_t e2, ifb_t, wkb1_t (q_loadOf T (by omega) ha), wkb1_t (q_placeOfM hn hL ha hb), if_pos (nI_pos' (by omega)), wkb2_t (q_fails0 0), if_pos rfl, wkb1_t (q_placeOfM hn hL ha hb), gin_t (vp_in_nI (by omega) (by decide)), nI_clamp (by omega), (laid_at hL ha hb).2]
        exact ⟨_, _, _, _, _, _, rfl, rfl, Or.inl ⟨rfl, rfl⟩⟩
theorem o_columnHeight {n : Nat} {Tc : Int32} {W S Hh C F g : Nat → Int32} (R : RT n Tc W S Hh C F g) (c x : Int32) (col loads : Nat → Int32) (z : Int32) : ∃ out b c' col' loads' z', f_X10_columnHeight Tc Hh x = some out ∧ f_X11_columnHeight g c col loads z x = some (b, c', col', loads', z') ∧ agr [xIAE] out b c' := by
  have hH := RT_h R
  obtain ⟨rfl, G, R1, -⟩ := R
  have hn := G.1
  have h6 := pow64 hn
  unfold f_X10_columnHeight f_X11_columnHeight
  rcases set_or n hn x with h | ⟨m, h0, hm, rfl⟩
  · exact ⟨_, _, _, _, _, _, wkx_e (q_reqS0 hn h), by rw [wkb5_t (q_isWrong0 G h)]; rfl, Or.inr ⟨0, _, rfl, rfl, rfl⟩⟩
  · obtain ⟨c1, l1, e1, hL⟩ := q_isWrong1 (c := c) (col := col) (loads := loads) (z := z) G h0 hm
    rw [wkx_t (q_reqS1 hn h0 hm), wkb1_t (q_heightOf hn (fun k hk => (hH k hk).1) (by omega)), wkb5_t e1, if_pos rfl, wkb1_t (q_tall G (by omega))]
    exact ⟨_, _, _, _, _, _, rfl, rfl, Or.inl ⟨rfl, rfl⟩⟩
theorem o_overloaded {n : Nat} {Tc : Int32} {W S Hh C F g : Nat → Int32} (R : RT n Tc W S Hh C F g) (c x : Int32) (col loads : Nat → Int32) (z : Int32) : ∃ out b c' col' loads' z', f_X10_overloaded Tc W S x = some out ∧ f_X11_overloaded g c col loads z x = some (b, c', col', loads', z') ∧ agr [xIAE, xNSE] out b c' := by
  have T := RT_tr R
  obtain ⟨rfl, G, R1, -⟩ := R
  have hn := G.1
  have h6 := pow64 hn
  unfold f_X10_overloaded f_X11_overloaded
  rcases set_or n hn x with h | ⟨m, h0, hm, rfl⟩
  · exact ⟨_, _, _, _, _, _, wkx_e (q_reqS0 hn h), by rw [wkb5_t (q_isWrong0 G h)]; rfl, Or.inr ⟨0, _, rfl, rfl, rfl⟩⟩
  · obtain ⟨c1, l1, e1, hL⟩ := q_isWrong1 (c := c) (col := col) (loads := loads) (z := z) G h0 hm
    rw [wkx_t (q_reqS1 hn h0 hm), wkb1_t (q_overloadedOf T (by omega)), wkb5_t e1, if_pos rfl, wkb1_t (q_breaks G hL)]
    cases ho : ov n (gW g) (gS g) m with
    | none =>
      rw [oR_neg ho, show oI none = -1 from rfl, wkx_e q_reqF0, if_neg (by decide)]
      exact ⟨_, _, _, _, _, _, rfl, rfl, Or.inr ⟨1, _, rfl, rfl, rfl⟩⟩
    | some a =>
      obtain ⟨ha, hb, -, -⟩ := ov_some ho
      have hr := rk_le n (gW g) (gS g) m a
      rw [oR_pos ho, show oI (some a) = nI a from rfl, wkx_t (q_reqF1 (by omega)), if_pos (nI_pos' (by omega)), wkb2_t (q_fails0 0), if_pos rfl, wkb1_t (q_breaks G hL), oR_pos ho, gin_t (vp_in_nI (by have := rk_mn (w := gW g) (s := gS g) ha hb; have := mn_le n m; omega) (by decide)), nI_clamp (by omega), (laid_at hL ha hb).1]
      exact ⟨_, _, _, _, _, _, rfl, rfl, Or.inl ⟨rfl, rfl⟩⟩
theorem o_damages {n : Nat} {Tc : Int32} {W S Hh C F g : Nat → Int32} (R : RT n Tc W S Hh C F g) (c x : Int32) (col loads : Nat → Int32) (z : Int32) : ∃ out b c' col' loads' z', f_X10_damages Tc W S x = some out ∧ f_X11_damages g c col loads z x = some (b, c', col', loads', z') ∧ agr [xIAE] out b c' := by
  have T := RT_tr R
  obtain ⟨rfl, G, R1, -⟩ := R
  have hn := G.1
  have h6 := pow64 hn
  unfold f_X10_damages f_X11_damages
  rcases set_or n hn x with h | ⟨m, h0, hm, rfl⟩
  · exact ⟨_, _, _, _, _, _, wkx_e (q_reqS0 hn h), by rw [wkb5_t (q_isWrong0 G h)]; rfl, Or.inr ⟨0, _, rfl, rfl, rfl⟩⟩
  · obtain ⟨c1, l1, e1, hL⟩ := q_isWrong1 (c := c) (col := col) (loads := loads) (z := z) G h0 hm
    rw [wkx_t (q_reqS1 hn h0 hm), wkb1_t (q_damagesOf T hm), wkb5_t e1, if_pos rfl, wkb1_t (q_costs G hL)]
    exact ⟨_, _, _, _, _, _, rfl, rfl, Or.inl ⟨rfl, rfl⟩⟩
theorem o_isCovered {n : Nat} {Tc : Int32} {W S Hh C F g B : Nat → Int32} (R : RT n Tc W S Hh C F g) (hB : B 1 = g 37) (c x : Int32) (col loads : Nat → Int32) (z : Int32) : ∃ out b c' col' loads' z', f_X10_isCovered Tc W S B x = some out ∧ f_X11_isCovered g c col loads z x = some (b, c', col', loads', z') ∧ agr [xIAE] out b c' ∧ (b = 0 ∨ b = 1) := by
  have T := RT_tr R
  obtain ⟨rfl, G, R1, -⟩ := R
  have hn := G.1
  have h6 := pow64 hn
  unfold f_X10_isCovered f_X11_isCovered
  rcases set_or n hn x with h | ⟨m, h0, hm, rfl⟩
  · exact ⟨_, _, _, _, _, _, wkx_e (q_reqS0 hn h), by rw [wkb5_t (q_isWrong0 G h)]; rfl, Or.inr ⟨0, _, rfl, rfl, rfl⟩, Or.inl rfl⟩
  · obtain ⟨c1, l1, e1, hL⟩ := q_isWrong1 (c := c) (col := col) (loads := loads) (z := z) G h0 hm
    rw [wkx_t (q_reqS1 hn h0 hm), wkb1_t (q_damagesOf T hm), wkb5_t e1, if_pos rfl, wkb1_t (q_costs G hL), hB]
    by_cases q : g 37 < nI (dm n (gW g) (gS g) m)
    · rw [if_pos q, if_pos q]
      exact ⟨_, _, _, _, _, _, rfl, rfl, Or.inl ⟨rfl, rfl⟩, Or.inl rfl⟩
    · rw [if_neg q, if_neg q]
      exact ⟨_, _, _, _, _, _, rfl, rfl, Or.inl ⟨rfl, rfl⟩, Or.inr rfl⟩
theorem o_bestHeight {n : Nat} {Tc : Int32} {W S Hh C F g : Nat → Int32} (R : RT n Tc W S Hh C F g) (c : Int32) (col loads : Nat → Int32) (z : Int32) : ∃ b col' loads' z', f_X10_bestHeight Tc W S Hh F = some b ∧ f_X11_bestHeight g c col loads z = some (b, 0, col', loads', z') := by
  have T := RT_tr R
  have hH := RT_h R
  have hF := RT_f R
  obtain ⟨rfl, G, R1, -⟩ := R
  have hn := G.1
  have h6 := pow64 hn
  have hb := bst_lt n (gW g) (gS g) (gH g) (gF g)
  obtain ⟨c1, l1, z1, e1⟩ := q_best (col := col) (loads := loads) (z := z) G
  unfold f_X10_bestHeight f_X11_bestHeight
  rw [wkb1_t (q_highestSet T hH hF), wkb1_t (q_heightOf hn (fun k hk => (hH k hk).1) (by omega)), wkb4_t e1, wkb1_t (q_tall G (by omega))]
  exact ⟨_, _, _, _, rfl, rfl⟩
theorem o_bestHeightBySearch {n : Nat} {Tc : Int32} {W S Hh C F g : Nat → Int32} (R : RT n Tc W S Hh C F g) (c : Int32) (col loads : Nat → Int32) (z : Int32) : ∃ b col' loads' z', f_X10_bestHeightBySearch Tc W S Hh F = some b ∧ f_X11_bestHeightBySearch g c col loads z = some (b, 0, col', loads', z') := by
  have T := RT_tr R
  have hH := RT_h R
  have hF := RT_f R
  obtain ⟨rfl, G, R1, -⟩ := R
  have hn := G.1
  have h6 := pow64 hn
  have hb := bst_lt n (gW g) (gS g) (gH g) (gF g)
  obtain ⟨c1, l1, z1, e1⟩ := q_best (col := col) (loads := loads) (z := z) G
  unfold f_X10_bestHeightBySearch f_X11_bestHeightBySearch
  rw [wkb1_t (q_highestBySearch T hH hF), wkb4_t e1, wkb1_t (q_tall G (by omega))]
  exact ⟨_, _, _, _, rfl, rfl⟩
theorem o_bestColumn {n : Nat} {Tc : Int32} {W S Hh C F g : Nat → Int32} (R : RT n Tc W S Hh C F g) (c : Int32) (col loads : Nat → Int32) (z : Int32) : ∃ b col' loads' z', f_X10_bestColumn Tc W S Hh F = some b ∧ f_X11_bestColumn g c col loads z = some (b, 0, col', loads', z') := by
  have T := RT_tr R
  have hH := RT_h R
  have hF := RT_f R
  obtain ⟨rfl, G, R1, -⟩ := R
  obtain ⟨c1, l1, z1, e1⟩ := q_best (col := col) (loads := loads) (z := z) G
  unfold f_X10_bestColumn f_X11_bestColumn
  rw [wkb1_t (q_highestSet T hH hF), wkb4_t e1]
  exact ⟨_, _, _, _, rfl, rfl⟩
