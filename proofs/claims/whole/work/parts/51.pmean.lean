/-! PURE LAYER: the mean of what is positive -/
def pS (g : Nat → Int32) (k : Nat) : Nat := sm k (fun i => (gb g i).toNat)
def pC (g : Nat → Int32) (k : Nat) : Nat := sm k (fun i => (decide (0 < gb g i)).toNat)
theorem pS_s (g : Nat → Int32) (k : Nat) : pS g (k + 1) = pS g k + (gb g k).toNat := rfl
theorem pC_s (g : Nat → Int32) (k : Nat) : pC g (k + 1) = pC g k + (decide (0 < gb g k)).toNat := rfl
theorem pS_le {n e Bd : Nat} {g : Nat → Int32} (G : gB n e Bd g) {k : Nat} (hk : k ≤ 11) : pS g k ≤ Bd := by
  have h1 : pS g k ≤ pS g 11 := sm_mono _ hk
  have h2 : pS g 11 ≤ sab 11 (gb g) := sm_le (fun i hi => by omega)
  have := G.2.1.2.2.2.1
  omega
theorem pC_le (g : Nat → Int32) (k : Nat) : pC g k ≤ k := by
  have := sm_bound (n := k) (c := 1) (f := fun i => (decide (0 < gb g i)).toNat) (fun i _ => Bool.toNat_le _)
  unfold pC
  omega
theorem pC_S {g : Nat → Int32} : ∀ {k : Nat}, pC g k ≤ pS g k := by
  intro k
  refine sm_le (fun i _ => ?_)
  by_cases h : 0 < gb g i
  · rw [decide_eq_true h]
    show 1 ≤ _
    omega
  · rw [decide_eq_false h]
    exact Nat.zero_le _
/-- past the accounts there is nothing -/
theorem gb_0 {n e Bd : Nat} {g : Nat → Int32} (G : gB n e Bd g) {k : Nat} (h1 : 5 + n ≤ k) (h2 : k < 11) : gb g k = 0 := by
  unfold gb
  rw [G.2.1.2.2.2.2 k h1 h2]
  rfl
theorem pC_hi {n e Bd : Nat} {g : Nat → Int32} (G : gB n e Bd g) : ∀ d, 5 + n + d ≤ 11 → pC g (5 + n + d) = pC g (5 + n) ∧ pS g (5 + n + d) = pS g (5 + n) := by
  intro d
  induction d with
  | zero => intro _; exact ⟨rfl, rfl⟩
  | succ d ih =>
    intro h
    obtain ⟨i1, i2⟩ := ih (by omega)
    rw [← Nat.add_assoc, pC_s, pS_s, i1, i2, gb_0 G (by omega) (by omega)]
    exact ⟨rfl, rfl⟩
theorem pC_11 {n e Bd : Nat} {g : Nat → Int32} (G : gB n e Bd g) : pC g 11 = pC g (5 + n) ∧ pS g 11 = pS g (5 + n) := by
  have hn := G.1.1
  have := pC_hi G (6 - n) (by omega)
  rwa [show 5 + n + (6 - n) = 11 by omega] at this
theorem gb_le0 {g : Nat → Int32} {k : Nat} : g (36 + k) ≤ 0 ↔ ¬ 0 < gb g k := by
  unfold gb
  rw [Int32.le_iff_toInt_le, show (0 : Int32).toInt = 0 from rfl]
  omega
theorem gb_nI {n e Bd : Nat} {g : Nat → Int32} (G : gB n e Bd g) {k : Nat} (hk : k < 11) (h : 0 < gb g k) : g (36 + k) = nI (gb g k).toNat := by
  have hb := gb_abs G hk
  have hB := G.1.2.2.1
  obtain ⟨u, hu, e1⟩ := nI_ofI (x := g (36 + k)) (by unfold gb at h; omega) (by unfold gb at hb; omega)
  unfold gb
  rw [e1, nI_toInt (by omega), Int.toNat_natCast]
theorem q_posCount {n e Bd : Nat} {B g : Nat → Int32} (G : gB n e Bd g) (hB : ∀ k, k < 11 → B k = g (36 + k)) : f_X2_positiveCount (nI (5 + n)) B = some (nI (pC g (5 + n))) := by
  have hn := G.1.1
  unfold f_X2_positiveCount
  have key := lupF (fun nn (acc : Int32) i => f_X2_positiveCount_L4 (nI (5 + n)) B nn acc i) 0 (5 + n) (fun k => nI (pC g k)) (some (nI (pC g (5 + n)))) (Nat.zero_le _) (by omega) ?_ ?_
  · exact key
  · intro nn
    show f_X2_positiveCount_L4 (nI (5 + n)) B (nn + 1) _ (nI (5 + n)) = _
    rw [f_X2_positiveCount_L4, if_pos (nI_le (Nat.le_refl _) (by omega))]
  · intro nn k _ hk
    show f_X2_positiveCount_L4 (nI (5 + n)) B (nn + 1) (nI (pC g k)) (nI k) = f_X2_positiveCount_L4 (nI (5 + n)) B nn (nI (pC g (k + 1))) (nI (k + 1))
    rw [f_X2_positiveCount_L4, if_neg (nI_ge hk (by omega)), gin_t (vp_in_nI (by omega) (by decide)), nI_clamp (by omega), hB k (by omega), nI_1, nI_1, pC_s]
    by_cases h : 0 < gb g k
    · rw [if_neg (fun q => (gb_le0.mp q) h), decide_eq_true h]
      rfl
    · rw [if_pos (gb_le0.mpr h), decide_eq_false h]
      rfl
def mnD (g : Nat → Int32) : Option UInt64 := if pC g 11 = 0 then some FP.dconst0 else some (FP.ddiv (FP.i2d (nI (pS g 11))) (FP.i2d (nI (pC g 11))))
theorem mnD_x {n e Bd : Nat} {g : Nat → Int32} (G : gB n e Bd g) (h : pC g 11 ≠ 0) : ∃ x, FP.ddiv (FP.i2d (nI (pS g 11))) (FP.i2d (nI (pC g 11))) = UInt64.ofNat x ∧ P64 x ∧ ∃ E t, x = n64 E t ∧ t < 4503599627370496 ∧ 950 ≤ E ∧ E ≤ 1100 := by
  have h1 := pC_le g 11
  have h2 := pC_S (g := g) (k := 11)
  have h3 := pS_le G (k := 11) (by decide)
  have h4 := G.1.2.2.1
  obtain ⟨E, t, e1, t1, a1, a2⟩ := i2d_n (a := pS g 11) (by omega) (by omega)
  obtain ⟨F, s, e2, s1, b1, b2⟩ := i2d_n (a := pC g 11) (by omega) (by omega)
  have hq : FP.ddiv (FP.i2d (nI (pS g 11))) (FP.i2d (nI (pC g 11))) = UInt64.ofNat (FP.Core.div FP.Core.b64 (FP.i2d (nI (pS g 11))).toNat (FP.i2d (nI (pC g 11))).toNat) := rfl
  obtain ⟨H, r, e3, r1, c1, c2⟩ := div64 (E1 := E) (E2 := F) t1 s1 (by omega) (by omega) (by omega) (by omega)
  rw [hq, e1, e2, e3]
  have hF : F ≤ 1027 := by
    rcases Nat.lt_or_ge F 1028 with h | h
    · omega
    · exfalso
      have hv : FP.Core.fromInt FP.Core.b64 ((pC g 11 : Nat) : Int) = n64 F s := by
        have : (FP.i2d (nI (pC g 11))).toNat = (UInt64.ofNat (FP.Core.fromInt FP.Core.b64 (nI (pC g 11)).toInt)).toNat := rfl
        rw [e2, nI_toInt (by omega)] at this
        obtain ⟨l, l1, l2, l3⟩ := log_b (a := pC g 11) (k := 4) (by omega) (by omega)
        rw [i64_n l1 l2 (by omega)] at this ⊢
        have m2 := mul_lt_pow (k := 52) l2 (by omega)
        rw [u64N (by unfold n64; omega)] at this
        exact this.symm
      obtain ⟨l, l1, l2, l3⟩ := log_b (a := pC g 11) (k := 4) (by omega) (by omega)
      have m2 := mul_lt_pow (k := 52) l2 (by omega)
      rw [i64_n l1 l2 (by omega)] at hv
      unfold n64 at hv
      omega
  exact ⟨n64 H r, rfl, n64_P r1 (by omega) (by omega), H, r, rfl, r1, by omega, by omega⟩
theorem q_meanC {n e Bd : Nat} {B g : Nat → Int32} (G : gB n e Bd g) (hB : ∀ k, k < 11 → B k = g (36 + k)) : f_X2_meanOfPositive (nI (5 + n)) B = mnD g := by
  have hn := G.1.1
  have hBd := G.1.2.2.1
  have hC := pC_le g (5 + n)
  obtain ⟨e1, e2⟩ := pC_11 G
  unfold f_X2_meanOfPositive
  rw [wkb1_t (q_posCount G hB)]
  have key := lupF (fun nn (acc : Int32) i => f_X2_meanOfPositive_L9 (nI (5 + n)) B nn (nI (pC g (5 + n))) acc i) 0 (5 + n) (fun k => nI (pS g k)) (mnD g) (Nat.zero_le _) (by omega) ?_ ?_
  · exact key
  · intro nn
    show f_X2_meanOfPositive_L9 (nI (5 + n)) B (nn + 1) (nI (pC g (5 + n))) (nI (pS g (5 + n))) (nI (5 + n)) = _
    rw [f_X2_meanOfPositive_L9, if_pos (nI_le (Nat.le_refl _) (by omega)), ← e1, ← e2]
    unfold mnD
    by_cases h : pC g 11 = 0
    · rw [if_pos h, if_pos (show nI (pC g 11) = (0 : Int32) from by rw [h]; rfl)]
    · obtain ⟨x, x1, x2, -⟩ := mnD_x G h
      rw [if_neg h, if_neg (nI_ne0 (by omega) (by omega)), x1, gok_t' (ok64 x2)]
  · intro nn k _ hk
    show f_X2_meanOfPositive_L9 (nI (5 + n)) B (nn + 1) (nI (pC g (5 + n))) (nI (pS g k)) (nI k) = f_X2_meanOfPositive_L9 (nI (5 + n)) B nn (nI (pC g (5 + n))) (nI (pS g (k + 1))) (nI (k + 1))
    rw [f_X2_meanOfPositive_L9, if_neg (nI_ge hk (by omega)), gin_t (vp_in_nI (by omega) (by decide)), wkl_t, nI_clamp (by omega), hB k (by omega), nI_1, pS_s]
    by_cases h : 0 < gb g k
    · rw [if_pos (Int32.not_le.mp (fun q => (gb_le0.mp q) h)), gb_nI G (by omega) h, nI_add]
    · rw [if_neg (Int32.not_lt.mpr (gb_le0.mpr h)), Int.toNat_of_nonpos (by omega), Int32.add_zero]
      rfl
theorem q_meanM {n e Bd : Nat} {g : Nat → Int32} (G : gB n e Bd g) : f_X11_mean g = mnD g := by
  have hn := G.1.1
  have hBd := G.1.2.2.1
  have hC := pC_le g 11
  unfold f_X11_mean
  have key := lupF (fun nn (acc : Int32 × Int32) i => f_X11_mean_L6 g nn acc.1 acc.2 i) 0 11 (fun k => (nI (pS g k), nI (pC g k))) (mnD g) (Nat.zero_le _) (by decide) ?_ ?_
  · exact key
  · intro nn
    show f_X11_mean_L6 g (nn + 1) (nI (pS g 11)) (nI (pC g 11)) (nI 11) = _
    rw [f_X11_mean_L6, if_pos (show (11 : Int32) ≤ nI 11 by decide)]
    unfold mnD
    by_cases h : pC g 11 = 0
    · rw [if_pos h, if_pos (show nI (pC g 11) = (0 : Int32) from by rw [h]; rfl)]
    · obtain ⟨x, x1, x2, -⟩ := mnD_x G h
      rw [if_neg h, if_neg (nI_ne0 (by omega) (by omega)), x1, gok_t' (ok64 x2)]
  · intro nn k _ hk
    show f_X11_mean_L6 g (nn + 1) (nI (pS g k)) (nI (pC g k)) (nI k) = f_X11_mean_L6 g nn (nI (pS g (k + 1))) (nI (pC g (k + 1))) (nI (k + 1))
    have ik : vp_in (nI (36 + k)) 238 := vp_in_nI (by omega) (by decide)
    rw [f_X11_mean_L6, if_neg (show ¬ (11 : Int32) ≤ nI k from nI_ge (b := 11) hk (by decide)), e36, gin_t ik, nI_clamp (by omega), pS_s, pC_s]
    unfold f_X11_mean_L38
    rw [e36, gin_t ik, nI_clamp (by omega), gin_t ik, gin_t ik]
    by_cases h : 0 < gb g k
    · rw [if_neg (fun q => (gb_le0.mp q) h), if_neg (fun q => (gb_le0.mp q) h), gb_nI G (by omega) h, nI_add, decide_eq_true h, nI_1, nI_1]
      rfl
    · rw [if_pos (gb_le0.mpr h), if_pos (gb_le0.mpr h), decide_eq_false h, Int.toNat_of_nonpos (by omega), nI_1, Int32.add_zero, Int32.add_zero]
      rfl
theorem q_nonePos {n e Bd : Nat} {g : Nat → Int32} (G : gB n e Bd g) : f_X11_isNonePositive g = some (if pC g 11 = 0 then 1 else 0) := by
  unfold f_X11_isNonePositive
  have key : ∀ d k nn, k + d = 11 → d < nn → pC g k = 0 → f_X11_isNonePositive_L2 g nn (nI k) = some (if pC g 11 = 0 then 1 else 0) := by
    intro d
    induction d with
    | zero =>
      intro k nn hk hn hz
      obtain ⟨p, rfl⟩ : ∃ p, nn = p + 1 := ⟨nn - 1, by omega⟩
      obtain rfl : k = 11 := by omega
      rw [f_X11_isNonePositive_L2, if_pos (show (11 : Int32) ≤ nI 11 by decide), if_pos hz]
    | succ d ih =>
      intro k nn hk hn hz
      obtain ⟨p, rfl⟩ : ∃ p, nn = p + 1 := ⟨nn - 1, by omega⟩
      rw [f_X11_isNonePositive_L2, if_neg (show ¬ (11 : Int32) ≤ nI k from nI_ge (b := 11) (by omega) (by decide)), e36, gin_t (vp_in_nI (by omega) (by decide)), nI_clamp (by omega), nI_1]
      by_cases h : 0 < gb g k
      · rw [if_neg (fun q => (gb_le0.mp q) h), if_neg (fun q => ?_)]
        have h1 : pC g (k + 1) ≤ pC g 11 := sm_mono _ (by omega)
        rw [pC_s, decide_eq_true h] at h1
        have h1 : pC g k + 1 ≤ pC g 11 := h1
        omega
      · rw [if_pos (gb_le0.mpr h)]
        refine ih (k + 1) p (by omega) (by omega) ?_
        rw [pC_s, decide_eq_false h, hz]
        rfl
  exact key 11 0 FU (by decide) (by decide) rfl
theorem o_meanPositive {n e Bd : Nat} {Ba : Int32} {B Bo : Nat → Int32} {Be : Int32} {D C A g : Nat → Int32} (G : gB n e Bd g) (R : RB n e Ba B Bo Be D C A g) (c : Int32) : ∃ out b c', f_X10_meanPositive Ba B = some out ∧ f_X11_meanPositive g c = some (b, c') ∧ agr [xARI] out b c' := by
  obtain ⟨rfl, rfl, R1, -⟩ := R
  have hB : ∀ k, k < 11 → B k = g (36 + k) := fun k hk => (R1 k hk).1
  have hC := pC_le g 11
  obtain ⟨e1, e2⟩ := pC_11 G
  unfold f_X10_meanPositive f_X11_meanPositive f_X10_requirePositiveBalance
  rw [wkb1_t (q_posCount G hB), wkb1_t (q_nonePos G), ← e1]
  by_cases h : pC g 11 = 0
  · rw [if_pos (show nI (pC g 11) = (0 : Int32) from by rw [h]; rfl), if_pos h]
    exact ⟨_, _, _, wkx_e rfl, rfl, Or.inr ⟨0, _, rfl, rfl, rfl⟩⟩
  · have hm : mnD g = some (FP.ddiv (FP.i2d (nI (pS g 11))) (FP.i2d (nI (pC g 11)))) := if_neg h
    rw [if_neg (nI_ne0 (by omega) (by omega)), if_neg h, wkx_t rfl, if_pos rfl, wkb2_t (q_fails0 c), if_pos rfl, wkb1_t ((q_meanC G hB).trans hm), wkb1_t ((q_meanM G).trans hm)]
    exact ⟨_, _, _, rfl, rfl, Or.inl ⟨rfl, rfl⟩⟩
theorem o_meanPositiveBits {n e Bd : Nat} {Ba : Int32} {B Bo : Nat → Int32} {Be : Int32} {D C A g : Nat → Int32} (G : gB n e Bd g) (R : RB n e Ba B Bo Be D C A g) (c : Int32) : ∃ out b c', f_X10_meanPositiveBits Ba B = some out ∧ f_X11_meanPositiveBits g c = some (b, c') ∧ agr [xARI] out b c' := by
  obtain ⟨rfl, rfl, R1, -⟩ := R
  have hB : ∀ k, k < 11 → B k = g (36 + k) := fun k hk => (R1 k hk).1
  have hC := pC_le g 11
  obtain ⟨e1, e2⟩ := pC_11 G
  unfold f_X10_meanPositiveBits f_X11_meanPositiveBits f_X10_requirePositiveBalance
  rw [wkb1_t (q_posCount G hB), wkb1_t (q_nonePos G), ← e1]
  by_cases h : pC g 11 = 0
  · rw [if_pos (show nI (pC g 11) = (0 : Int32) from by rw [h]; rfl), if_pos h]
    exact ⟨_, _, _, wkx_e rfl, rfl, Or.inr ⟨0, _, rfl, rfl, rfl⟩⟩
  · have hm : mnD g = some (FP.ddiv (FP.i2d (nI (pS g 11))) (FP.i2d (nI (pC g 11)))) := if_neg h
    obtain ⟨x, x1, x2, x3⟩ := mnD_x G h
    obtain ⟨b1, b2⟩ := bits64 (Or.inr x3)
    rw [if_neg (nI_ne0 (by omega) (by omega)), if_neg h, wkx_t rfl, if_pos rfl, wkb2_t (q_fails0 c), if_pos rfl, wkb1_t ((q_meanC G hB).trans hm), wkb1_t ((q_meanM G).trans hm), x1, wkb1_t b1, wkb1_t b2]
    exact ⟨_, _, _, rfl, rfl, Or.inl ⟨rfl, rfl⟩⟩
