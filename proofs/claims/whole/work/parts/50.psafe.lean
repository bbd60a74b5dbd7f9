/-! PURE LAYER: safety and mean -/
theorem log_b {a k : Nat} (h0 : 0 < a) (h : a < 2 ^ k) : ∃ l, 2 ^ l ≤ a ∧ a < 2 ^ (l + 1) ∧ l < k := by
  refine ⟨a.log2, Nat.log2_self_le (by omega), Nat.lt_log2_self, ?_⟩
  exact (Nat.log2_lt (by omega)).mpr h
theorem i2f_n {a : Nat} (h0 : 0 < a) (h : a < 1024) : ∃ E t, (FP.i2f (nI a)).toNat = n32 E t ∧ t < 8388608 ∧ 127 ≤ E ∧ E ≤ 136 := by
  obtain ⟨l, h1, h2, h3⟩ := log_b (k := 10) h0 h
  have m2 := mul_lt_pow (k := 23) h2 (by omega)
  have m1 := mul_le_pow (k := 23) h1 (by omega)
  refine ⟨l + 127, a * 2 ^ (23 - l) - 8388608, ?_, by omega, by omega, by omega⟩
  show (UInt32.ofNat (FP.Core.fromInt FP.Core.b32 (nI a).toInt)).toNat = _
  rw [nI_toInt (by omega), i32_n h1 h2 (by omega), u32N]
  unfold n32
  omega
theorem i2d_n {a : Nat} (h0 : 0 < a) (h : a < 2 ^ 30) : ∃ E t, (FP.i2d (nI a)).toNat = n64 E t ∧ t < 4503599627370496 ∧ 1023 ≤ E ∧ E ≤ 1052 := by
  obtain ⟨l, h1, h2, h3⟩ := log_b (k := 30) h0 h
  have m2 := mul_lt_pow (k := 52) h2 (by omega)
  have m1 := mul_le_pow (k := 52) h1 (by omega)
  refine ⟨l + 1023, a * 2 ^ (52 - l) - 4503599627370496, ?_, by omega, by omega, by omega⟩
  show (UInt64.ofNat (FP.Core.fromInt FP.Core.b64 (nI a).toInt)).toNat = _
  rw [nI_toInt (by omega), i64_n h1 h2 (by omega), u64N]
  unfold n64
  omega
def Qn (a b : Nat) : Nat := (FP.fdiv (FP.i2f (nI a)) (FP.i2f (nI b))).toNat
theorem Qn_u (a b : Nat) : FP.fdiv (FP.i2f (nI a)) (FP.i2f (nI b)) = UInt32.ofNat (Qn a b) := (UInt32.ofNat_toNat).symm
theorem Qn_p {a b : Nat} (ha : a ≤ 400) (hb0 : 30 ≤ b) (hb : b ≤ 720) : Qn a b = 0 ∨ ∃ E t, Qn a b = n32 E t ∧ t < 8388608 ∧ 60 ≤ E ∧ E ≤ 200 := by
  obtain ⟨F, s, e2, k1, k2, k3⟩ := i2f_n (a := b) (by omega) (by omega)
  have hq : Qn a b = (UInt32.ofNat (FP.Core.div FP.Core.b32 (FP.i2f (nI a)).toNat (FP.i2f (nI b)).toNat)).toNat := rfl
  rw [hq, e2]
  by_cases h0 : a = 0
  · left
    subst h0
    rw [show (FP.i2f (nI 0)).toNat = 0 by decide +kernel]
    unfold FP.Core.div
    rw [de32_0, de32 k1 (by omega) (by omega), quo_fin _ _ _ _ _ (by omega)]
    unfold FP.Core.roundRatio
    rw [if_pos rfl]
    decide +kernel
  · right
    obtain ⟨E, t, e1, h1, h2, h3⟩ := i2f_n (a := a) (by omega) (by omega)
    rw [e1]
    obtain ⟨G, r, e3, h4, h5, h6⟩ := div32 (E1 := E) (E2 := F) h1 k1 (by omega) (by omega) (by omega) (by omega)
    rw [e3]
    exact ⟨G, r, u32N (by unfold n32; omega), h4, by omega, by omega⟩
theorem Qn_P {a b : Nat} (ha : a ≤ 400) (hb0 : 30 ≤ b) (hb : b ≤ 720) : P32 (Qn a b) := by
  rcases Qn_p ha hb0 hb with h | ⟨E, t, h, h1, h2, h3⟩
  · exact Or.inl h
  · exact Or.inr ⟨E, t, h, h1, by omega, by omega⟩
theorem ld_30 {n m a : Nat} {w s : Nat → Nat} (hw : ∀ k, k < n → 30 ≤ w k) (h : ld n w s m a ≠ 0) : 30 ≤ ld n w s m a := by
  by_cases hx : ∃ o, o < n ∧ m.testBit o = true ∧ lw w s a o = true
  · obtain ⟨o, k1, k2, k3⟩ := hx
    have := sm_ge (fun o => if m.testBit o && lw w s a o then w o else 0) k1
    simp only [k2, k3, Bool.and_self, if_true] at this
    have := hw o k1
    unfold ld
    omega
  · exfalso
    refine h (sm_zero (fun o ho => ?_))
    by_cases z : (m.testBit o && lw w s a o) = true
    · rw [Bool.and_eq_true] at z
      exact absurd ⟨o, ho, z.1, z.2⟩ hx
    · rw [if_neg z]
theorem ld_top {n m a : Nat} {w s : Nat → Nat} {col loads : Nat → Int32} (hL : laid n w s m col loads) (hw : ∀ k, k < n → 30 ≤ w k) (ha : a < n) (hb : m.testBit a = true) : ld n w s m a = 0 ↔ rk n w s m a + 1 = mn n m := by
  have hr := rk_mn (w := w) (s := s) ha hb
  constructor
  · intro h
    rcases Nat.lt_or_ge (rk n w s m a + 1) (mn n m) with q | q
    · exfalso
      obtain ⟨o, k1, k2, k3, -⟩ := hL _ q
      have hl : lw w s a o = true := by
        cases z : lw w s a o with
        | true => rfl
        | false =>
          exfalso
          have z2 : lw w s o a = true ∨ o = a := by
            have : ¬ lw w s a o = true := by rw [z]; decide
            rw [lw_iff] at this
            rcases Nat.lt_trichotomy o a with h | h | h
            · left
              rw [lw_iff]
              omega
            · exact Or.inr h
            · left
              rw [lw_iff]
              omega
          rcases z2 with z2 | z2
          · have := rk_lt (n := n) (w := w) (s := s) k1 k2 z2
            omega
          · subst z2
            omega
      have := sm_ge (fun o => if m.testBit o && lw w s a o then w o else 0) k1
      simp only [k2, hl, Bool.and_self, if_true] at this
      have := hw o k1
      unfold ld at h
      omega
    · omega
  · intro h
    refine sm_zero (fun o ho => ?_)
    by_cases z : (m.testBit o && lw w s a o) = true
    · rw [Bool.and_eq_true] at z
      have q1 := rk_lt (n := n) (w := w) (s := s) ha hb z.2
      have q2 := rk_mn (w := w) (s := s) ho z.1
      omega
    · rw [if_neg z]
/-- the least of the class, over the first k acrobats -/
def sfk (n : Nat) (w s : Nat → Nat) (m : Nat) : Nat → Option Nat
  | 0 => none
  | k + 1 => if m.testBit k = true ∧ ld n w s m k ≠ 0 then some ((sfk n w s m k).elim (Qn (s k) (ld n w s m k)) (fun v => if Qn (s k) (ld n w s m k) < v then Qn (s k) (ld n w s m k) else v)) else sfk n w s m k
theorem sfk_none {n m : Nat} {w s : Nat → Nat} : ∀ {k : Nat}, sfk n w s m k = none → ∀ a, a < k → m.testBit a = true → ld n w s m a = 0 := by
  intro k
  induction k with
  | zero => intro _ a ha; omega
  | succ k ih =>
    intro h a ha hb
    rw [sfk] at h
    split at h
    · exact absurd h (by simp)
    · rename_i z
      by_cases q : a = k
      · subst q
        rcases Nat.eq_zero_or_pos (ld n w s m a) with y | y
        · exact y
        · exact absurd ⟨hb, by omega⟩ z
      · exact ih h a (by omega) hb
theorem sfk_some {n m : Nat} {w s : Nat → Nat} : ∀ {k v : Nat}, sfk n w s m k = some v → (∃ a, a < k ∧ m.testBit a = true ∧ ld n w s m a ≠ 0 ∧ v = Qn (s a) (ld n w s m a)) ∧ ∀ a, a < k → m.testBit a = true → ld n w s m a ≠ 0 → v ≤ Qn (s a) (ld n w s m a) := by
  intro k
  induction k with
  | zero => intro v h; exact absurd h (by simp [sfk])
  | succ k ih =>
    intro v h
    rw [sfk] at h
    split at h
    · rename_i z
      injection h with h
      cases hs : sfk n w s m k with
      | none =>
        rw [hs] at h
        have h : Qn (s k) (ld n w s m k) = v := h
        refine ⟨⟨k, by omega, z.1, z.2, h.symm⟩, fun a ha hb hl => ?_⟩
        by_cases q : a = k
        · subst q
          omega
        · exact absurd (sfk_none hs a (by omega) hb) hl
      | some u =>
        rw [hs] at h
        have h : (if Qn (s k) (ld n w s m k) < u then Qn (s k) (ld n w s m k) else u) = v := h
        obtain ⟨⟨a0, i1, i2, i3, i4⟩, i5⟩ := ih hs
        by_cases q : Qn (s k) (ld n w s m k) < u
        · rw [if_pos q] at h
          refine ⟨⟨k, by omega, z.1, z.2, h.symm⟩, fun a ha hb hl => ?_⟩
          by_cases y : a = k
          · subst y
            omega
          · have := i5 a (by omega) hb hl
            omega
        · rw [if_neg q] at h
          refine ⟨⟨a0, by omega, i2, i3, by omega⟩, fun a ha hb hl => ?_⟩
          by_cases y : a = k
          · subst y
            omega
          · have := i5 a (by omega) hb hl
            omega
    · rename_i z
      obtain ⟨⟨a0, i1, i2, i3, i4⟩, i5⟩ := ih h
      refine ⟨⟨a0, by omega, i2, i3, i4⟩, fun a ha hb hl => ?_⟩
      by_cases y : a = k
      · subst y
        exact absurd ⟨hb, hl⟩ z
      · exact i5 a (by omega) hb hl
theorem q_safetyOf {n m : Nat} {W S : Nat → Int32} {w s : Nat → Nat} (T : tr n W S w s) (hw : ∀ k, k < n → 30 ≤ w k) (hm : m < 64) : f_X9_safetyOf (nI n) W S (nI m) = some (UInt32.ofNat ((sfk n w s m n).getD 0)) := by
  have hn := T.1
  unfold f_X9_safetyOf
  have hPk : ∀ k v, k ≤ n → sfk n w s m k = some v → P32 v := fun k v hk h => by
    obtain ⟨⟨a, h1, h2, h3, rfl⟩, -⟩ := sfk_some h
    exact Qn_P (T.2 a (by omega)).2.2.2 (ld_30 hw h3) (ld_le T m a)
  have key := lupF (fun nn (acc : UInt32 × Int32) i => f_X9_safetyOf_L7 (nI n) W S (nI m) nn acc.1 acc.2 i) 0 n (fun k => (UInt32.ofNat ((sfk n w s m k).getD 0), (sfk n w s m k).elim 0 (fun _ => 1))) (some (UInt32.ofNat ((sfk n w s m n).getD 0))) (Nat.zero_le _) (by omega) ?_ ?_
  · exact key
  · intro nn
    show f_X9_safetyOf_L7 (nI n) W S (nI m) (nn + 1) _ _ (nI n) = _
    rw [f_X9_safetyOf_L7, if_pos (nI_le (Nat.le_refl _) (by omega))]
  · intro nn k _ hk
    show f_X9_safetyOf_L7 (nI n) W S (nI m) (nn + 1) (UInt32.ofNat ((sfk n w s m k).getD 0)) ((sfk n w s m k).elim 0 (fun _ => 1)) (nI k) = f_X9_safetyOf_L7 (nI n) W S (nI m) nn (UInt32.ofNat ((sfk n w s m (k + 1)).getD 0)) ((sfk n w s m (k + 1)).elim 0 (fun _ => 1)) (nI (k + 1))
    rw [f_X9_safetyOf_L7, if_neg (nI_ge hk (by omega)), wkb1_t (q_isMember hn hm hk), nI_1, sfk]
    cases hb : m.testBit k with
    | false => rw [ifb_f, if_neg (by simp)]
    | true =>
      rw [ifb_t, wkb1_t (q_loadOf T hm hk)]
      have l7 := ld_le T m k
      by_cases hl : ld n w s m k = 0
      · rw [if_pos (by rw [hl]; rfl), if_neg (by simp [hl])]
      · have hq := Qn_P (T.2 k hk).2.2.2 (ld_30 hw hl) l7
        rw [if_neg (nI_ne0 (by omega) (by omega)), gin_t (vp_in_nI (by omega) (by decide)), nI_clamp (by omega), (T.2 k hk).2.1, Qn_u, gok_t' (ok32 hq), if_pos (show true = true ∧ ld n w s m k ≠ 0 from ⟨rfl, hl⟩)]
        cases hs : sfk n w s m k with
        | none => rw [if_pos (show (none : Option Nat).elim (0 : Int32) (fun _ => 1) = 0 from rfl)]; rfl
        | some v =>
          rw [if_neg (show ¬ (some v).elim (0 : Int32) (fun _ => 1) = 0 from one_ne), show (some v).getD 0 = v from rfl, fcm (hPk k v (by omega) hs) hq]
          by_cases z : Qn (s k) (ld n w s m k) < v
          · rw [if_pos (cmp_gt.mpr z)]
            show _ = f_X9_safetyOf_L7 (nI n) W S (nI m) nn (UInt32.ofNat (if Qn (s k) (ld n w s m k) < v then Qn (s k) (ld n w s m k) else v)) 1 (nI (k + 1))
            rw [if_pos z]
          · rw [if_neg (fun y => z (cmp_gt.mp y))]
            show _ = f_X9_safetyOf_L7 (nI n) W S (nI m) nn (UInt32.ofNat (if Qn (s k) (ld n w s m k) < v then Qn (s k) (ld n w s m k) else v)) 1 (nI (k + 1))
            rw [if_neg z]
/-- the least of the reference, over the first p places -/
def qpl (g col loads : Nat → Int32) (p : Nat) : Nat := Qn (g (6 + 5 * (col p).toNatClampNeg + 1)).toNatClampNeg (loads p).toNatClampNeg
def smk (g col loads : Nat → Int32) : Nat → Nat
  | 0 => 0
  | p + 1 => if p = 0 then qpl g col loads 0 else if smk g col loads p ≤ qpl g col loads p then smk g col loads p else qpl g col loads p
theorem smk_min (g col loads : Nat → Int32) : ∀ p, (∃ j, j < p + 1 ∧ smk g col loads (p + 1) = qpl g col loads j) ∧ ∀ j, j < p + 1 → smk g col loads (p + 1) ≤ qpl g col loads j := by
  intro p
  induction p with
  | zero =>
    refine ⟨⟨0, by decide, rfl⟩, fun j hj => ?_⟩
    obtain rfl : j = 0 := by omega
    exact Nat.le_refl _
  | succ p ih =>
    obtain ⟨⟨j0, i1, i2⟩, i3⟩ := ih
    rw [smk, if_neg (by omega)]
    by_cases z : smk g col loads (p + 1) ≤ qpl g col loads (p + 1)
    · rw [if_pos z]
      refine ⟨⟨j0, by omega, i2⟩, fun j hj => ?_⟩
      by_cases y : j = p + 1
      · subst y; exact z
      · exact i3 j (by omega)
    · rw [if_neg z]
      refine ⟨⟨p + 1, by omega, rfl⟩, fun j hj => ?_⟩
      by_cases y : j = p + 1
      · subst y; exact Nat.le_refl _
      · have := i3 j (by omega)
        omega
theorem qpl_at {n m p : Nat} {g col loads : Nat → Int32} (G : gA n g) (hL : laid n (gW g) (gS g) m col loads) (hp : p < mn n m) : ∃ a, a < n ∧ m.testBit a = true ∧ rk n (gW g) (gS g) m a = p ∧ col p = nI a ∧ loads p = nI (ld n (gW g) (gS g) m a) ∧ g (6 + 5 * a + 1) = nI (gS g a) ∧ gS g a ≤ 400 ∧ qpl g col loads p = Qn (gS g a) (ld n (gW g) (gS g) m a) := by
  obtain ⟨a, h1, h2, h3, h4, h5⟩ := hL p hp
  have hn := G.1
  have hs := (G.2.2 a h1).2.1
  have l7 := ld_le (gA_tr G) m a
  refine ⟨a, h1, h2, h3, h4, h5, hs.1, hs.2, ?_⟩
  unfold qpl
  rw [h4, h5, nI_clamp (by omega), nI_clamp (by omega), hs.1, nI_clamp (by omega)]
theorem q_safe {n m : Nat} {g col loads : Nat → Int32} (G : gA n g) (hL : laid n (gW g) (gS g) m col loads) (hm0 : 1 ≤ mn n m) : f_X11_safe g col loads (nI (mn n m)) = some (UInt32.ofNat (smk g col loads (mn n m - 1))) := by
  have hn := G.1
  have hM := mn_le n m
  have hw : ∀ k, k < n → 30 ≤ gW g k := fun k hk => (G.2.2 k hk).1.2.1
  have hQ : ∀ p, p < mn n m - 1 → P32 (qpl g col loads p) := fun p hp => by
    obtain ⟨a, h1, h2, h3, h4, h5, h6, h7, h8⟩ := qpl_at G hL (show p < mn n m by omega)
    rw [h8]
    exact Qn_P h7 (ld_30 hw (fun z => by have := (ld_top hL hw h1 h2).mp z; omega)) (ld_le (gA_tr G) m a)
  have hPk : ∀ p, p + 1 ≤ mn n m - 1 → P32 (smk g col loads (p + 1)) := fun p hp => by
    obtain ⟨⟨j, j1, j2⟩, -⟩ := smk_min g col loads p
    rw [j2]
    exact hQ j (by omega)
  unfold f_X11_safe
  have key := lupF (fun nn (acc : UInt32) i => f_X11_safe_L4 g col loads (nI (mn n m)) nn acc i) 0 (mn n m - 1) (fun p => UInt32.ofNat (smk g col loads p)) (some (UInt32.ofNat (smk g col loads (mn n m - 1)))) (Nat.zero_le _) (by omega) ?_ ?_
  · exact key
  · intro nn
    show f_X11_safe_L4 g col loads (nI (mn n m)) (nn + 1) _ (nI (mn n m - 1)) = _
    rw [f_X11_safe_L4, show nI (mn n m) - 1 = nI (mn n m - 1) from by rw [show (1 : Int32) = nI 1 from rfl, pk_sub hm0], if_pos (nI_le (Nat.le_refl _) (by omega))]
  · intro nn p _ hp
    show f_X11_safe_L4 g col loads (nI (mn n m)) (nn + 1) (UInt32.ofNat (smk g col loads p)) (nI p) = f_X11_safe_L4 g col loads (nI (mn n m)) nn (UInt32.ofNat (smk g col loads (p + 1))) (nI (p + 1))
    obtain ⟨a, h1, h2, h3, h4, h5, h6, h7, h8⟩ := qpl_at G hL (show p < mn n m by omega)
    have ip : vp_in (nI p) 6 := vp_in_nI (by omega) (by decide)
    rw [f_X11_safe_L4, show nI (mn n m) - 1 = nI (mn n m - 1) from by rw [show (1 : Int32) = nI 1 from rfl, pk_sub hm0], if_neg (nI_ge hp (by omega)), gin_t ip, nI_clamp (by omega), h4, wkb1_t (q_of1 (by omega)), h6, gin_t ip, h5, Qn_u, ← h8, gok_t' (ok32 (hQ p hp)), nI_1, smk]
    by_cases z : p = 0
    · subst z
      rw [if_pos (show nI 0 = (0 : Int32) from rfl), if_pos rfl]
    · obtain ⟨r, rfl⟩ : ∃ r, p = r + 1 := ⟨p - 1, by omega⟩
      rw [if_neg (nI_ne0 (by omega) (by omega)), if_neg z, fcm (hQ _ hp) (hPk r (by omega))]
      by_cases y : smk g col loads (r + 1) ≤ qpl g col loads (r + 1)
      · rw [if_pos (cmp_ge.mpr y), if_pos y]
      · rw [if_neg (fun q => y (cmp_ge.mp q)), if_neg y]
/-- both leasts are one -/
theorem safe_eq {n m : Nat} {g col loads : Nat → Int32} (G : gA n g) (hL : laid n (gW g) (gS g) m col loads) (h2 : 2 ≤ mn n m) : (sfk n (gW g) (gS g) m n).getD 0 = smk g col loads (mn n m - 1) ∧ P32 (smk g col loads (mn n m - 1)) ∧ (smk g col loads (mn n m - 1) = 0 ∨ ∃ E t, smk g col loads (mn n m - 1) = n32 E t ∧ t < 8388608 ∧ 60 ≤ E ∧ E ≤ 200) := by
  have hn := G.1
  have hw : ∀ k, k < n → 30 ≤ gW g k := fun k hk => (G.2.2 k hk).1.2.1
  obtain ⟨r, hr⟩ : ∃ r, mn n m - 1 = r + 1 := ⟨mn n m - 2, by omega⟩
  obtain ⟨⟨j, j1, j2⟩, j3⟩ := smk_min g col loads r
  rw [hr]
  obtain ⟨a, h1, hb, h3, h4, h5, h6, h7, h8⟩ := qpl_at G hL (show j < mn n m by omega)
  have hl : ld n (gW g) (gS g) m a ≠ 0 := fun z => by have := (ld_top hL hw h1 hb).mp z; omega
  have hq := Qn_p h7 (ld_30 hw hl) (ld_le (gA_tr G) m a)
  have hq2 := Qn_P h7 (ld_30 hw hl) (ld_le (gA_tr G) m a)
  rw [← h8, ← j2] at hq hq2
  refine ⟨?_, hq2, hq⟩
  cases hs : sfk n (gW g) (gS g) m n with
  | none => exact absurd (sfk_none hs a h1 hb) hl
  | some v =>
    obtain ⟨⟨b, b1, b2, b3, b4⟩, b5⟩ := sfk_some hs
    have c1 := b5 a h1 hb hl
    have hrb := rk_mn (w := gW g) (s := gS g) b1 b2
    have hrb2 : rk n (gW g) (gS g) m b < r + 1 := by
      have : ¬ rk n (gW g) (gS g) m b + 1 = mn n m := fun z => b3 ((ld_top hL hw b1 b2).mpr z)
      omega
    have c2 := j3 _ hrb2
    obtain ⟨b', k1, k2, k3, k4, k5, k6, k7, k8⟩ := qpl_at G hL hrb
    obtain rfl : b' = b := rk_inj (w := gW g) (s := gS g) k1 b1 k2 b2 k3
    rw [k8, ← b4] at c2
    rw [← h8, ← j2] at c1
    show v = _
    omega
theorem q_several {n m : Nat} (hn : n ≤ 6) (hm : m < 2 ^ n) : f_X10_requireSeveral (nI m) = if 2 ≤ mn n m then some (.inl ()) else some (.inr xARI) := by
  have := mn_le n m
  unfold f_X10_requireSeveral
  rw [wkb1_t (q_bitCount hn hm)]
  by_cases h : 2 ≤ mn n m
  · rw [if_pos h, if_pos (show (2 : Int32) ≤ nI (mn n m) from nI_le (a := 2) h (by omega))]
  · rw [if_neg h, if_neg (show ¬ (2 : Int32) ≤ nI (mn n m) from nI_ge (b := 2) (by omega) (by omega))]
theorem mn_pos {n m : Nat} (h0 : 0 < m) (hm : m < 2 ^ n) : 1 ≤ mn n m := by
  rcases Nat.eq_zero_or_pos (mn n m) with h | h
  · have := mn_0 hm h
    omega
  · exact h
theorem o_safety {n : Nat} {Tc : Int32} {W S Hh C F g : Nat → Int32} (R : RT n Tc W S Hh C F g) (c x : Int32) (col loads : Nat → Int32) (z : Int32) : ∃ out b c' col' loads' z', f_X10_safety Tc W S x = some out ∧ f_X11_safety g c col loads z x = some (b, c', col', loads', z') ∧ agr [xIAE, xARI] out b c' := by
  have T := RT_tr R
  obtain ⟨rfl, G, R1, -⟩ := R
  have hn := G.1
  have h6 := pow64 hn
  unfold f_X10_safety f_X11_safety
  rcases set_or n hn x with h | ⟨m, h0, hm, rfl⟩
  · exact ⟨_, _, _, _, _, _, wkx_e (q_reqS0 hn h), by rw [wkb5_t (q_isWrong0 G h)]; rfl, Or.inr ⟨0, _, rfl, rfl, rfl⟩⟩
  · obtain ⟨c1, l1, e1, hL⟩ := q_isWrong1 (c := c) (col := col) (loads := loads) (z := z) G h0 hm
    have hw : ∀ k, k < n → 30 ≤ gW g k := fun k hk => (G.2.2 k hk).1.2.1
    have hM := mn_le n m
    rw [wkx_t (q_reqS1 hn h0 hm), q_several hn hm, wkb5_t e1, if_pos rfl]
    by_cases h2 : 2 ≤ mn n m
    · rw [if_pos h2, wkx_t rfl, wkb1_t (q_safetyOf T hw (by omega)), if_neg (show ¬ nI (mn n m) = (1 : Int32) from fun q => by have := (nI_eq (b := 1) (by omega) (by omega)).mp q; omega), wkb2_t (q_fails0 0), if_pos rfl, wkb1_t (q_safe G hL (by omega)), (safe_eq G hL h2).1]
      exact ⟨_, _, _, _, _, _, rfl, rfl, Or.inl ⟨rfl, rfl⟩⟩
    · have h1 := mn_pos h0 hm
      rw [if_neg h2, wkx_e rfl, show mn n m = 1 by omega, if_pos (show nI 1 = (1 : Int32) from rfl)]
      exact ⟨_, _, _, _, _, _, rfl, rfl, Or.inr ⟨1, _, rfl, rfl, rfl⟩⟩
theorem o_safetyBits {n : Nat} {Tc : Int32} {W S Hh C F g : Nat → Int32} (R : RT n Tc W S Hh C F g) (c x : Int32) (col loads : Nat → Int32) (z : Int32) : ∃ out b c' col' loads' z', f_X10_safetyBits Tc W S x = some out ∧ f_X11_safetyBits g c col loads z x = some (b, c', col', loads', z') ∧ agr [xIAE, xARI] out b c' := by
  have T := RT_tr R
  obtain ⟨rfl, G, R1, -⟩ := R
  have hn := G.1
  have h6 := pow64 hn
  unfold f_X10_safetyBits f_X11_safetyBits
  rcases set_or n hn x with h | ⟨m, h0, hm, rfl⟩
  · exact ⟨_, _, _, _, _, _, wkx_e (q_reqS0 hn h), by rw [wkb5_t (q_isWrong0 G h)]; rfl, Or.inr ⟨0, _, rfl, rfl, rfl⟩⟩
  · obtain ⟨c1, l1, e1, hL⟩ := q_isWrong1 (c := c) (col := col) (loads := loads) (z := z) G h0 hm
    have hw : ∀ k, k < n → 30 ≤ gW g k := fun k hk => (G.2.2 k hk).1.2.1
    have hM := mn_le n m
    rw [wkx_t (q_reqS1 hn h0 hm), q_several hn hm, wkb5_t e1, if_pos rfl]
    by_cases h2 : 2 ≤ mn n m
    · obtain ⟨s1, s2, s3⟩ := safe_eq G hL h2
      obtain ⟨y, r, b1, b2, b3, b4, b5⟩ := bits32 s3
      rw [if_pos h2, wkx_t rfl, wkb1_t (q_safetyOf T hw (by omega)), if_neg (show ¬ nI (mn n m) = (1 : Int32) from fun q => by have := (nI_eq (b := 1) (by omega) (by omega)).mp q; omega), wkb2_t (q_fails0 0), if_pos rfl, wkb1_t (q_safe G hL (by omega)), s1, b1, gok_t' (ok64 b2), wkb1_t b3, wkb1_t b5, b4]
      exact ⟨_, _, _, _, _, _, rfl, rfl, Or.inl ⟨rfl, rfl⟩⟩
    · have h1 := mn_pos h0 hm
      rw [if_neg h2, wkx_e rfl, show mn n m = 1 by omega, if_pos (show nI 1 = (1 : Int32) from rfl)]
      exact ⟨_, _, _, _, _, _, rfl, rfl, Or.inr ⟨1, _, rfl, rfl, rfl⟩⟩
