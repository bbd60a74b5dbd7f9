/-! PURE LAYER: the show -/
theorem div10 : ∀ h, h < 1201 → nI h / 10 = nI (h / 10) := by decide +kernel
theorem tl_ge {n m : Nat} {h : Nat → Nat} (hh : ∀ k, k < n → 100 ≤ h k) : 100 * mn n m ≤ tl n h m := by
  induction n with
  | zero => exact Nat.le_refl _
  | succ n ih =>
    have h1 := ih (fun k hk => hh k (by omega))
    have h2 := hh n (by omega)
    rw [tl_s, mn_s]
    cases m.testBit n with
    | true =>
      rw [if_pos rfl]
      show 100 * (mn n m + 1) ≤ _
      omega
    | false =>
      show 100 * (mn n m + 0) ≤ tl n h m + 0
      omega
theorem mn_mono {k n m : Nat} (h : k ≤ n) : mn k m ≤ mn n m := sm_mono _ h
theorem RC_mono' {n e Bd Bd' : Nat} {c : sC} {g : Nat → Int32} (h : Bd ≤ Bd') (h' : Bd' < 2 ^ 30) (R : RC n e Bd c g) : RC n e Bd' c g := RC_mono h h' R
theorem wages {n m : Nat} (hm : m < 64) (v : Int32) {Tc Ba ni ne sh fa : Int32} {W S Hh C F Bo : Nat → Int32} : ∀ (d k e Bd : Nat) {Be : Int32} {B D Cr A g : Nat → Int32} (_ : RC n e Bd (Tc, W, S, Hh, C, F, Ba, B, Bo, Be, D, Cr, A, ni, ne, sh, fa) g) (nn nn' : Nat), k + d = n → d < nn → d < nn' → e + (mn n m - mn k m) ≤ 60 → Bd + 100 * d < 2 ^ 30 →
    ∃ e' B' D' C' A' g', e' ≤ 60 ∧ f_X3_bookSuccess_L25 Tc Hh C (nI m) nn v (nI k) B Be D Cr A = some (v, B', nI e', D', C', A') ∧ f_X11_stands_L18 (nI m) nn' v (nI k) g = some (v, g') ∧ RC n e' (Bd + 100 * d) (Tc, W, S, Hh, C, F, Ba, B', Bo, nI e', D', C', A', ni, ne, sh, fa) g' := by
  intro d
  induction d with
  | zero =>
    intro k e Bd Be B D Cr A g R nn nn' hk h1 h2 he hBd
    have R' := R
    obtain ⟨R1, R2, R3, R4⟩ := R'
    have hBe : Be = nI e := R2.1
    have hTc : Tc = nI n := R1.1
    have hn := R3.1.1
    obtain rfl : k = n := by omega
    subst hBe hTc
    obtain ⟨p, rfl⟩ : ∃ p, nn = p + 1 := ⟨nn - 1, by omega⟩
    obtain ⟨p', rfl⟩ : ∃ p, nn' = p + 1 := ⟨nn' - 1, by omega⟩
    refine ⟨e, B, D, Cr, A, g, R3.1.2.1, ?_, ?_, R⟩
    · rw [f_X3_bookSuccess_L25, if_pos (nI_le (Nat.le_refl _) (by omega))]
    · rw [f_X11_stands_L18, R1.2.1.2.1, if_pos (nI_le (Nat.le_refl _) (by omega))]
  | succ d ih =>
    intro k e Bd Be B D Cr A g R nn nn' hk h1 h2 he hBd
    have R' := R
    obtain ⟨R1, R2, R3, R4⟩ := R'
    have hBe : Be = nI e := R2.1
    have hTc : Tc = nI n := R1.1
    have hn := R3.1.1
    have hkn : k < n := by omega
    subst hBe hTc
    obtain ⟨p, rfl⟩ : ∃ p, nn = p + 1 := ⟨nn - 1, by omega⟩
    obtain ⟨p', rfl⟩ : ∃ p, nn' = p + 1 := ⟨nn' - 1, by omega⟩
    have hms := mn_s k m
    have hmm := mn_mono (m := m) (show k + 1 ≤ n by omega)
    rw [f_X3_bookSuccess_L25, if_neg (nI_ge hkn (by omega)), wkb1_t (q_isMember hn hm hkn), f_X11_stands_L18, R1.2.1.2.1, if_neg (nI_ge hkn (by omega)), bit1 (by omega) (by omega), nI_1]
    cases hb : m.testBit k with
    | false =>
      rw [hb] at hms
      have hms : mn (k + 1) m = mn k m + 0 := hms
      rw [ifb_f, if_neg (by decide)]
      obtain ⟨e', B', D', C', A', g', q1, q2, q3, q4⟩ := ih (k + 1) e Bd R p p' (by omega) (by omega) (by omega) (by omega) (by omega)
      exact ⟨e', B', D', C', A', g', q1, q2, q3, RC_mono (by omega) hBd q4⟩
    | true =>
      rw [hb] at hms
      have hms : mn (k + 1) m = mn k m + 1 := hms
      have hw := (R1.2.1.2.2 k hkn).2.2.2.1
      have hC : C k = nI (gC g k) := ((R1.2.2.1 k (by omega)).2.2.2.1).trans hw.1
      obtain ⟨B', D', C', A', k1, k2, k3⟩ := RC_book (d := 4) (cr := 5 + k) (a := gC g k) (x := 100) R (by omega) (by omega) (by omega) (by omega) (by omega) (by omega) (fun z => by omega) (by omega) (by omega)
      have e5 : (5 : Int32) + nI k = nI (5 + k) := by rw [show (5 : Int32) = nI 5 from rfl, nI_add]
      obtain ⟨e', B2, D2, C2, A2, g2, q1, q2, q3, q4⟩ := ih (k + 1) (e + 1) (Bd + 100) k3 p p' (by omega) (by omega) (by omega) (by omega) (by omega)
      rw [ifb_t, if_pos (show bI true = 1 from rfl), gin_t (vp_in_nI (by omega) (by decide)), nI_clamp (by omega), e5, hC, wkb6_t (show f_X2_book B (nI e) D Cr A 4 (nI (5 + k)) (nI (gC g k)) = _ from k1), wkb1_t (q_of3 (by omega)), hw.1, wkb1_t (show f_X11_books g 4 (nI (5 + k)) (nI (gC g k)) = _ from k2)]
      exact ⟨e', B2, D2, C2, A2, g2, q1, q2, q3, by rw [show Bd + 100 * (d + 1) = Bd + 100 + 100 * d from by omega]; exact q4⟩
theorem RC_stand {n e Bd m : Nat} {Tc Ba Be ni ne sh fa : Int32} {W S Hh C F B Bo D Cr A g : Nat → Int32} (R : RC n e Bd (Tc, W, S, Hh, C, F, Ba, B, Bo, Be, D, Cr, A, ni, ne, sh, fa) g) (hB : Bd + 19998 < 2 ^ 30) (h0 : 0 < m) (hm : m < 2 ^ n) (he : e + (mn n m + 1) ≤ 60) :
    ∃ b e' B' D' C' A' g', f_X3_bookSuccess Tc Hh C B Be D Cr A (nI m) = some (b, B', nI e', D', C', A') ∧ f_X11_stands g (nI m) = some (b, g') ∧ RC n e' (Bd + 19998) (Tc, W, S, Hh, C, F, Ba, B', Bo, nI e', D', C', A', ni, ne, sh, fa) g' := by
  have R' := R
  obtain ⟨R1, R2, R3, R4⟩ := R'
  have R1 : RT n Tc W S Hh C F g := R1
  have hBe : Be = nI e := R2.1
  have hTc : Tc = nI n := R1.1
  have hn := R3.1.1
  have h6 := pow64 hn
  subst hBe hTc
  have hmn : mn n m ≠ 0 := fun z => by have := mn_0 hm z; omega
  have ht := tl_ge (m := m) (fun k hk => (R1.2.1.2.2 k hk).2.2.1.2.1)
  have ht2 := tl_le (m := m) hn (fun k hk => (R1.2.1.2.2 k hk).2.2.1.2.2)
  obtain ⟨B', D', C', A', k1, k2, k3⟩ := RC_book (d := 0) (cr := 2) (a := tl n (gH g) m / 10) (x := 240) R (by omega) (by omega) (by omega) (by omega) (by omega) (by omega) (fun z => by omega) (by omega) (by omega)
  obtain ⟨e', B2, D2, C2, A2, g2, q1, q2, q3, q4⟩ := wages (m := m) (by omega) (nI (tl n (gH g) m / 10)) n 0 (e + 1) (Bd + 240) k3 FU FU (by omega) (show n < 5000 by omega) (show n < 5000 by omega) (by omega) (by omega)
  refine ⟨nI (tl n (gH g) m / 10), e', B2, D2, C2, A2, g2, ?_, ?_, RC_mono (by omega) hB q4⟩
  · unfold f_X3_bookSuccess
    rw [wkb1_t (q_heightOf hn (fun k hk => (RT_h R1 k hk).1) (by omega)), div10 _ (by omega), wkb6_t (show f_X2_book B (nI e) D Cr A 0 2 (nI (tl n (gH g) m / 10)) = _ from k1)]
    exact q2
  · unfold f_X11_stands
    rw [wkb1_t (q_tall R1.2.1 (by omega)), div10 _ (by omega), wkb1_t (show f_X11_books g 0 2 (nI (tl n (gH g) m / 10)) = _ from k2)]
    exact q3
/-- an entry that is made only if something is to be moved -/
theorem RC_bookz {n e Bd x d cr a : Nat} {Tc Ba Be ni ne sh fa : Int32} {W S Hh C F B Bo D Cr A g : Nat → Int32} (R : RC n e Bd (Tc, W, S, Hh, C, F, Ba, B, Bo, Be, D, Cr, A, ni, ne, sh, fa) g) (he : e + (if a = 0 then 0 else 1) ≤ 60) (hd : d < 5 + n) (hc : cr < 5 + n) (hdc : d ≠ cr) (ha : a < 2 ^ 30) (hcov : cr = 0 ∨ cr = 1 → (a : Int) ≤ gb g cr) (hx : Bd + x < 2 ^ 30)
    (hb : (gb g d + a).natAbs + (gb g cr - a).natAbs ≤ (gb g d).natAbs + (gb g cr).natAbs + x) :
    ∃ B' D' C' A' g', (∀ {γ : Type} (K : (Nat → Int32) → Int32 → (Nat → Int32) → (Nat → Int32) → (Nat → Int32) → Option γ), (if nI a ≤ 0 then K B Be D Cr A else wkb6 (f_X2_book B Be D Cr A (nI d) (nI cr) (nI a)) (fun _ w2 w3 w4 w5 w6 => K w2 w3 w4 w5 w6)) = K B' (nI (e + (if a = 0 then 0 else 1))) D' C' A') ∧ f_X11_books g (nI d) (nI cr) (nI a) = some g' ∧
      RC n (e + (if a = 0 then 0 else 1)) (Bd + x) (Tc, W, S, Hh, C, F, Ba, B', Bo, nI (e + (if a = 0 then 0 else 1)), D', C', A', ni, ne, sh, fa) g' ∧ (∀ j, j < 36 → j ≠ 3 → g' j = g j) ∧ (d ≠ 0 → cr ≠ 0 → g' 36 = g 36) := by
  have hBe : Be = nI e := R.2.1.1
  subst hBe
  by_cases h0 : a = 0
  · subst h0
    refine ⟨B, D, Cr, A, g, fun K => if_pos (by decide), if_pos rfl, RC_mono (by omega) hx R, fun _ _ _ => rfl, fun _ _ => rfl⟩
  · rw [if_neg h0] at he ⊢
    have hn := R.2.2.1.1.1
    obtain ⟨B', D', C', A', k1, k2, k3⟩ := RC_book R (by omega) hd hc hdc (by omega) ha hcov hx hb
    refine ⟨B', D', C', A', _, fun K => ?_, k2, k3, fun j h1 h2 => bkg_lo h1 h2, fun h1 h2 => ?_⟩
    · rw [if_neg (nI_nle (by omega) (by omega)), wkb6_t k1]
    · have := bkg_b (g := g) (d := d) (c := cr) (e := e) (k := 0) (a := nI a) (by decide)
      rw [if_neg (by omega), if_neg (by omega)] at this
      exact this
theorem q_mn {u d : Nat} (hu : u < 2 ^ 30) (hd : d < 2 ^ 30) : (if nI u < nI d then nI u else nI d) = nI (min d u) ∧ f_X11_least (nI d) (nI u) = some (nI (min d u)) := by
  unfold f_X11_least
  by_cases h : u < d
  · rw [if_pos (nI_lt h (by omega)), if_pos (nI_le (by omega) (by omega)), Nat.min_eq_right (by omega)]
    exact ⟨rfl, rfl⟩
  · rw [if_neg (Int32.not_lt.mpr (nI_le (by omega) (by omega)))]
    by_cases h2 : u = d
    · subst h2
      rw [if_pos (nI_le (by omega) (by omega)), Nat.min_self]
      exact ⟨rfl, rfl⟩
    · rw [if_neg (nI_ge (by omega) (by omega)), Nat.min_eq_left (by omega)]
      exact ⟨rfl, rfl⟩
theorem nI_ofI {x : Int32} (h : 0 ≤ x.toInt) (h2 : x.toInt < 2 ^ 30) : ∃ u, u < 2 ^ 30 ∧ x = nI u := by
  have t0 : (0 : Int32).toInt = 0 := rfl
  rcases ix3 x (2 ^ 30) (by decide) with q | ⟨j, hj, q⟩
  · exfalso
    have t1 : (nI (2 ^ 30)).toInt = (2 ^ 30 : Nat) := nI_toInt (by decide)
    rw [Int32.lt_iff_toInt_lt, Int32.le_iff_toInt_le, t0, t1] at q
    omega
  · exact ⟨j, hj, q⟩
theorem q_resv {B : Nat → Int32} {u d : Nat} (h : B 1 = nI u) (hu : u < 2 ^ 30) (hd : d < 2 ^ 30) : f_X3_fromReserve B (nI d) = some (nI (min d u)) := by
  unfold f_X3_fromReserve
  rw [h, (q_mn hu hd).1]
theorem q_cash {B : Nat → Int32} {u u0 d : Nat} (h : B 1 = nI u) (h0 : B 0 = nI u0) (hu : u < 2 ^ 30) (hu0 : u0 < 2 ^ 30) (hd : d < 2 ^ 30) : f_X3_fromCash B (nI d) = some (nI (min (d - min d u) u0)) := by
  unfold f_X3_fromCash
  rw [wkb1_t (q_resv h hu hd), h0, pk_sub (by omega), (q_mn hu0 (by omega)).1]
theorem dm_pos {n m a : Nat} {w s : Nat → Nat} (h : ov n w s m = some a) : a < n ∧ m.testBit a = true ∧ rk n w s m a + 1 < mn n m ∧ dm n w s m = 10 * (mn n m - 1 - rk n w s m a) := by
  obtain ⟨h1, h2, h3, -⟩ := ov_some h
  refine ⟨h1, h2, ?_, dm_1 h⟩
  by_cases hx : ∃ o, o < n ∧ m.testBit o = true ∧ lw w s a o = true
  · obtain ⟨o, k1, k2, k3⟩ := hx
    have q1 := rk_lt (n := n) (w := w) (s := s) h1 h2 k3
    have q2 := rk_mn (w := w) (s := s) k1 k2
    omega
  · exfalso
    have : ld n w s m a = 0 := by
      refine sm_zero (fun o ho => ?_)
      by_cases z : (m.testBit o && lw w s a o) = true
      · rw [Bool.and_eq_true] at z
        exact absurd ⟨o, ho, z.1, z.2⟩ hx
      · rw [if_neg z]
    omega
theorem ov_nI {n m : Nat} {w s : Nat → Nat} {a : Nat} (h : ov n w s m = some a) (hn : n ≤ 6) : ¬ oI (ov n w s m) = -1 := by
  rw [h]
  exact oI_m1 (by have := (dm_pos h).1; omega)
/-- how many entries a show makes -/
def sE (n m d u u0 : Nat) : Nat := if d = 0 then mn n m + 1 else (if min d u = 0 then 0 else 1) + (if min (d - min d u) u0 = 0 then 0 else 1)
theorem q_entries {n m u u0 : Nat} {B g col loads : Nat → Int32} (G : gA n g) (hL : laid n (gW g) (gS g) m col loads) (hm : m < 2 ^ n) (h1 : B 1 = nI u) (h0 : B 0 = nI u0) (g1 : g 37 = nI u) (g0 : g 36 = nI u0) (hu : u < 2 ^ 30) (hu0 : u0 < 2 ^ 30) :
    f_X3_entriesOfShow B (nI m) (nI (dm n (gW g) (gS g) m)) = some (nI (sE n m (dm n (gW g) (gS g) m) u u0)) ∧ f_X11_entriesOf g col loads (nI (mn n m)) = some (nI (sE n m (dm n (gW g) (gS g) m) u u0)) := by
  have hn := G.1
  have hM := mn_le n m
  unfold f_X3_entriesOfShow f_X11_entriesOf sE
  rw [wkb1_t (q_breaks G hL)]
  cases ho : ov n (gW g) (gS g) m with
  | none =>
    rw [dm_0 ho, if_pos rfl, if_pos (show nI 0 = (0 : Int32) from rfl), wkb1_t (q_bitCount hn hm), oR_neg ho, if_neg (by decide), nI_1, show (1 : Int32) = nI 1 from rfl, nI_add, Nat.add_comm 1]
    exact ⟨rfl, rfl⟩
  | some a =>
    obtain ⟨a1, a2, a3, a4⟩ := dm_pos ho
    have hd : dm n (gW g) (gS g) m < 2 ^ 30 := by omega
    have hd0 : dm n (gW g) (gS g) m ≠ 0 := by omega
    have hM2 : ∀ p q, p < 2 ^ 30 → q < 2 ^ 30 → (if nI p ≤ 0 then (if nI q ≤ 0 then some ((0 : Int32) + 0) else some (0 + 1)) else (if nI q ≤ 0 then some (1 + 0) else some (1 + 1))) = some (nI ((if p = 0 then 0 else 1) + (if q = 0 then 0 else 1))) := fun p q hp hq => by
      by_cases z1 : p = 0
      · subst z1
        rw [if_pos (show nI 0 ≤ (0 : Int32) by decide), if_pos rfl]
        by_cases z2 : q = 0
        · subst z2
          rw [if_pos (show nI 0 ≤ (0 : Int32) by decide), if_pos rfl]
          rfl
        · rw [if_neg (nI_nle (by omega) (by omega)), if_neg z2]
          rfl
      · rw [if_neg (nI_nle (by omega) (by omega)), if_neg z1]
        by_cases z2 : q = 0
        · subst z2
          rw [if_pos (show nI 0 ≤ (0 : Int32) by decide), if_pos rfl]
          rfl
        · rw [if_neg (nI_nle (by omega) (by omega)), if_neg z2]
          rfl
    rw [if_neg hd0, if_neg (nI_ne0 (by omega) (by omega)), oR_pos ho, if_pos (show (0 : Int32) ≤ nI (rk n (gW g) (gS g) m a) from nI_le (a := 0) (by omega) (by omega)), wkb1_t (q_costs G hL), wkb1_t (q_resv h1 hu hd), g1, wkb1_t (q_mn hu hd).2, wkb1_t (q_costs G hL), g0, pk_sub (by omega), wkb1_t (q_mn hu0 (by omega)).2, wkb1_t (q_cash h1 h0 hu hu0 hd)]
    rw [wkb1_t (q_cash h1 h0 hu hu0 hd)]
    exact ⟨hM2 _ _ (by omega) (by omega), hM2 _ _ (by omega) (by omega)⟩

theorem RC_fall {n e Bd m a : Nat} {Tc Ba Be ni ne sh fa : Int32} {W S Hh C F B Bo D Cr A g : Nat → Int32} (R : RC n e Bd (Tc, W, S, Hh, C, F, Ba, B, Bo, Be, D, Cr, A, ni, ne, sh, fa) g) (hB : Bd + 19998 < 2 ^ 30) (hm : m < 2 ^ n) (ho : ov n (gW g) (gS g) m = some a) {u u0 : Nat} (g1 : g 37 = nI u) (g0 : g 36 = nI u0) (hu : u < 2 ^ 30) (hu0 : u0 < 2 ^ 30) (he : e + sE n m (dm n (gW g) (gS g) m) u u0 ≤ 60) :
    ∃ b F' e' B' D' C' A' fa' g', f_X3_bookFall Tc W S F B Be D Cr A ne fa (nI m) (nI a) = some (b, F', B', nI e', D', C', A', fa') ∧ (∀ col loads, laid n (gW g) (gS g) m col loads → f_X11_falls g col loads (nI (mn n m)) = some (-b, g')) ∧ RC n e' (Bd + 19998) (Tc, W, S, Hh, C, F', Ba, B', Bo, nI e', D', C', A', ni, ne, sh, fa') g' := by
  have R' := R
  obtain ⟨R1, R2, R3, R4⟩ := R'
  have R1 : RT n Tc W S Hh C F g := R1
  have R4 : RN ni ne sh fa g := R4
  have T := RT_tr R1
  have hTc : Tc = nI n := R1.1
  have hn := R3.1.1
  have h6 := pow64 hn
  have hBe : Be = nI e := R2.1
  have b1 : B 1 = nI u := ((R2.2.2.1 1 (by decide)).1).trans g1
  have b0 : B 0 = nI u0 := ((R2.2.2.1 0 (by decide)).1).trans g0
  obtain ⟨r1, r2, r3, r4, q, hq, r5⟩ := R4
  subst hTc hBe
  obtain ⟨a1, a2, a3, a4⟩ := dm_pos ho
  have hM := mn_le n m
  have hd0 : dm n (gW g) (gS g) m ≠ 0 := by omega
  generalize hdd : dm n (gW g) (gS g) m = d at *
  have hd : d ≤ 60 := by omega
  unfold sE at he
  rw [if_neg hd0] at he
  have gu : gb g 1 = u := by unfold gb; rw [g1]; exact nI_toInt (by omega)
  have gu0 : gb g 0 = u0 := by unfold gb; rw [g0]; exact nI_toInt (by omega)
  obtain ⟨B1, D1, C1, A1, ga, k1, k2, k3, k4, k5⟩ := RC_bookz (d := 3) (cr := 1) (a := min d u) (x := 120) R (by omega) (by omega) (by omega) (by omega) (by omega) (fun _ => by rw [gu]; omega) (by omega) (by omega)
  have ga0 : ga 36 = nI u0 := (k5 (by decide) (by decide)).trans g0
  have gua : gb ga 0 = u0 := by unfold gb; rw [ga0]; exact nI_toInt (by omega)
  obtain ⟨B2, D2, C2, A2, gb2, l1, l2, l3, l4, -⟩ := RC_bookz (d := 3) (cr := 0) (a := min (d - min d u) u0) (x := 120) k3 (by omega) (by omega) (by omega) (by omega) (by omega) (fun _ => by rw [gua]; omega) (by omega) (by omega)
  generalize e + (if min d u = 0 then 0 else 1) + (if min (d - min d u) u0 = 0 then 0 else 1) = e2 at *
  have hlo : ∀ j, j < 36 → j ≠ 3 → gb2 j = g j := fun j h1 h2 => (l4 j h1 h2).trans (k4 j h1 h2)
  have wW : gW gb2 = gW g := gW_cg (fun k hk => hlo _ (by omega) (by omega))
  have wS : gS gb2 = gS g := gS_cg (fun k hk => hlo _ (by omega) (by omega))
  obtain ⟨L1, L2, L3, L4⟩ := l3
  have L1 : RT n (nI n) W S Hh C F gb2 := L1
  have L2 : RB n e2 Ba B2 Bo (nI e2) D2 C2 A2 gb2 := L2
  have hq2 : gb2 2 = nI q := (hlo 2 (by decide) (by decide)).trans r5
  have hp : rk n (gW g) (gS g) m a < mn n m := by omega
  have F53 := fun (col loads : Nat → Int32) (hL : laid n (gW gb2) (gS gb2) m col loads) => q_falls53 (nI d) L1.2.1 hL hp hq hq2
  rw [wW, wS] at F53
  have ne' : ne = nI q := r2.trans r5
  generalize hr : rk n (gW g) (gS g) m a = p0 at *
  have gh : ∀ j, j ≠ 5 → (∀ k, k < n → j ≠ 6 + 5 * k + 4) → upd (injg gb2 n m (p0 + q) (mn n m)) 5 (gb2 5 + nI (mn n m - 1 - p0)) j = gb2 j := fun j h5 hk => (pk_un h5).trans (injg_else hk)
  have gHh : ∀ k, k < n → upd (injg gb2 n m (p0 + q) (mn n m)) 5 (gb2 5 + nI (mn n m - 1 - p0)) (6 + 5 * k + 4) = if m.testBit k = true ∧ p0 + q < rk n (gW g) (gS g) m k then 3 else gb2 (6 + 5 * k + 4) := fun k hk => by
    rw [pk_un (by omega), injg_hurt hk, wW, wS]
    by_cases z : m.testBit k = true ∧ p0 + q < rk n (gW g) (gS g) m k
    · rw [if_pos z, if_pos ⟨z.1, z.2, rk_mn hk z.1⟩]
    · rw [if_neg z, if_neg (fun y => z ⟨y.1, y.2.1⟩)]
  refine ⟨nI d, injF F n m (gW g) (gS g) (p0 + q) n, e2, B2, D2, C2, A2, fa + nI (mn n m - 1 - p0), upd (injg gb2 n m (p0 + q) (mn n m)) 5 (gb2 5 + nI (mn n m - 1 - p0)), ?_, fun col loads hL => ?_, ⟨?_, ?_, ?_, ?_⟩⟩
  · unfold f_X3_bookFall
    rw [wkb1_t (q_countAbove T hm a1 a2), hr, show (10 : Int32) = nI 10 from rfl, pk_mul, show 10 * (mn n m - 1 - p0) = d from by omega, wkb1_t (q_resv b1 hu (by omega)), wkb1_t (q_cash b1 b0 hu hu0 (by omega))]
    have key := k1 (fun B_ E_ D_ C_ A_ => f_X3_bookFall_L49 (nI n) W S ne (nI m) (nI a) (nI (mn n m - 1 - p0)) (nI d) (nI (min (d - min d u) u0)) F B_ E_ D_ C_ A_ fa)
    refine Eq.trans key ?_
    show f_X3_bookFall_L49 (nI n) W S ne (nI m) (nI a) (nI (mn n m - 1 - p0)) (nI d) (nI (min (d - min d u) u0)) F B1 _ D1 C1 A1 fa = _
    unfold f_X3_bookFall_L49
    refine Eq.trans (l1 (fun B_ E_ D_ C_ A_ => f_X3_bookFall_L66 (nI n) W S ne (nI m) (nI a) (nI (mn n m - 1 - p0)) (nI d) F B_ E_ D_ C_ A_ fa)) ?_
    show f_X3_bookFall_L66 (nI n) W S ne (nI m) (nI a) (nI (mn n m - 1 - p0)) (nI d) F B2 _ D2 C2 A2 fa = _
    unfold f_X3_bookFall_L66
    rw [wkl_t, ne', wkb1_t (q_injureBeside T (by omega) a1 hq), hr]
  · unfold f_X11_falls
    have hc := q_costs R1.2.1 hL
    rw [hdd] at hc
    rw [wkb1_t hc, wkb1_t (q_breaks R1.2.1 hL), oR_pos ho, hr, g1, wkb1_t (q_mn hu (by omega)).2, wkb1_t (show f_X11_books g 3 1 (nI (min d u)) = _ from k2), ga0, pk_sub (by omega), wkb1_t (q_mn hu0 (by omega)).2, wkb1_t (show f_X11_books ga 3 0 (nI (min (d - min d u) u0)) = _ from l2)]
    exact F53 col loads hL
  · obtain ⟨t1, ⟨t2, t3, t4⟩, t5, t6⟩ := L1
    have f4 : ∀ k o, o < 4 → upd (injg gb2 n m (p0 + q) (mn n m)) 5 (gb2 5 + nI (mn n m - 1 - p0)) (6 + 5 * k + o) = gb2 (6 + 5 * k + o) := fun k o ho => gh _ (by omega) (fun k' hk' => by omega)
    have f0 : ∀ k, upd (injg gb2 n m (p0 + q) (mn n m)) 5 (gb2 5 + nI (mn n m - 1 - p0)) (6 + 5 * k) = gb2 (6 + 5 * k) := fun k => f4 k 0 (by decide)
    generalize hG : upd (injg gb2 n m (p0 + q) (mn n m)) 5 (gb2 5 + nI (mn n m - 1 - p0)) = G at *
    refine ⟨rfl, ⟨t2, (gh 0 (by decide) (fun k hk => by omega)).trans t3, fun k hk => ?_⟩, fun k hk => ?_, fun k h1 h2 => (gh _ (by omega) (fun k' hk' => by omega)).trans (t6 k h1 h2)⟩
    · obtain ⟨s1, s2, s3, s4, s5, s6⟩ := t4 k hk
      have w1 : gW G k = gW gb2 k := by unfold gW; rw [f0]
      have w2 : gS G k = gS gb2 k := by unfold gS; rw [f4 k 1 (by decide)]
      have w3 : gH G k = gH gb2 k := by unfold gH; rw [f4 k 2 (by decide)]
      have w4 : gC G k = gC gb2 k := by unfold gC; rw [f4 k 3 (by decide)]
      rw [w1, w2, w3, w4, f0, f4 k 1 (by decide), f4 k 2 (by decide), f4 k 3 (by decide)]
      refine ⟨s1, s2, s3, s4, ?_⟩
      unfold gF
      rw [if_pos (show k < 6 by omega), gHh k hk]
      by_cases z : m.testBit k = true ∧ p0 + q < rk n (gW g) (gS g) m k
      · rw [if_pos z]
        exact ⟨rfl, by decide⟩
      · rw [if_neg z]
        have s5' := s5
        unfold gF at s5' s6
        rw [if_pos (show k < 6 by omega)] at s5' s6
        exact ⟨s5', s6⟩
    · obtain ⟨s1, s2, s3, s4, s5⟩ := t5 k hk
      rw [f0, f4 k 1 (by decide), f4 k 2 (by decide), f4 k 3 (by decide)]
      refine ⟨s1, s2, s3, s4, ?_⟩
      show (if k < n ∧ m.testBit k = true ∧ p0 + q < rk n (gW g) (gS g) m k then 3 else F k) = _
      by_cases h : k < n
      · rw [gHh k h]
        by_cases z : m.testBit k = true ∧ p0 + q < rk n (gW g) (gS g) m k
        · rw [if_pos z, if_pos ⟨h, z⟩]
        · rw [if_neg z, if_neg (fun y => z y.2)]
          exact s5
      · rw [if_neg (fun y => h y.1), gh _ (by omega) (fun k' hk' => by omega)]
        exact s5
  · exact RB_hi (fun j hj => gh j (by omega) (fun k hk => by omega)) L2
  · exact gB_hi (fun j hj => gh j (by omega) (fun k hk => by omega)) (gh 3 (by decide) (fun k hk => by omega)) (Nat.le_refl _) hn (gB_mono (by omega) hB L3)
  · have v1 := gh 1 (by decide) (fun k hk => by omega)
    have v2 := gh 2 (by decide) (fun k hk => by omega)
    have v4 := gh 4 (by decide) (fun k hk => by omega)
    refine ⟨?_, ?_, ?_, ?_, q, hq, v2.trans hq2⟩
    · show ni = _
      rw [v1, hlo 1 (by decide) (by decide)]; exact r1
    · show ne = _
      rw [v2, hq2]; exact ne'
    · show sh = _
      rw [v4, hlo 4 (by decide) (by decide)]; exact r3
    · show fa + nI (mn n m - 1 - p0) = _
      rw [pk_us, hlo 5 (by decide) (by decide), show fa = g 5 from r4]

theorem RC_shows {n e Bd : Nat} {Tc Ba Be ni ne sh fa : Int32} {W S Hh C F B Bo D Cr A g : Nat → Int32} (R : RC n e Bd (Tc, W, S, Hh, C, F, Ba, B, Bo, Be, D, Cr, A, ni, ne, sh, fa) g) : RC n e Bd (Tc, W, S, Hh, C, F, Ba, B, Bo, Be, D, Cr, A, ni, ne, sh + 1, fa) (upd g 4 (g 4 + 1)) := by
  obtain ⟨R1, R2, R3, R4⟩ := R
  have R1 : RT n Tc W S Hh C F g := R1
  have R2 : RB n e Ba B Bo Be D Cr A g := R2
  have R4 : RN ni ne sh fa g := R4
  obtain ⟨r1, r2, r3, r4, q0, hq0, r5⟩ := R4
  refine ⟨RT_lo (fun j _ h => pk_un (by omega)) R1, RB_hi (fun j _ => pk_un (by omega)) R2, gB_hi (fun j _ => pk_un (by omega)) (pk_un (by decide)) (Nat.le_refl _) R3.1.1 R3, ?_⟩
  refine ⟨r1.trans (pk_un (by decide)).symm, r2.trans (pk_un (by decide)).symm, ?_, r4.trans (pk_un (by decide)).symm, q0, hq0, (pk_un (by decide)).trans r5⟩
  show sh + 1 = _
  rw [pk_us, r3]
theorem wkb8_t {A1 A2 A3 A4 A5 A6 A7 A8 γ : Type} {o : Option (A1 × A2 × A3 × A4 × A5 × A6 × A7 × A8)} {k : A1 → A2 → A3 → A4 → A5 → A6 → A7 → A8 → Option γ} {a1 : A1} {a2 : A2} {a3 : A3} {a4 : A4} {a5 : A5} {a6 : A6} {a7 : A7} {a8 : A8} (h : o = some (a1, a2, a3, a4, a5, a6, a7, a8)) : wkb8 o k = k a1 a2 a3 a4 a5 a6 a7 a8 := by rw [h]; rfl
theorem q_m77 {n e Bd : Nat} {Tc Ba Be ni ne sh fa : Int32} {W S Hh C F B Bo D Cr A g : Nat → Int32} (R : RC n e Bd (Tc, W, S, Hh, C, F, Ba, B, Bo, Be, D, Cr, A, ni, ne, sh, fa) g) :
    ∃ F' c, f_X3_waitNights Tc F ni 1 = some (c, F', ni + nI 1) ∧ RC n e Bd (Tc, W, S, Hh, C, F', Ba, B, Bo, Be, D, Cr, A, ni + nI 1, ne, sh + 1, fa) (upd (hlg g 1 n) 4 (hlg g 1 n 4 + 1)) ∧ ∀ w x v kp ch cd col loads z, f_X11_show_L77 w x v g kp ch cd col loads z = some (v, upd (hlg g 1 n) 4 (hlg g 1 n 4 + 1), kp, ch, cd, col, loads, z) := by
  obtain ⟨F', k1, k2, k3⟩ := RC_pass (t := 1) R (by decide)
  refine ⟨F', _, k1, RC_shows k3, fun w x v kp ch cd col loads z => ?_⟩
  unfold f_X11_show_L77
  have hn := R.2.2.1.1.1
  have hb : hct (gF g) 1 n ≤ 6 := by
    have := sm_bound (n := n) (c := 1) (f := fun j => (decide (1 < gF g j)).toNat) (fun k _ => Bool.toNat_le _)
    unfold hct
    omega
  rw [wkb2_t (show f_X11_passes g 1 = _ from k2), wkl_t, if_pos (show (0 : Int32) ≤ nI (hct (gF g) 1 n) from nI_le (a := 0) (by omega) (by omega))]
theorem s_show {n e Bd : Nat} {Tc Ba Be ni ne sh fa : Int32} {W S Hh C F B Bo D Cr A g : Nat → Int32} (R : RC n e Bd (Tc, W, S, Hh, C, F, Ba, B, Bo, Be, D, Cr, A, ni, ne, sh, fa) g) (hB : Bd + 19998 < 2 ^ 30) (x1 : Int32) :
    ∃ r, f_X3_refusalToShow Tc W S F B Be x1 = some r ∧ r < 5 ∧ ((∃ y, ym [2, 4, 3] r y ∧ ∀ kp ch w cd col loads z, ∃ col' loads' z', f_X11_show g kp ch w cd col loads z x1 = some (0, g, kp, ch, nI y, col', loads', z')) ∨
      (r = 0 ∧ ∃ b e' F' B' D' C' A' ni' sh' fa' g', f_X3_giveShow Tc W S Hh C F B Be D Cr A ni ne sh fa x1 = some (b, F', B', nI e', D', C', A', ni', sh', fa') ∧ RC n e' (Bd + 19998) (Tc, W, S, Hh, C, F', Ba, B', Bo, nI e', D', C', A', ni', ne, sh', fa') g' ∧
        ∀ kp ch w cd col loads z, ∃ col' loads' z', f_X11_show g kp ch w cd col loads z x1 = wkb3 (f_X11_keeps_g g kp ch w 0) (fun w5 w6 w7 => some (b, g', w5, w6, w7, col', loads', z')))) := by
  have R' := R
  obtain ⟨R1, R2, R3, R4⟩ := R'
  have R1 : RT n Tc W S Hh C F g := R1
  have T := RT_tr R1
  have hTc : Tc = nI n := R1.1
  have hn := R3.1.1
  have he := R3.1.2.1
  have hBd := R3.1.2.2.1
  have h6 := pow64 hn
  have hBe : Be = nI e := R2.1
  have G := R1.2.1
  have hg3 := R3.1.2.2.2
  subst hTc hBe
  unfold f_X3_refusalToShow
  rcases set_or n hn x1 with h | ⟨m, h0, hm, rfl⟩
  · refine ⟨2, by rw [wkb1_t (q_isSet0 hn h)]; rfl, by decide, Or.inl ⟨1, ⟨0, rfl, rfl⟩, fun kp ch w cd col loads z => ⟨col, loads, z, ?_⟩⟩⟩
    unfold f_X11_show
    rw [wkb5_t (q_isWrong0 G h)]
    rfl
  rw [wkb1_t (q_isSet hn h0 hm), if_neg one_ne, wkb1_t (q_fitSet hn (RT_f R1)), nI_and]
  by_cases hf : fo n (gF g) m = true
  case neg =>
    rw [if_neg (fun q => hf ((and_fit hm).mp ((nI_eq (by
      have := @Nat.and_le_left m (fitm (gF g) n)
      omega) (by omega)).mp q)))]
    refine ⟨4, rfl, by decide, Or.inl ⟨2, ⟨1, rfl, rfl⟩, fun kp ch w cd col loads z => ?_⟩⟩
    obtain ⟨c1, l1, e1, hL⟩ := q_isWrong1 (c := cd) (col := col) (loads := loads) (z := z) G h0 hm
    refine ⟨c1, l1, nI (mn n m), ?_⟩
    unfold f_X11_show
    rw [wkb5_t e1, if_pos rfl, wkb1_t (q_areHurt G (by omega)), Bool.eq_false_iff.mpr hf]
    rfl
  rw [if_pos (by rw [(and_fit hm).mpr hf]), wkb1_t (q_damagesOf T hm)]
  have pu : ∃ u, u < 2 ^ 30 ∧ g 37 = nI u := nI_ofI R3.2.1.2.1 (by
    have : (g 37).toInt.natAbs ≤ Bd := gb_abs R3 (k := 1) (by decide)
    omega)
  have pu0 : ∃ u, u < 2 ^ 30 ∧ g 36 = nI u := nI_ofI R3.2.1.1 (by
    have : (g 36).toInt.natAbs ≤ Bd := gb_abs R3 (k := 0) (by decide)
    omega)
  obtain ⟨u, hu, g1⟩ := pu
  obtain ⟨u0, hu0, g0⟩ := pu0
  have b1 : B 1 = nI u := ((R2.2.2.1 1 (by decide)).1).trans g1
  have b0 : B 0 = nI u0 := ((R2.2.2.1 0 (by decide)).1).trans g0
  have hE := fun (col loads : Nat → Int32) (hL : laid n (gW g) (gS g) m col loads) => q_entries (B := B) G hL hm b1 b0 g1 g0 hu hu0
  obtain ⟨c0, l0, -, hL0⟩ := q_isWrong1 (c := 0) (col := g) (loads := g) (z := 0) G h0 hm
  have hM := mn_le n m
  have hE60 : sE n m (dm n (gW g) (gS g) m) u u0 ≤ 60 := by
    unfold sE
    split
    · omega
    · split <;> split <;> omega
  rw [wkb1_t (hE c0 l0 hL0).1, wkb1_t (q_room he hE60)]
  by_cases hr : e + sE n m (dm n (gW g) (gS g) m) u u0 ≤ 60
  case neg =>
    rw [decide_eq_false hr]
    refine ⟨3, rfl, by decide, Or.inl ⟨3, ⟨2, rfl, rfl⟩, fun kp ch w cd col loads z => ?_⟩⟩
    obtain ⟨c1, l1, e1, hL⟩ := q_isWrong1 (c := cd) (col := col) (loads := loads) (z := z) G h0 hm
    refine ⟨c1, l1, nI (mn n m), ?_⟩
    unfold f_X11_show
    rw [wkb5_t e1, if_pos rfl, wkb1_t (q_areHurt G (by omega)), hf, if_pos (show bI (!true) = 0 from rfl), wkb1_t (hE c1 l1 hL).2, hg3, nI_add, if_neg (show ¬ nI (e + sE n m (dm n (gW g) (gS g) m) u u0) ≤ (60 : Int32) from nI_ge (a := 60) (by omega) (by omega))]
    rfl
  rw [decide_eq_true hr, ifb_t]
  have hM1 : ∀ kp ch w cd col loads z, ∃ c1 l1, laid n (gW g) (gS g) m c1 l1 ∧ f_X11_show g kp ch w cd col loads z (nI m) = f_X11_show_L42 w (nI m) 0 g kp ch 0 c1 l1 (nI (mn n m)) := fun kp ch w cd col loads z => by
    obtain ⟨c1, l1, e1, hL⟩ := q_isWrong1 (c := cd) (col := col) (loads := loads) (z := z) G h0 hm
    refine ⟨c1, l1, hL, ?_⟩
    unfold f_X11_show
    rw [wkb5_t e1, if_pos rfl, wkb1_t (q_areHurt G (by omega)), hf, if_pos (show bI (!true) = 0 from rfl), wkb1_t (hE c1 l1 hL).2, hg3, nI_add, if_pos (show nI (e + sE n m (dm n (gW g) (gS g) m) u u0) ≤ (60 : Int32) from nI_le (b := 60) (by omega) (by decide))]
  refine ⟨0, rfl, by decide, Or.inr ⟨rfl, ?_⟩⟩
  cases ho : ov n (gW g) (gS g) m with
  | none =>
    have hr' : e + (mn n m + 1) ≤ 60 := by
      rw [dm_0 ho] at hr
      exact hr
    obtain ⟨b, e', B', D', C', A', g', k1, k2, k3⟩ := RC_stand R hB h0 hm hr'
    obtain ⟨F', c, w1, w2, w3⟩ := q_m77 k3
    refine ⟨b, e', F', B', D', C', A', _, _, fa, _, ?_, w2, fun kp ch w cd col loads z => ?_⟩
    · unfold f_X3_giveShow
      rw [wkl_t, wkb1_t (q_overloadedOf T (by omega)), ho, if_pos (show oI none = -1 from rfl), wkb6_t k1, wkb3_t w1]
    · obtain ⟨c1, l1, hL, e1⟩ := hM1 kp ch w cd col loads z
      refine ⟨c1, l1, nI (mn n m), ?_⟩
      rw [e1]
      unfold f_X11_show_L42
      rw [wkb2_t (q_fails0 0), if_pos rfl]
      refine wkb3_cg (fun p q r => ?_)
      rw [wkb1_t (q_breaks G hL), oR_neg ho, if_neg (by decide), wkb2_t k2, w3]
  | some a =>
    obtain ⟨b, F1, e', B', D', C', A', fa', g', k1, k2, k3⟩ := RC_fall R hB hm ho g1 g0 hu hu0 hr
    obtain ⟨F', c, w1, w2, w3⟩ := q_m77 k3
    refine ⟨-b, e', F', B', D', C', A', _, _, fa', _, ?_, w2, fun kp ch w cd col loads z => ?_⟩
    · unfold f_X3_giveShow
      rw [wkl_t, wkb1_t (q_overloadedOf T (by omega)), if_neg (ov_nI ho hn), ho, show oI (some a) = nI a from rfl, wkb8_t k1, wkb3_t w1]
    · obtain ⟨c1, l1, hL, e1⟩ := hM1 kp ch w cd col loads z
      refine ⟨c1, l1, nI (mn n m), ?_⟩
      rw [e1]
      unfold f_X11_show_L42
      rw [wkb2_t (q_fails0 0), if_pos rfl]
      refine wkb3_cg (fun p q r => ?_)
      rw [wkb1_t (q_breaks G hL), oR_pos ho, if_pos (show (0 : Int32) ≤ nI (rk n (gW g) (gS g) m a) from nI_le (a := 0) (by omega) (by have := rk_le n (gW g) (gS g) m a; omega)), wkb2_t (k2 c1 l1 hL), w3]
