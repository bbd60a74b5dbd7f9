/-! PURE LAYER: the changes -/
theorem bt (a b : Nat) (ha : a ≤ b) (hb : b < 2 ^ 30) (x : Int32) : f_X11_in x (nI a) (nI b) = some 0 ∨ ∃ j, a ≤ j ∧ j ≤ b ∧ x = nI j ∧ f_X11_in x (nI a) (nI b) = some 1 := by
  unfold f_X11_in
  have ta : (nI a).toInt = a := nI_toInt (by omega)
  have tb : (nI b).toInt = b := nI_toInt (by omega)
  by_cases h1 : x < nI a
  · exact Or.inl (if_pos h1)
  · rw [if_neg h1]
    by_cases h2 : nI b < x
    · exact Or.inl (if_pos h2)
    · rw [if_neg h2]
      right
      rcases ix3 x (b + 1) (by omega) with h | ⟨j, hj, rfl⟩
      · exfalso
        have t1 : (nI (b + 1)).toInt = (b + 1 : Nat) := nI_toInt (by omega)
        rw [Int32.lt_iff_toInt_lt] at h1 h2
        rcases h with h | h
        · rw [Int32.lt_iff_toInt_lt] at h
          have : (0 : Int32).toInt = 0 := rfl
          omega
        · rw [Int32.le_iff_toInt_le] at h
          omega
      · refine ⟨j, ?_, by omega, rfl, rfl⟩
        have tj : (nI j).toInt = j := nI_toInt (by omega)
        rw [Int32.lt_iff_toInt_lt] at h1
        omega
theorem btw_eq (x a b : Int32) : f_X3_isBetween x a b = f_X11_in x a b := rfl
def ym (L : List Nat) (r y : Nat) : Prop := ∃ i, L[i]? = some r ∧ y = i + 1
def mNo (mdl : (Nat → Int32) → Int32 → Int32 → Int32 → Option (Int32 × (Nat → Int32) × (Nat → Int32) × Int32 × Int32)) (g : Nat → Int32) (y : Nat) : Prop := ∀ kp ch w cd, mdl kp ch w cd = some (0, g, kp, ch, nI y)
def mYes (mdl : (Nat → Int32) → Int32 → Int32 → Int32 → Option (Int32 × (Nat → Int32) × (Nat → Int32) × Int32 × Int32)) (g : Nat → Int32) (b : Int32) (g' : Nat → Int32) : Prop := ∀ kp ch w cd, mdl kp ch w cd = wkb3 (f_X11_keeps_g g kp ch w 0) (fun w5 w6 w7 => some (b, g', w5, w6, w7))
theorem kg_cd (g kp : Nat → Int32) (ch w cd : Int32) : f_X11_keeps_g g kp ch w cd = f_X11_keeps_g g kp ch w 0 := rfl
theorem RT_lo {n : Nat} {Tc : Int32} {W S Hh C F g g' : Nat → Int32} (h : ∀ j, j < 36 → j = 0 ∨ 6 ≤ j → g' j = g j) (R : RT n Tc W S Hh C F g) : RT n Tc W S Hh C F g' := by
  obtain ⟨r1, ⟨g1, g2, g3⟩, r3, r4⟩ := R
  refine ⟨r1, ⟨g1, (h 0 (by decide) (Or.inl rfl)).trans g2, fun k hk => ?_⟩, fun k hk => ?_, fun k h1 h2 => (h _ (by omega) (by omega)).trans (r4 k h1 h2)⟩
  · have := g3 k hk
    unfold gW gS gH gC gF at *
    rw [h (6 + 5 * k) (by omega) (by omega), h (6 + 5 * k + 1) (by omega) (by omega), h (6 + 5 * k + 2) (by omega) (by omega), h (6 + 5 * k + 3) (by omega) (by omega), h (6 + 5 * k + 4) (by omega) (by omega)]
    exact this
  · rw [h (6 + 5 * k) (by omega) (by omega), h (6 + 5 * k + 1) (by omega) (by omega), h (6 + 5 * k + 2) (by omega) (by omega), h (6 + 5 * k + 3) (by omega) (by omega), h (6 + 5 * k + 4) (by omega) (by omega)]
    exact r3 k hk
theorem gB_hi {n n' e Bd : Nat} {g g' : Nat → Int32} (h : ∀ j, 36 ≤ j → g' j = g j) (h3 : g' 3 = g 3) (hn : n ≤ n') (hn' : n' ≤ 6) (G : gB n e Bd g) : gB n' e Bd g' := by
  obtain ⟨⟨g1, g2, g3, g4⟩, ⟨g5, g6, g7, g8, g9⟩, g10, g11⟩ := G
  have hb : ∀ k, k < 11 → gb g' k = gb g k := fun k hk => by unfold gb; rw [h (36 + k) (by omega)]
  have hj : ∀ o k i, js g' o k i = js g o k i := fun o k i => js_congr (fun q hq => ⟨h _ (by omega), h _ (by omega)⟩)
  refine ⟨⟨hn', g2, g3, h3.trans g4⟩, ⟨by rw [hb 0 (by decide)]; exact g5, by rw [hb 1 (by decide)]; exact g6, by rw [sB_cg hb]; exact g7, by rw [sab_cg hb]; exact g8, fun k h1 h2 => (h _ (by omega)).trans (g9 k (by omega) h2)⟩, fun k hk => ?_, fun k hk => ?_⟩
  · rw [h (58 + 3 * k) (by omega), h (58 + 3 * k + 1) (by omega), h (58 + 3 * k + 2) (by omega)]
    obtain ⟨⟨d, hd, e1⟩, ⟨c, hc, e2⟩, a3⟩ := g10 k hk
    exact ⟨⟨d, by omega, e1⟩, ⟨c, by omega, e2⟩, a3⟩
  · rw [h (36 + k) (by omega), h (47 + k) (by omega), hj, hj]
    exact g11 k hk
theorem RB_hi {n e : Nat} {Ba : Int32} {B Bo : Nat → Int32} {Be : Int32} {D C A g g' : Nat → Int32} (h : ∀ j, 36 ≤ j → g' j = g j) (R : RB n e Ba B Bo Be D C A g) : RB n e Ba B Bo Be D C A g' := by
  obtain ⟨r1, r2, r3, r4⟩ := R
  refine ⟨r1, r2, fun k hk => ?_, fun k hk => ?_⟩
  · rw [h (36 + k) (by omega), h (47 + k) (by omega)]
    exact r3 k hk
  · rw [h (58 + 3 * k) (by omega), h (58 + 3 * k + 1) (by omega), h (58 + 3 * k + 2) (by omega)]
    exact r4 k hk
theorem RN_lo {ni ne sh fa : Int32} {g g' : Nat → Int32} (h : ∀ j, j = 1 ∨ j = 2 ∨ j = 4 ∨ j = 5 → g' j = g j) (R : RN ni ne sh fa g) : RN ni ne sh fa g' := by
  obtain ⟨r1, r2, r3, r4, q, hq, r5⟩ := R
  refine ⟨?_, ?_, ?_, ?_, q, hq, ?_⟩
  · rw [h 1 (by decide)]; exact r1
  · rw [h 2 (by decide)]; exact r2
  · rw [h 4 (by decide)]; exact r3
  · rw [h 5 (by decide)]; exact r4
  · rw [h 2 (by decide)]; exact r5
/-- one entry in both -/
theorem RC_book {n e Bd x d cr a : Nat} {Tc Ba Be ni ne sh fa : Int32} {W S Hh C F B Bo D Cr A g : Nat → Int32} (R : RC n e Bd (Tc, W, S, Hh, C, F, Ba, B, Bo, Be, D, Cr, A, ni, ne, sh, fa) g) (he : e < 60) (hd : d < 5 + n) (hc : cr < 5 + n) (hdc : d ≠ cr) (ha0 : 0 < a) (ha : a < 2 ^ 30) (hcov : cr = 0 ∨ cr = 1 → (a : Int) ≤ gb g cr) (hx : Bd + x < 2 ^ 30)
    (hb : (gb g d + a).natAbs + (gb g cr - a).natAbs ≤ (gb g d).natAbs + (gb g cr).natAbs + x) :
    ∃ B' D' C' A', f_X2_book B Be D Cr A (nI d) (nI cr) (nI a) = some (Be, B', nI (e + 1), D', C', A') ∧ f_X11_books g (nI d) (nI cr) (nI a) = some (bkg g d cr (nI a) e) ∧ RC n (e + 1) (Bd + x) (Tc, W, S, Hh, C, F, Ba, B', Bo, nI (e + 1), D', C', A', ni, ne, sh, fa) (bkg g d cr (nI a) e) := by
  obtain ⟨R1, R2, R3, R4⟩ := R
  have R1 : RT n Tc W S Hh C F g := R1
  have R2 : RB n e Ba B Bo Be D Cr A g := R2
  have R4 : RN ni ne sh fa g := R4
  have hn := R1.2.1.1
  obtain ⟨B', D', C', A', h1, h2⟩ := q_bookC (a := nI a) R2 he (by omega : d < 11) (by omega : cr < 11) hdc
  refine ⟨B', D', C', A', h1, q_books R3.1.2.2.2 he (by omega) (by omega) hdc (nI_ne0 ha0 (by omega)), ?_, h2, gB_book R3 he hd hc hdc ha0 ha hcov hx hb, ?_⟩
  · exact RT_lo (fun j h1 h2 => bkg_lo h1 (by omega)) R1
  · exact RN_lo (fun j h => bkg_lo (by omega) (by omega)) R4
theorem q_short {c : Nat} {B g : Nat → Int32} (x : Int32) (hc : c < 11) (hB : B c = g (36 + c)) : f_X2_overdraws B (nI c) x = f_X11_isShort g (nI c) x ∧ (f_X11_isShort g (nI c) x = some 1 ∨ (f_X11_isShort g (nI c) x = some 0 ∧ (c = 0 ∨ c = 1 → x ≤ g (36 + c)))) := by
  unfold f_X2_overdraws f_X11_isShort
  have i1 : vp_in (nI c) 11 := vp_in_nI (by omega) (by decide)
  have i2 : vp_in (nI (36 + c)) 238 := vp_in_nI (by omega) (by decide)
  simp only [e36, gin_t i1, gin_t i2, nI_clamp (show c < 2 ^ 31 by omega), nI_clamp (show 36 + c < 2 ^ 31 by omega), hB]
  by_cases h0 : c = 0
  · subst h0
    rw [if_pos (show nI 0 = (0 : Int32) from rfl)]
    by_cases h : x ≤ g (36 + 0)
    · rw [if_pos h]
      exact ⟨trivial, Or.inr ⟨rfl, fun _ => h⟩⟩
    · rw [if_neg h]
      exact ⟨trivial, Or.inl rfl⟩
  · rw [if_neg (show ¬ nI c = (0 : Int32) from nI_ne0 (by omega) (by omega))]
    by_cases h1 : c = 1
    · subst h1
      rw [if_pos (show nI 1 = (1 : Int32) from rfl)]
      by_cases h : x ≤ g (36 + 1)
      · rw [if_pos h]
        exact ⟨trivial, Or.inr ⟨rfl, fun _ => h⟩⟩
      · rw [if_neg h]
        exact ⟨trivial, Or.inl rfl⟩
    · have z : ¬ nI c = (1 : Int32) := fun e => h1 ((nI_eq (b := 1) (by omega) (by omega)).mp e)
      rw [if_neg z]
      exact ⟨trivial, Or.inr ⟨rfl, fun h => absurd h (by omega)⟩⟩
theorem nI_leG {a : Nat} {y : Int32} (ha : a < 2 ^ 30) (h : nI a ≤ y) : (a : Int) ≤ y.toInt := by
  rw [Int32.le_iff_toInt_le, nI_toInt (by omega)] at h
  exact h
theorem q_room {e k : Nat} (he : e ≤ 60) (hk : k ≤ 60) : f_X2_hasRoomFor (nI e) (nI k) = some (bI (decide (e + k ≤ 60))) := by
  unfold f_X2_hasRoomFor
  rw [nI_add]
  by_cases h : e + k ≤ 60
  · rw [if_neg (show ¬ (60 : Int32) < nI (e + k) from Int32.not_lt.mpr (nI_le (b := 60) (by omega) (by decide))), decide_eq_true h]
    rfl
  · rw [if_pos (show (60 : Int32) < nI (e + k) from nI_lt (a := 60) (b := e + k) (by omega) (by omega)), decide_eq_false h]
    rfl
/-- an entry made by hand: refused or made -/
theorem s_post {n e Bd : Nat} {Tc Ba Be ni ne sh fa : Int32} {W S Hh C F B Bo D Cr A g : Nat → Int32} (R : RC n e Bd (Tc, W, S, Hh, C, F, Ba, B, Bo, Be, D, Cr, A, ni, ne, sh, fa) g) (hB : Bd + 19998 < 2 ^ 30) (x1 x2 x3 : Int32) :
    ∃ r, f_X3_refusalToBook Ba B Be x1 x2 x3 = some r ∧ r < 5 ∧ ((∃ y, ym [1, 2, 3, 4] r y ∧ mNo (fun kp ch w cd => f_X11_post g kp ch w cd x1 x2 x3) g y) ∨
      (r = 0 ∧ ∃ b d cr a B' D' C' A' g', (d < 5 + n ∧ cr < 5 + n ∧ d ≠ cr ∧ 0 < a ∧ a ≤ 9999 ∧ e < 60 ∧ x1 = nI d ∧ x2 = nI cr ∧ x3 = nI a) ∧ f_X2_book B Be D Cr A x1 x2 x3 = some (b, B', nI (e + 1), D', C', A') ∧ RC n (e + 1) (Bd + 19998) (Tc, W, S, Hh, C, F, Ba, B', Bo, nI (e + 1), D', C', A', ni, ne, sh, fa) g' ∧ f_X11_books g x1 x2 x3 = some g' ∧ f_X11_isShort g x2 x3 = some 0 ∧ mYes (fun kp ch w cd => f_X11_post g kp ch w cd x1 x2 x3) g b g')) := by
  have R' := R
  obtain ⟨R1, R2, R3, R4⟩ := R'
  have R1 : RT n Tc W S Hh C F g := R1
  have R2 : RB n e Ba B Bo Be D Cr A g := R2
  have hn := R1.2.1.1
  have hg0 := R1.2.1.2.1
  have hg3 := R3.1.2.2.2
  have he := R3.1.2.1
  have hBa : Ba = nI (5 + n) := R2.2.1
  have hBe : Be = nI e := R2.1
  have hBk := R2.2.2.1
  subst hBa hBe
  unfold f_X3_refusalToBook
  rcases ix3 x1 (5 + n) (by omega) with h | ⟨d, hd, rfl⟩
  · refine ⟨1, by rw [wkb1_t (q_has20 h)]; rfl, by decide, Or.inl ⟨1, ⟨0, rfl, rfl⟩, fun kp ch w cd => ?_⟩⟩
    show f_X11_post g kp ch w cd x1 x2 x3 = _
    unfold f_X11_post
    rw [wkb1_t (q_isAcc0 hn hg0 h)]
    rfl
  rw [wkb1_t (q_has2 (by omega) hd), if_neg one_ne]
  rcases ix3 x2 (5 + n) (by omega) with h | ⟨cr, hc, rfl⟩
  · refine ⟨1, by rw [wkb1_t (q_has20 h)]; rfl, by decide, Or.inl ⟨1, ⟨0, rfl, rfl⟩, fun kp ch w cd => ?_⟩⟩
    show f_X11_post g kp ch w cd (nI d) x2 x3 = _
    unfold f_X11_post
    rw [wkb1_t (q_isAcc1 hn hg0 hd), if_neg one_ne, wkb1_t (q_isAcc0 hn hg0 h)]
    rfl
  rw [wkb1_t (q_has2 (by omega) hc), if_neg one_ne]
  have hM : ∀ kp ch w cd, f_X11_post g kp ch w cd (nI d) (nI cr) x3 = (if nI d = nI cr then
        (f_X11_post_L37 w (nI d) (nI cr) x3 g kp ch cd)
      else
        (wkb1 (f_X11_in x3 1 9999) (fun r8 =>
        if r8 = 0 then
          (f_X11_post_L37 w (nI d) (nI cr) x3 g kp ch cd)
        else
          (if nI e = 60 then
            (f_X11_post_L70 w (nI d) (nI cr) x3 3 g kp ch cd)
          else
            (wkb1 (f_X11_isShort g (nI cr) x3) (fun r12 =>
            if r12 = 0 then
              (f_X11_post_L70 w (nI d) (nI cr) x3 0 g kp ch cd)
            else
              (f_X11_post_L70 w (nI d) (nI cr) x3 4 g kp ch cd))))))) := fun kp ch w cd => by
    unfold f_X11_post
    rw [wkb1_t (q_isAcc1 hn hg0 hd), if_neg one_ne, wkb1_t (q_isAcc1 hn hg0 hc), if_neg one_ne, hg3]
  by_cases hdc : d = cr
  · subst hdc
    refine ⟨2, if_pos rfl, by decide, Or.inl ⟨2, ⟨1, rfl, rfl⟩, fun kp ch w cd => ?_⟩⟩
    show f_X11_post g kp ch w cd (nI d) (nI d) x3 = _
    rw [hM, if_pos rfl]
    rfl
  have z : ¬ nI d = nI cr := fun q => hdc ((nI_eq (by omega) (by omega)).mp q)
  rw [if_neg z, btw_eq]
  rcases bt 1 9999 (by decide) (by decide) x3 with h | ⟨a, ha0, ha, rfl, h⟩
  · have h : f_X11_in x3 1 9999 = some 0 := h
    refine ⟨2, by rw [wkb1_t h]; rfl, by decide, Or.inl ⟨2, ⟨1, rfl, rfl⟩, fun kp ch w cd => ?_⟩⟩
    show f_X11_post g kp ch w cd (nI d) (nI cr) x3 = _
    rw [hM, if_neg z, wkb1_t h]
    rfl
  have h : f_X11_in (nI a) 1 9999 = some 1 := h
  rw [wkb1_t h, if_neg one_ne, wkb1_t (show f_X2_hasRoomFor (nI e) 1 = _ from q_room (k := 1) he (by decide))]
  by_cases he6 : e = 60
  · subst he6
    refine ⟨3, rfl, by decide, Or.inl ⟨3, ⟨2, rfl, rfl⟩, fun kp ch w cd => ?_⟩⟩
    show f_X11_post g kp ch w cd (nI d) (nI cr) (nI a) = _
    rw [hM, if_neg z, wkb1_t h, if_neg one_ne]
    rfl
  have ze : ¬ nI e = (60 : Int32) := fun q => he6 ((nI_eq (b := 60) (by omega) (by omega)).mp q)
  rw [decide_eq_true (show e + 1 ≤ 60 by omega), ifb_t]
  obtain ⟨s1, s2⟩ := q_short (c := cr) (B := B) (g := g) (nI a) (by omega) (hBk cr (by omega)).1
  rw [s1]
  rcases s2 with s2 | ⟨s2, s3⟩
  · refine ⟨4, by rw [wkb1_t s2]; rfl, by decide, Or.inl ⟨4, ⟨3, rfl, rfl⟩, fun kp ch w cd => ?_⟩⟩
    show f_X11_post g kp ch w cd (nI d) (nI cr) (nI a) = _
    rw [hM, if_neg z, wkb1_t h, if_neg one_ne, if_neg ze, wkb1_t s2]
    rfl
  · obtain ⟨B', D', C', A', k1, k2, k3⟩ := RC_book (a := a) (x := 19998) R (by omega) hd hc hdc ha0 (by omega) (fun q => nI_leG (by omega) (s3 q)) hB (by omega)
    refine ⟨0, by rw [wkb1_t s2]; rfl, by decide, Or.inr ⟨rfl, nI e, d, cr, a, B', D', C', A', _, ⟨hd, hc, hdc, ha0, ha, by omega, rfl, rfl, rfl⟩, k1, k3, k2, s2, fun kp ch w cd => ?_⟩⟩
    show f_X11_post g kp ch w cd (nI d) (nI cr) (nI a) = _
    rw [hM, if_neg z, wkb1_t h, if_neg one_ne, if_neg ze, wkb1_t s2, if_pos rfl]
    unfold f_X11_post_L70
    rw [wkb2_t (q_fails0 cd), if_pos rfl, k2]
    show wkb3 _ (fun w5 w6 w7 => some ((bkg g d cr (nI a) e) 3 - 1, _, w5, w6, w7)) = _
    rw [bkg_3, show nI (e + 1) - 1 = nI e from by rw [show (1 : Int32) = nI 1 from rfl, pk_sub (by omega)]; rfl]
theorem s_pay {n e Bd : Nat} {Tc Ba Be ni ne sh fa : Int32} {W S Hh C F B Bo D Cr A g : Nat → Int32} (R : RC n e Bd (Tc, W, S, Hh, C, F, Ba, B, Bo, Be, D, Cr, A, ni, ne, sh, fa) g) (hB : Bd + 19998 < 2 ^ 30) (x1 x2 : Int32) :
    ∃ r, f_X3_refusalToPay Tc Ba B Be x1 x2 = some r ∧ r < 5 ∧ ((∃ y, ym [1, 2, 3, 4] r y ∧ mNo (fun kp ch w cd => f_X11_payOut g kp ch w cd x1 x2) g y) ∨
      (r = 0 ∧ ∃ b B' D' C' A' g', f_X3_pay B Be D Cr A x1 x2 = some (b, B', nI (e + 1), D', C', A') ∧ RC n (e + 1) (Bd + 19998) (Tc, W, S, Hh, C, F, Ba, B', Bo, nI (e + 1), D', C', A', ni, ne, sh, fa) g' ∧ mYes (fun kp ch w cd => f_X11_payOut g kp ch w cd x1 x2) g b g')) := by
  have R' := R
  obtain ⟨R1, R2, R3, R4⟩ := R'
  have R1 : RT n Tc W S Hh C F g := R1
  have R2 : RB n e Ba B Bo Be D Cr A g := R2
  have hn := R1.2.1.1
  have hTc := R1.1
  have hg0 := R1.2.1.2.1
  have hg3 := R3.1.2.2.2
  have he := R3.1.2.1
  have hBa : Ba = nI (5 + n) := R2.2.1
  have hBe : Be = nI e := R2.1
  have hBk := R2.2.2.1
  subst hBa hBe hTc
  unfold f_X3_refusalToPay
  rcases ix3 x1 n (by omega) with h | ⟨j, hj, rfl⟩
  · refine ⟨1, by rw [wkb1_t (q_has0 h)]; rfl, by decide, Or.inl ⟨1, ⟨0, rfl, rfl⟩, fun kp ch w cd => ?_⟩⟩
    show f_X11_payOut g kp ch w cd x1 x2 = _
    unfold f_X11_payOut
    rw [wkb1_t (q_isAcr0 R1.2.1 h)]
    rfl
  rw [wkb1_t (q_has hn hj), if_neg one_ne, show (5 : Int32) + nI j = nI (5 + j) from by rw [show (5 : Int32) = nI 5 from rfl, nI_add]]
  have hM : ∀ kp ch w cd, f_X11_payOut g kp ch w cd (nI j) x2 = (wkb1 (f_X11_in x2 1 9999) (fun r4 =>
    if r4 = 0 then
      (f_X11_payOut_L57 w (nI j) x2 2 g kp ch cd)
    else
      (if nI e = 60 then
        (f_X11_payOut_L57 w (nI j) x2 3 g kp ch cd)
      else
        (wkb1 (f_X11_isShort g (nI 0) x2) (fun r8 =>
        if r8 = 0 then
          (f_X11_payOut_L57 w (nI j) x2 0 g kp ch cd)
        else
          (f_X11_payOut_L57 w (nI j) x2 4 g kp ch cd)))))) := fun kp ch w cd => by
    unfold f_X11_payOut
    rw [wkb1_t (q_isAcr1 R1.2.1 hj), if_neg one_ne, hg3]
    rfl
  have zz : ¬ nI (5 + j) = (0 : Int32) := nI_ne0 (by omega) (by omega)
  unfold f_X3_refusalToBook
  rw [wkb1_t (q_has2 (by omega) (show 5 + j < 5 + n by omega)), if_neg one_ne, wkb1_t (show f_X2_has (nI (5 + n)) 0 = some 1 from q_has2 (k := 0) (by omega) (by omega)), if_neg one_ne, if_neg zz, btw_eq]
  rcases bt 1 9999 (by decide) (by decide) x2 with h | ⟨a, ha0, ha, rfl, h⟩
  · have h : f_X11_in x2 1 9999 = some 0 := h
    refine ⟨2, by rw [wkb1_t h]; rfl, by decide, Or.inl ⟨2, ⟨1, rfl, rfl⟩, fun kp ch w cd => ?_⟩⟩
    show f_X11_payOut g kp ch w cd (nI j) x2 = _
    rw [hM, wkb1_t h]
    rfl
  have h : f_X11_in (nI a) 1 9999 = some 1 := h
  rw [wkb1_t h, if_neg one_ne, wkb1_t (show f_X2_hasRoomFor (nI e) 1 = _ from q_room (k := 1) he (by decide))]
  by_cases he6 : e = 60
  · subst he6
    refine ⟨3, rfl, by decide, Or.inl ⟨3, ⟨2, rfl, rfl⟩, fun kp ch w cd => ?_⟩⟩
    show f_X11_payOut g kp ch w cd (nI j) (nI a) = _
    rw [hM, wkb1_t h, if_neg one_ne]
    rfl
  have ze : ¬ nI e = (60 : Int32) := fun q => he6 ((nI_eq (b := 60) (by omega) (by omega)).mp q)
  rw [decide_eq_true (show e + 1 ≤ 60 by omega), ifb_t]
  obtain ⟨s1, s2⟩ := q_short (c := 0) (B := B) (g := g) (nI a) (by omega) (hBk 0 (by omega)).1
  rw [show f_X2_overdraws B 0 (nI a) = _ from s1]
  rcases s2 with s2 | ⟨s2, s3⟩
  · refine ⟨4, by rw [wkb1_t s2]; rfl, by decide, Or.inl ⟨4, ⟨3, rfl, rfl⟩, fun kp ch w cd => ?_⟩⟩
    show f_X11_payOut g kp ch w cd (nI j) (nI a) = _
    rw [hM, wkb1_t h, if_neg one_ne, if_neg ze, wkb1_t s2]
    rfl
  · obtain ⟨B', D', C', A', k1, k2, k3⟩ := RC_book (d := 5 + j) (cr := 0) (a := a) (x := 19998) R (by omega) (by omega) (by omega) (by omega) ha0 (by omega) (fun q => nI_leG (by omega) (s3 q)) hB (by omega)
    have kb : B' (5 + j) = bkg g (5 + j) 0 (nI a) e (36 + (5 + j)) := by
      have k4 : RB n (e + 1) (nI (5 + n)) B' Bo (nI (e + 1)) D' C' A' _ := k3.2.1
      exact (k4.2.2.1 (5 + j) (by omega)).1
    refine ⟨0, by rw [wkb1_t s2]; rfl, by decide, Or.inr ⟨rfl, B' (5 + j), B', D', C', A', _, ?_, k3, fun kp ch w cd => ?_⟩⟩
    · unfold f_X3_pay
      rw [show (5 : Int32) + nI j = nI (5 + j) from by rw [show (5 : Int32) = nI 5 from rfl, nI_add], wkb6_t (show f_X2_book B (nI e) D Cr A (nI (5 + j)) 0 (nI a) = _ from k1), gin_t (vp_in_nI (by omega) (by decide)), nI_clamp (by omega)]
    · show f_X11_payOut g kp ch w cd (nI j) (nI a) = _
      rw [hM, wkb1_t h, if_neg one_ne, if_neg ze, wkb1_t s2, if_pos rfl]
      unfold f_X11_payOut_L57
      rw [wkb2_t (q_fails0 cd), if_pos rfl, show (5 : Int32) + nI j = nI (5 + j) from by rw [show (5 : Int32) = nI 5 from rfl, nI_add], show (41 : Int32) + nI j = nI (36 + (5 + j)) from by rw [show (41 : Int32) = nI 41 from rfl, nI_add, show 41 + j = 36 + (5 + j) from by omega], show f_X11_books g (nI (5 + j)) 0 (nI a) = _ from k2, kb]
      simp only [gin_t (show vp_in (nI (36 + (5 + j))) 238 from vp_in_nI (by omega) (by decide)), nI_clamp (show 36 + (5 + j) < 2 ^ 31 by omega)]
      rfl
