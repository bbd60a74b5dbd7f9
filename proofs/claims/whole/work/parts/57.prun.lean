/-! PURE LAYER: a script run by both -/
theorem q_rem2 {Bd : Nat} {Hc : Nat → sC} {Hn Hk : Int32} {kp : Nat → Int32} {ch : Nat} (R : RH Bd Hc Hn Hk kp ch) (c : sC) (g : Nat → Int32) (Rc : RCt Bd c g) :
    ∃ (Hc1 : Nat → sC) (Hn' : Int32), f_X5_note Hc Hn c.1 c.2.1 c.2.2.1 c.2.2.2.1 c.2.2.2.2.1 c.2.2.2.2.2.1 c.2.2.2.2.2.2.1 c.2.2.2.2.2.2.2.1 c.2.2.2.2.2.2.2.2.1 c.2.2.2.2.2.2.2.2.2.1 c.2.2.2.2.2.2.2.2.2.2.1 c.2.2.2.2.2.2.2.2.2.2.2.1 c.2.2.2.2.2.2.2.2.2.2.2.2.1 c.2.2.2.2.2.2.2.2.2.2.2.2.2.1 c.2.2.2.2.2.2.2.2.2.2.2.2.2.2.1 c.2.2.2.2.2.2.2.2.2.2.2.2.2.2.2.1 c.2.2.2.2.2.2.2.2.2.2.2.2.2.2.2.2 = some Hc1 ∧ f_X5_keep Hn Hk = some (Hn', nI (kch ch)) ∧ RH Bd Hc1 Hn' (nI (kch ch)) (kpt kp g ch) (kch ch) ∧ RH Bd Hc1 Hn Hk kp ch ∧
      ∀ c' : sC, ∃ c'' : sC, f_X5_takeBack Hc1 Hn c'.1 c'.2.1 c'.2.2.1 c'.2.2.2.1 c'.2.2.2.2.1 c'.2.2.2.2.2.1 c'.2.2.2.2.2.2.1 c'.2.2.2.2.2.2.2.1 c'.2.2.2.2.2.2.2.2.1 c'.2.2.2.2.2.2.2.2.2.1 c'.2.2.2.2.2.2.2.2.2.2.1 c'.2.2.2.2.2.2.2.2.2.2.2.1 c'.2.2.2.2.2.2.2.2.2.2.2.2.1 c'.2.2.2.2.2.2.2.2.2.2.2.2.2.1 c'.2.2.2.2.2.2.2.2.2.2.2.2.2.2.1 c'.2.2.2.2.2.2.2.2.2.2.2.2.2.2.2.1 c'.2.2.2.2.2.2.2.2.2.2.2.2.2.2.2.2 = some c'' ∧ RCt Bd c'' g := by
  obtain ⟨Hc', Hn', m1, m2⟩ := q_remember R c g Rc
  obtain ⟨h1, rfl, nx, h3, rfl, h5⟩ := id R
  unfold f_X5_remember at m1
  rw [wkb1_t (q_note h3 c), wkb2_t (q_keep h3 h1)] at m1
  injection m1 with m1
  injection m1 with e1 m1
  injection m1 with e2 m1
  subst e1 e2
  refine ⟨_, _, q_note h3 c, q_keep h3 h1, m2, ⟨h1, rfl, nx, h3, rfl, fun i hi => ?_⟩, fun c' => ⟨cpC c' (cpC (Hc nx) c), ?_, ?_⟩⟩
  · rw [va_up_at, if_neg (by omega)]
    exact h5 i hi
  · unfold f_X5_takeBack
    rw [gin_t (vp_in_nI (by omega) (by decide)), nI_clamp (by omega), wkb17_t (q_copy3 c' (va_up Hc nx (cpC (Hc nx) c) nx)), va_up_at, if_pos rfl]
  · obtain ⟨n, e, Rc⟩ := Rc
    exact ⟨n, e, RC_copy (RC_copy Rc)⟩
theorem q_runs {Bd cnt ch : Nat} {Cm : Nat → Option Nat} {Sa t kp bf tx : Nat → Int32} {Hc1 : Nat → sC} {Hn Hk Lf Lc Zml Zn Sp Sac len fault failed at_ : Int32} {Zm : Nat} {Zf : Nat → Int32} (hcnt : cnt ≤ 11) (hB : Bd + 19998 * 12 < 2 ^ 30)
    (hst : ∀ j, j < cnt → ∀ Bd (c : sC) g, RCt Bd c g → Bd + 19998 < 2 ^ 30 → stepG Cm Sa t j Bd c g) : ∀ d j (c : sC) (g : Nat → Int32) (x3 : Int32) (col loads : Nat → Int32) (z : Int32) nn nn', j + d = cnt → d < nn → d + 2 < nn' → RCt (Bd + 19998 * j) c g →
    (∃ (c' : sC) (g' : Nat → Int32) (x3' : Int32) (col' loads' : Nat → Int32) (z' : Int32), RCt (Bd + 19998 * cnt) c' g' ∧
        f_X10_runScript_L49 nn (nI j) Lf Lc c.1 c.2.1 c.2.2.1 c.2.2.2.1 c.2.2.2.2.1 c.2.2.2.2.2.1 c.2.2.2.2.2.2.1 c.2.2.2.2.2.2.2.1 c.2.2.2.2.2.2.2.2.1 c.2.2.2.2.2.2.2.2.2.1 c.2.2.2.2.2.2.2.2.2.2.1 c.2.2.2.2.2.2.2.2.2.2.2.1 c.2.2.2.2.2.2.2.2.2.2.2.2.1 c.2.2.2.2.2.2.2.2.2.2.2.2.2.1 c.2.2.2.2.2.2.2.2.2.2.2.2.2.2.1 c.2.2.2.2.2.2.2.2.2.2.2.2.2.2.2.1 c.2.2.2.2.2.2.2.2.2.2.2.2.2.2.2.2 Hc1 Hn Hk Zm Zml Zn Zf Sp (nI cnt) Cm Sa Sac = wkb2 (f_X5_keep Hn Hk) (fun w2 w3 => some (.inl (nI cnt, Lf, Lc, c'.1, c'.2.1, c'.2.2.1, c'.2.2.2.1, c'.2.2.2.2.1, c'.2.2.2.2.2.1, c'.2.2.2.2.2.2.1, c'.2.2.2.2.2.2.2.1, c'.2.2.2.2.2.2.2.2.1, c'.2.2.2.2.2.2.2.2.2.1, c'.2.2.2.2.2.2.2.2.2.2.1, c'.2.2.2.2.2.2.2.2.2.2.2.1, c'.2.2.2.2.2.2.2.2.2.2.2.2.1, c'.2.2.2.2.2.2.2.2.2.2.2.2.2.1, c'.2.2.2.2.2.2.2.2.2.2.2.2.2.2.1, c'.2.2.2.2.2.2.2.2.2.2.2.2.2.2.2.1, c'.2.2.2.2.2.2.2.2.2.2.2.2.2.2.2.2, Hc1, w2, w3, Zm, Zml, Zn, Zf, Sp, nI cnt, Cm, Sa, Sac))) ∧
        f_X11_runScript_L62 tx nn' (nI j) x3 g kp bf (nI ch) 1 0 len fault failed col loads z at_ t (nI cnt) = f_X11_runScript_L98 tx (nI cnt) x3' g' kp bf (nI ch) 1 0 len fault failed col' loads' z' at_ t (nI cnt)) ∨
    (∃ (i y : Nat) (c' : sC) (g' : Nat → Int32) (col' loads' : Nat → Int32) (z' : Int32), i < cnt ∧ 0 < y ∧ y ≤ 4 ∧
        f_X10_runScript_L49 nn (nI j) Lf Lc c.1 c.2.1 c.2.2.1 c.2.2.2.1 c.2.2.2.2.1 c.2.2.2.2.2.1 c.2.2.2.2.2.2.1 c.2.2.2.2.2.2.2.1 c.2.2.2.2.2.2.2.2.1 c.2.2.2.2.2.2.2.2.2.1 c.2.2.2.2.2.2.2.2.2.2.1 c.2.2.2.2.2.2.2.2.2.2.2.1 c.2.2.2.2.2.2.2.2.2.2.2.2.1 c.2.2.2.2.2.2.2.2.2.2.2.2.2.1 c.2.2.2.2.2.2.2.2.2.2.2.2.2.2.1 c.2.2.2.2.2.2.2.2.2.2.2.2.2.2.2.1 c.2.2.2.2.2.2.2.2.2.2.2.2.2.2.2.2 Hc1 Hn Hk Zm Zml Zn Zf Sp (nI cnt) Cm Sa Sac = wkb17 (f_X5_takeBack Hc1 Hn c'.1 c'.2.1 c'.2.2.1 c'.2.2.2.1 c'.2.2.2.2.1 c'.2.2.2.2.2.1 c'.2.2.2.2.2.2.1 c'.2.2.2.2.2.2.2.1 c'.2.2.2.2.2.2.2.2.1 c'.2.2.2.2.2.2.2.2.2.1 c'.2.2.2.2.2.2.2.2.2.2.1 c'.2.2.2.2.2.2.2.2.2.2.2.1 c'.2.2.2.2.2.2.2.2.2.2.2.2.1 c'.2.2.2.2.2.2.2.2.2.2.2.2.2.1 c'.2.2.2.2.2.2.2.2.2.2.2.2.2.2.1 c'.2.2.2.2.2.2.2.2.2.2.2.2.2.2.2.1 c'.2.2.2.2.2.2.2.2.2.2.2.2.2.2.2.2) (fun w29 w30 w31 w32 w33 w34 w35 w36 w37 w38 w39 w40 w41 w42 w43 w44 w45 => some (.inr ("java/lang/IllegalStateException", Lf, nI i, w29, w30, w31, w32, w33, w34, w35, w36, w37, w38, w39, w40, w41, w42, w43, w44, w45, Hc1, Hn, Hk, Zm, Zml, Zn, Zf, Sp, nI cnt, Cm, Sa, Sac))) ∧
        f_X11_runScript_L62 tx nn' (nI j) x3 g kp bf (nI ch) 1 0 len fault failed col loads z at_ t (nI cnt) = f_X11_runScript_L98 tx (nI i) 0 g' kp bf (nI ch) 1 (nI y) len fault failed col' loads' z' at_ t (nI cnt)) := by
  intro d
  induction d with
  | zero =>
    intro j c g x3 col loads z nn nn' h1 h2 h3 R
    obtain ⟨p, rfl⟩ : ∃ p, nn = p + 1 := ⟨nn - 1, by omega⟩
    obtain ⟨p', rfl⟩ : ∃ p, nn' = p + 1 := ⟨nn' - 1, by omega⟩
    obtain rfl : j = cnt := by omega
    refine Or.inl ⟨c, g, x3, col, loads, z, R, ?_, ?_⟩
    · rw [f_X10_runScript_L49, if_pos (nI_le (Nat.le_refl _) (by omega))]
    · rw [f_X11_runScript_L62, if_pos (nI_le (Nat.le_refl _) (by omega))]
  | succ d ih =>
    intro j c g x3 col loads z nn nn' h1 h2 h3 R
    obtain ⟨p, rfl⟩ : ∃ p, nn = p + 1 := ⟨nn - 1, by omega⟩
    obtain ⟨p', rfl⟩ : ∃ p, nn' = p + 1 := ⟨nn' - 1, by omega⟩
    obtain ⟨r, s1, s2, s3⟩ := hst j (by omega) _ c g R (by omega)
    rw [f_X10_runScript_L49, if_neg (nI_ge (by omega) (by omega)), wkb1_t s1, gok_t' ⟨s2, by decide⟩, f_X11_runScript_L62, if_neg (nI_ge (by omega) (by omega)), if_pos rfl, show (5 : Int32) * nI j = nI (5 * j) from by rw [show (5 : Int32) = nI 5 from rfl, pk_mul]]
    rcases s3 with ⟨r0, hm⟩ | ⟨r0, c', g', k1, k2, hm⟩
    · obtain ⟨y, col', loads', z', y0, y4, hm⟩ := hm kp (nI ch) 0 col loads z
      obtain ⟨p2, rfl⟩ : ∃ q, p' = q + 1 := ⟨p' - 1, by omega⟩
      rw [if_neg (by omega), wkb8_t hm, if_neg (nI_ne0 (by omega) (by omega)), f_X11_runScript_L62, if_neg (nI_ge (by omega) (by omega)), if_neg (nI_ne0 (by omega) (by omega))]
      exact Or.inr ⟨j, y, c, g, col', loads', z', by omega, y0, y4, rfl, rfl⟩
    · obtain ⟨b, col', loads', z', hm⟩ := hm kp (nI ch) 0 col loads z
      rw [if_pos r0, wkb17_t k1, wkb8_t hm, if_pos rfl, nI_1]
      exact ih (j + 1) c' g' b col' loads' z' p p' (by omega) (by omega) (by omega) (by rw [show Bd + 19998 * (j + 1) = Bd + 19998 * j + 19998 by omega]; exact k2)
theorem q_clear {Zm L : Nat} {Zml : Int32} {Zf : Nat → Int32} (h : Zm ≤ 142) (hL : L ≤ 60) : ∃ Zml', f_X7_clear Zm Zml (nI L) Zf = some (Zm, Zml', 0, Zf) := by
  have hz : ∀ m, m < 143 → (0 : Int32) - nI m ≤ 0 := by decide +kernel
  unfold f_X7_clear f_J4_setLength_d00df f_J5_setLength_d00df f_J5_ensureCapacityInternal_d00df
  rw [sh0 Zm (by omega), if_pos (by decide), if_pos (hz Zm (by omega)), wkb2_t rfl, if_pos (show (0 : Int32) ≤ nI L from nI_le (a := 0) (by omega) (by omega))]
  by_cases e : nI L ≤ 0
  · rw [if_pos e]
    exact ⟨_, rfl⟩
  · rw [if_neg e]
    exact ⟨_, rfl⟩
theorem step_of {Cm : Nat → Option Nat} {Sa t : Nat → Int32} {c' : Nat} {ks : List (Nat × List Nat)} (hc : c' ≤ 11) (C : CR c' Cm Sa ks) (M : MR c' t ks) (hn : ∀ x, x ∈ ks → x.2.length = na x.1) : ∀ j, j < c' → ∀ Bd (c : sC) g, RCt Bd c g → Bd + 19998 < 2 ^ 30 → stepG Cm Sa t j Bd c g := by
  intro j hj Bd c g R hB
  obtain ⟨k, vs, h1, h2, h3, h4⟩ := C.2 j hj
  obtain ⟨k', vs', m1, m2, m3, m4⟩ := M.2 j hj
  rw [h1] at m1
  injection m1 with m1
  injection m1 with e1 e2
  subst e1 e2
  have hv := hn _ (List.mem_of_getElem? h1)
  have hv : vs.length = na k := hv
  have A : ∀ i, i < na k → i < 4 → Sa (4 * j + i) = nI (vs.getD i 0) := fun i a b => h4 i (by omega) b
  have T : ∀ i, i < na k → i < 4 → t (5 * j + 1 + i) = nI (vs.getD i 0) := fun i a b => m4 i (by omega) b
  obtain ⟨Tc, W, S, Hh, C1, F, Ba, B, Bo, Be, D, Cr, A1, ni, ne, sh, fa⟩ := c
  rcases (show k = 0 ∨ k = 1 ∨ k = 2 ∨ k = 3 ∨ k = 4 ∨ k = 5 ∨ k = 6 ∨ k = 7 by omega) with rfl | rfl | rfl | rfl | rfl | rfl | rfl | rfl
  · exact x_0 R hB (by omega) h3 m3 (A 0 (by decide) (by decide)) (T 0 (by decide) (by decide)) (A 1 (by decide) (by decide)) (T 1 (by decide) (by decide)) (A 2 (by decide) (by decide)) (T 2 (by decide) (by decide)) (A 3 (by decide) (by decide)) (T 3 (by decide) (by decide))
  · exact x_1 R hB (by omega) h3 m3 (A 0 (by decide) (by decide)) (T 0 (by decide) (by decide)) (A 1 (by decide) (by decide)) (T 1 (by decide) (by decide)) (A 2 (by decide) (by decide)) (T 2 (by decide) (by decide))
  · exact x_2 R hB (by omega) h3 m3 (A 0 (by decide) (by decide)) (T 0 (by decide) (by decide)) (A 1 (by decide) (by decide)) (T 1 (by decide) (by decide))
  · exact x_3 R hB (by omega) h3 m3 (A 0 (by decide) (by decide)) (T 0 (by decide) (by decide))
  · exact x_4 R hB (by omega) h3 m3 (A 0 (by decide) (by decide)) (T 0 (by decide) (by decide))
  · exact x_5 R hB (by omega) h3 m3 (A 0 (by decide) (by decide)) (T 0 (by decide) (by decide))
  · exact x_6 R hB (by omega) h3 m3
  · exact x_7 R hB (by omega) h3 m3 (A 0 (by decide) (by decide)) (T 0 (by decide) (by decide)) (A 1 (by decide) (by decide)) (T 1 (by decide) (by decide))
theorem o_runScript {Bd ch L Zm : Nat} {c : sC} {g kp tx Zf : Nat → Int32} {Hc : Nat → sC} {Hn Hk : Int32} (R : RCt Bd c g) (Rh : RH Bd Hc Hn Hk kp ch) (X : XT Zm L Zf tx) (T : TX L tx) (hB : Bd + 19998 * 12 < 2 ^ 30) (Lf Lc Zml Sp Sn Sac : Int32) (Cm : Nat → Option Nat) (Sa bf : Nat → Int32) (cd fault failed : Int32) (col loads : Nat → Int32) (z at_ : Int32) (told : Nat → Int32) (tm : Int32) :
    ∃ out b g' kp' bf' ch' cd' fault' failed' col' loads' z' at' told' tm', f_X10_runScript Lf Lc c.1 c.2.1 c.2.2.1 c.2.2.2.1 c.2.2.2.2.1 c.2.2.2.2.2.1 c.2.2.2.2.2.2.1 c.2.2.2.2.2.2.2.1 c.2.2.2.2.2.2.2.2.1 c.2.2.2.2.2.2.2.2.2.1 c.2.2.2.2.2.2.2.2.2.2.1 c.2.2.2.2.2.2.2.2.2.2.2.1 c.2.2.2.2.2.2.2.2.2.2.2.2.1 c.2.2.2.2.2.2.2.2.2.2.2.2.2.1 c.2.2.2.2.2.2.2.2.2.2.2.2.2.2.1 c.2.2.2.2.2.2.2.2.2.2.2.2.2.2.2.1 c.2.2.2.2.2.2.2.2.2.2.2.2.2.2.2.2 Hc Hn Hk Zm Zml (nI L) Zf Sp Sn Cm Sa Sac = some out ∧
      f_X11_runScript g kp bf (nI ch) 0 cd tx (nI L) fault failed col loads z at_ told tm = some (b, g', kp', bf', nI ch', 0, cd', 0, fault', failed', col', loads', z', at', told', tm') ∧
      ∃ (c' : sC) (Hc' : Nat → sC) (Hn' Zml' Sp' Sn' Sac' : Int32) (Cm' : Nat → Option Nat) (Sa' : Nat → Int32), RCt (Bd + 19998 * 12) c' g' ∧ RH (Bd + 19998 * 12) Hc' Hn' (nI ch') kp' ch' ∧
        ((cd' = 1 ∧ b = 0 ∧ failed' = failed ∧ (∃ x, x ≤ 400 ∧ fault' = nI x) ∧ out = .inr (xIAE, fault', Lc, c'.1, c'.2.1, c'.2.2.1, c'.2.2.2.1, c'.2.2.2.2.1, c'.2.2.2.2.2.1, c'.2.2.2.2.2.2.1, c'.2.2.2.2.2.2.2.1, c'.2.2.2.2.2.2.2.2.1, c'.2.2.2.2.2.2.2.2.2.1, c'.2.2.2.2.2.2.2.2.2.2.1, c'.2.2.2.2.2.2.2.2.2.2.2.1, c'.2.2.2.2.2.2.2.2.2.2.2.2.1, c'.2.2.2.2.2.2.2.2.2.2.2.2.2.1, c'.2.2.2.2.2.2.2.2.2.2.2.2.2.2.1, c'.2.2.2.2.2.2.2.2.2.2.2.2.2.2.2.1, c'.2.2.2.2.2.2.2.2.2.2.2.2.2.2.2.2, Hc', Hn', nI ch', Zm, Zml', 0, Zf, Sp', Sn', Cm', Sa', Sac')) ∨
         (cd' = 2 ∧ b = 0 ∧ fault' = fault ∧ (∃ x, x ≤ 400 ∧ failed' = nI x) ∧ out = .inr (xISE, Lf, failed', c'.1, c'.2.1, c'.2.2.1, c'.2.2.2.1, c'.2.2.2.2.1, c'.2.2.2.2.2.1, c'.2.2.2.2.2.2.1, c'.2.2.2.2.2.2.2.1, c'.2.2.2.2.2.2.2.2.1, c'.2.2.2.2.2.2.2.2.2.1, c'.2.2.2.2.2.2.2.2.2.2.1, c'.2.2.2.2.2.2.2.2.2.2.2.1, c'.2.2.2.2.2.2.2.2.2.2.2.2.1, c'.2.2.2.2.2.2.2.2.2.2.2.2.2.1, c'.2.2.2.2.2.2.2.2.2.2.2.2.2.2.1, c'.2.2.2.2.2.2.2.2.2.2.2.2.2.2.2.1, c'.2.2.2.2.2.2.2.2.2.2.2.2.2.2.2.2, Hc', Hn', nI ch', Zm, Zml', 0, Zf, Sp', Sn', Cm', Sa', Sac')) ∨
         (cd' = 0 ∧ fault' = fault ∧ failed' = failed ∧ out = .inl (b, Lf, Lc, c'.1, c'.2.1, c'.2.2.1, c'.2.2.2.1, c'.2.2.2.2.1, c'.2.2.2.2.2.1, c'.2.2.2.2.2.2.1, c'.2.2.2.2.2.2.2.1, c'.2.2.2.2.2.2.2.2.1, c'.2.2.2.2.2.2.2.2.2.1, c'.2.2.2.2.2.2.2.2.2.2.1, c'.2.2.2.2.2.2.2.2.2.2.2.1, c'.2.2.2.2.2.2.2.2.2.2.2.2.1, c'.2.2.2.2.2.2.2.2.2.2.2.2.2.1, c'.2.2.2.2.2.2.2.2.2.2.2.2.2.2.1, c'.2.2.2.2.2.2.2.2.2.2.2.2.2.2.2.1, c'.2.2.2.2.2.2.2.2.2.2.2.2.2.2.2.2, Hc', Hn', nI ch', Zm, Zml', 0, Zf, Sp', Sn', Cm', Sa', Sac'))) := by
  have hT := T.1
  have hHk : Hk = nI ch := Rh.2.1
  obtain ⟨Zml', hcl⟩ := q_clear (Zml := Zml) (Zf := Zf) X.2.1 hT
  obtain ⟨A', Cm', z1, pos, c', q1, q2, q3⟩ := q_readC X T 11 0 0 Sa Cm Sac FU [] (by decide) (by decide) (by decide) (by omega) ⟨rfl, fun j hj => absurd hj (by omega)⟩
  obtain ⟨t', x, m', p1, p2, p3⟩ := q_readM T 11 0 0 told FU [] (by decide) (by decide) (by decide) (by omega) ⟨rfl, fun j hj => absurd hj (by omega)⟩
  have q1' : f_X7_read Zm (nI L) Zf Sp Sn Cm Sa Sac = _ := q1
  have p1' : f_X11_isScript tx (nI L) at_ told tm = _ := p1
  unfold f_X10_runScript f_X11_runScript
  rw [wkb6_t q1', wkb4_t hcl, wkb4_t p1']
  cases hr : (rdd (dv L tx) L 11 0 []).1 with
  | none =>
    have hx := p2 hr
    have hx4 := q2 hr
    rw [if_neg (show ¬ (if (none : Option (List (Nat × List Nat))).isSome = true then (-1 : Int32) else nI (rdd (dv L tx) L 11 0 []).2) = -1 from oI_m1 (by omega)), if_pos (show (if (none : Option (List (Nat × List Nat))).isSome = true then (1 : Int32) else 0) = 0 from rfl)]
    refine ⟨_, 0, g, kp, bf, ch, 1, x, failed, col, loads, z, x, t', nI m', rfl, rfl, c, Hc, Hn, Zml', pos, nI c', z1, Cm', A', RCt_mono (by omega) hB R, by rw [← hHk]; exact RH_mono (by omega) hB Rh, Or.inl ⟨rfl, rfl, rfl, ⟨_, hx4, hx⟩, ?_⟩⟩
    rw [hx, ← hHk]
    rfl
  | some ks =>
    obtain ⟨c11, hC⟩ := q3 ks hr
    obtain ⟨m11, hM⟩ := p3 ks hr
    have hcm : c' = m' := by rw [← hC.1, ← hM.1]
    subst hcm
    have hn := rdd_na 11 0 [] (fun x hx => absurd hx (by simp)) ks hr
    have Rb : RCt Bd c (shf g bf 0 0 238) := RCt_cg (fun j hj => by
      show (if 0 ≤ j ∧ j < 0 + 238 then g (0 + (j - 0)) else _) = g j
      rw [if_pos (by omega), Nat.zero_add, Nat.sub_zero]) R
    obtain ⟨Hc1, Hn', n1, n2, n3, n4, n5⟩ := q_rem2 Rh c (shf g bf 0 0 238) Rb
    rw [if_pos (show (if (some ks).isSome = true then (-1 : Int32) else nI (rdd (dv L tx) L 11 0 []).2) = -1 from rfl), if_neg (show ¬ (if (some ks).isSome = true then (1 : Int32) else 0) = 0 from one_ne), wkb1_t n1]
    show ∃ out b g' kp' bf' ch' cd' fault' failed' col' loads' z' at' told' tm', _ = some out ∧ f_X11_runScript_L17 tx 1 g kp bf (nI ch) 0 cd (nI L) fault failed col loads z x t' (nI c') = _ ∧ _
    unfold f_X11_runScript_L17 f_X11_runScript_L32
    rw [if_neg one_ne, wkb2_t (q_fails0 cd), if_pos rfl, wkb1_t (q_cp3 g bf)]
    have key := q_runs (Bd := Bd) (ch := ch) (kp := kp) (bf := shf g bf 0 0 238) (tx := tx) (Hc1 := Hc1) (Hn := Hn) (Hk := Hk) (Lf := Lf) (Lc := Lc) (Zml := Zml') (Zn := 0) (Sp := pos) (Sac := z1) (len := 0) (fault := fault) (failed := failed) (at_ := x) (Zm := Zm) (Zf := Zf) c11 hB (step_of c11 hC hM hn) c' 0 c g 0 col loads z FU FU (by omega) (show c' < 5000 by omega) (show c' + 2 < 5000 by omega) (by rw [Nat.mul_zero, Nat.add_zero]; exact R)
    rcases key with ⟨c2, g2, x3, col', loads', z', r1, r2, r3⟩ | ⟨i, y, c2, g2, col', loads', z', i1, y0, y4, r2, r3⟩
    · have r2' := r2.trans (wkb2_t n2)
      have r3' : f_X11_runScript_L62 tx FU 0 0 g kp (shf g bf 0 0 238) (nI ch) 1 0 0 fault failed col loads z x t' (nI c') = _ := r3
      refine ⟨_, nI c', g2, kpt kp (shf g bf 0 0 238) ch, shf g bf 0 0 238, kch ch, 0, fault, failed, col', loads', z', x, t', nI c', r2', ?_, c2, Hc1, Hn', Zml', pos, nI c', z1, Cm', A', RCt_mono (by omega) hB r1, RH_mono (by omega) hB n3, Or.inr (Or.inr ⟨rfl, rfl, rfl, rfl⟩)⟩
      rw [r3']
      unfold f_X11_runScript_L98
      rw [if_pos (by decide), wkb3_t (q_keeps_before Rh.1)]
    · obtain ⟨c3, t1, t2⟩ := n5 c2
      have r2' := r2.trans (wkb17_t t1)
      have r3' : f_X11_runScript_L62 tx FU 0 0 g kp (shf g bf 0 0 238) (nI ch) 1 0 0 fault failed col loads z x t' (nI c') = _ := r3
      refine ⟨_, 0, shf (shf g bf 0 0 238) g2 0 0 238, kp, shf g bf 0 0 238, ch, 2, fault, nI i, col', loads', z', x, t', nI c', r2', ?_, c3, Hc1, Hn, Zml', pos, nI c', z1, Cm', A', RCt_mono (by omega) hB (RCt_cg (fun j hj => ?_) t2), by rw [← hHk]; exact RH_mono (by omega) hB n4, Or.inr (Or.inl ⟨rfl, rfl, rfl, ⟨i, by omega, rfl⟩, ?_⟩)⟩
      · rw [r3']
        unfold f_X11_runScript_L98
        rw [if_neg (nI_nle (by omega) (by omega)), wkb1_t (q_cp3 _ g2), if_pos (by decide)]
      · show (if 0 ≤ j ∧ j < 0 + 238 then (shf g bf 0 0 238) (0 + (j - 0)) else _) = _
        rw [if_pos (by omega), Nat.zero_add, Nat.sub_zero]
      · rw [← hHk]
