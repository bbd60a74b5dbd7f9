/-! PURE LAYER: the changing calls of both -/
def xof (r : Nat) : String := if r = 1 then xIOOB else if r = 2 then xIAE else if r = 3 then xISE else xUNS
theorem q_throw0 : f_X10_throwFor 0 = some (.inl ()) := rfl
theorem q_throwE : ∀ r, r < 5 → 0 < r → f_X10_throwFor r = some (.inr (xof r)) := fun r h1 h2 => by
  rcases (show r = 1 ∨ r = 2 ∨ r = 3 ∨ r = 4 by omega) with rfl | rfl | rfl | rfl <;> rfl
theorem ym_pos {L : List Nat} {r y : Nat} (h : ym L r y) (hL : ∀ x, x ∈ L → 0 < x) : 0 < r := by
  obtain ⟨i, h1, -⟩ := h
  exact hL r (List.mem_of_getElem? h1)
theorem wkb10_t {A1 A2 A3 A4 A5 A6 A7 A8 A9 A10 γ : Type} {o : Option (A1 × A2 × A3 × A4 × A5 × A6 × A7 × A8 × A9 × A10)} {k : A1 → A2 → A3 → A4 → A5 → A6 → A7 → A8 → A9 → A10 → Option γ} {a1 : A1} {a2 : A2} {a3 : A3} {a4 : A4} {a5 : A5} {a6 : A6} {a7 : A7} {a8 : A8} {a9 : A9} {a10 : A10} (h : o = some (a1, a2, a3, a4, a5, a6, a7, a8, a9, a10)) : wkb10 o k = k a1 a2 a3 a4 a5 a6 a7 a8 a9 a10 := by rw [h]; rfl
theorem wkb7_e {A1 A2 A3 A4 A5 A6 A7 γ : Type} {o : Option (A1 × A2 × A3 × A4 × A5 × A6 × A7)} {k : A1 → A2 → A3 → A4 → A5 → A6 → A7 → Option γ} {a1 : A1} {a2 : A2} {a3 : A3} {a4 : A4} {a5 : A5} {a6 : A6} {a7 : A7} (h : o = some (a1, a2, a3, a4, a5, a6, a7)) : wkb7 o k = k a1 a2 a3 a4 a5 a6 a7 := by rw [h]; rfl
theorem RCt_mono {Bd Bd' : Nat} {c : sC} {g : Nat → Int32} (h : Bd ≤ Bd') (h' : Bd' < 2 ^ 30) (R : RCt Bd c g) : RCt Bd' c g := by
  obtain ⟨n, e, R⟩ := R
  exact ⟨n, e, RC_mono h h' R⟩
theorem o_addAcrobat {Bd ch : Nat} {Tc Ba Be ni ne sh fa Hn Hk : Int32} {W S Hh C F B Bo D Cr A g kp : Nat → Int32} {Hc : Nat → sC} (R : RCt Bd (Tc, W, S, Hh, C, F, Ba, B, Bo, Be, D, Cr, A, ni, ne, sh, fa) g) (Rh : RH Bd Hc Hn Hk kp ch) (hB : Bd + 19998 < 2 ^ 30) (cd x1 x2 x3 x4 : Int32) :
    ∃ out b g' kp' ch' cd', f_X10_addAcrobat Tc W S Hh C F Ba B Bo Be D Cr A ni ne sh fa Hc Hn Hk x1 x2 x3 x4 = some out ∧ f_X11_addAcrobat g kp (nI ch) 0 cd x1 x2 x3 x4 = some (b, g', kp', nI ch', cd') ∧
      ((∃ r y, ym [2, 3] r y ∧ r < 5 ∧ cd' = nI y ∧ b = 0 ∧ g' = g ∧ kp' = kp ∧ ch' = ch ∧ out = .inr (xof r, Tc, W, S, Hh, C, Ba, Hc, Hn, Hk)) ∨
       ∃ Tc' W' S' Hh' C' Ba' Hc' Hn', cd' = 0 ∧ out = .inl (b, Tc', W', S', Hh', C', Ba', Hc', Hn', nI ch') ∧ RCt (Bd + 19998) (Tc', W', S', Hh', C', F, Ba', B, Bo, Be, D, Cr, A, ni, ne, sh, fa) g' ∧ RH (Bd + 19998) Hc' Hn' (nI ch') kp' ch') := by
  obtain ⟨n, e, R0⟩ := id R
  obtain ⟨r, h1, h2, h3⟩ := s_hire R0 x1 x2 x3 x4
  unfold f_X10_addAcrobat
  rw [wkb1_t h1]
  rcases h3 with ⟨y, hy, hm⟩ | ⟨rfl, b, Tc', W', S', H', C', Ba', g', k1, k2, k3⟩
  · rw [wky_e (q_throwE r h2 (ym_pos hy (by decide)))]
    exact ⟨_, _, _, _, ch, _, rfl, hm kp (nI ch) 0 cd, Or.inl ⟨r, y, hy, h2, rfl, rfl, rfl, rfl, rfl, rfl⟩⟩
  · obtain ⟨Hc', Hn', m1, m2⟩ := q_remember Rh (Tc, W, S, Hh, C, F, Ba, B, Bo, Be, D, Cr, A, ni, ne, sh, fa) g R
    rw [wky_t q_throw0, wkb3_t m1, wkb7_e k1]
    refine ⟨_, _, _, _, kch ch, _, rfl, (k3 kp (nI ch) 0 cd).trans (wkb3_t (q_keeps_g Rh.1)), Or.inr ⟨_, _, _, _, _, _, _, _, rfl, rfl, ⟨_, _, RC_mono (by omega) hB k2⟩, RH_mono (by omega) hB m2⟩⟩
theorem o_post {Bd ch : Nat} {Tc Ba Be ni ne sh fa Hn Hk : Int32} {W S Hh C F B Bo D Cr A g kp : Nat → Int32} {Hc : Nat → sC} (R : RCt Bd (Tc, W, S, Hh, C, F, Ba, B, Bo, Be, D, Cr, A, ni, ne, sh, fa) g) (Rh : RH Bd Hc Hn Hk kp ch) (hB : Bd + 19998 < 2 ^ 30) (cd x1 x2 x3 : Int32) :
    ∃ out b g' kp' ch' cd', f_X10_post Tc W S Hh C F Ba B Bo Be D Cr A ni ne sh fa Hc Hn Hk x1 x2 x3 = some out ∧ f_X11_post g kp (nI ch) 0 cd x1 x2 x3 = some (b, g', kp', nI ch', cd') ∧
      ((∃ r y, ym [1, 2, 3, 4] r y ∧ r < 5 ∧ cd' = nI y ∧ b = 0 ∧ g' = g ∧ kp' = kp ∧ ch' = ch ∧ out = .inr (xof r, B, Be, D, Cr, A, Hc, Hn, Hk)) ∨
       ∃ B' Be' D' Cr' A' Hc' Hn', cd' = 0 ∧ out = .inl (b, B', Be', D', Cr', A', Hc', Hn', nI ch') ∧ RCt (Bd + 19998) (Tc, W, S, Hh, C, F, Ba, B', Bo, Be', D', Cr', A', ni, ne, sh, fa) g' ∧ RH (Bd + 19998) Hc' Hn' (nI ch') kp' ch') := by
  obtain ⟨n, e, R0⟩ := id R
  obtain ⟨r, h1, h2, h3⟩ := s_post R0 hB x1 x2 x3
  unfold f_X10_post
  rw [wkb1_t h1]
  rcases h3 with ⟨y, hy, hm⟩ | ⟨rfl, b, d, cr, a, B', D', C', A', g', -, k1, k2, -, -, k3⟩
  · rw [wky_e (q_throwE r h2 (ym_pos hy (by decide)))]
    exact ⟨_, _, _, _, ch, _, rfl, hm kp (nI ch) 0 cd, Or.inl ⟨r, y, hy, h2, rfl, rfl, rfl, rfl, rfl, rfl⟩⟩
  · obtain ⟨Hc', Hn', m1, m2⟩ := q_remember Rh (Tc, W, S, Hh, C, F, Ba, B, Bo, Be, D, Cr, A, ni, ne, sh, fa) g R
    rw [wky_t q_throw0, wkb3_t m1, wkb6_t k1]
    refine ⟨_, _, _, _, kch ch, _, rfl, (k3 kp (nI ch) 0 cd).trans (wkb3_t (q_keeps_g Rh.1)), Or.inr ⟨_, _, _, _, _, _, _, rfl, rfl, ⟨_, _, k2⟩, RH_mono (by omega) hB m2⟩⟩
theorem o_payOut {Bd ch : Nat} {Tc Ba Be ni ne sh fa Hn Hk : Int32} {W S Hh C F B Bo D Cr A g kp : Nat → Int32} {Hc : Nat → sC} (R : RCt Bd (Tc, W, S, Hh, C, F, Ba, B, Bo, Be, D, Cr, A, ni, ne, sh, fa) g) (Rh : RH Bd Hc Hn Hk kp ch) (hB : Bd + 19998 < 2 ^ 30) (cd x1 x2 : Int32) :
    ∃ out b g' kp' ch' cd', f_X10_payOut Tc W S Hh C F Ba B Bo Be D Cr A ni ne sh fa Hc Hn Hk x1 x2 = some out ∧ f_X11_payOut g kp (nI ch) 0 cd x1 x2 = some (b, g', kp', nI ch', cd') ∧
      ((∃ r y, ym [1, 2, 3, 4] r y ∧ r < 5 ∧ cd' = nI y ∧ b = 0 ∧ g' = g ∧ kp' = kp ∧ ch' = ch ∧ out = .inr (xof r, B, Be, D, Cr, A, Hc, Hn, Hk)) ∨
       ∃ B' Be' D' Cr' A' Hc' Hn', cd' = 0 ∧ out = .inl (b, B', Be', D', Cr', A', Hc', Hn', nI ch') ∧ RCt (Bd + 19998) (Tc, W, S, Hh, C, F, Ba, B', Bo, Be', D', Cr', A', ni, ne, sh, fa) g' ∧ RH (Bd + 19998) Hc' Hn' (nI ch') kp' ch') := by
  obtain ⟨n, e, R0⟩ := id R
  obtain ⟨r, h1, h2, h3⟩ := s_pay R0 hB x1 x2
  unfold f_X10_payOut
  rw [wkb1_t h1]
  rcases h3 with ⟨y, hy, hm⟩ | ⟨rfl, b, B', D', C', A', g', k1, k2, k3⟩
  · rw [wky_e (q_throwE r h2 (ym_pos hy (by decide)))]
    exact ⟨_, _, _, _, ch, _, rfl, hm kp (nI ch) 0 cd, Or.inl ⟨r, y, hy, h2, rfl, rfl, rfl, rfl, rfl, rfl⟩⟩
  · obtain ⟨Hc', Hn', m1, m2⟩ := q_remember Rh (Tc, W, S, Hh, C, F, Ba, B, Bo, Be, D, Cr, A, ni, ne, sh, fa) g R
    rw [wky_t q_throw0, wkb3_t m1, wkb6_t k1]
    refine ⟨_, _, _, _, kch ch, _, rfl, (k3 kp (nI ch) 0 cd).trans (wkb3_t (q_keeps_g Rh.1)), Or.inr ⟨_, _, _, _, _, _, _, rfl, rfl, ⟨_, _, k2⟩, RH_mono (by omega) hB m2⟩⟩
theorem o_show {Bd ch : Nat} {Tc Ba Be ni ne sh fa Hn Hk : Int32} {W S Hh C F B Bo D Cr A g kp : Nat → Int32} {Hc : Nat → sC} (R : RCt Bd (Tc, W, S, Hh, C, F, Ba, B, Bo, Be, D, Cr, A, ni, ne, sh, fa) g) (Rh : RH Bd Hc Hn Hk kp ch) (hB : Bd + 19998 < 2 ^ 30) (cd x1 : Int32) (col loads : Nat → Int32) (z : Int32) :
    ∃ out b g' kp' ch' cd' col' loads' z', f_X10_show Tc W S Hh C F Ba B Bo Be D Cr A ni ne sh fa Hc Hn Hk x1 = some out ∧ f_X11_show g kp (nI ch) 0 cd col loads z x1 = some (b, g', kp', nI ch', cd', col', loads', z') ∧
      ((∃ r y, ym [2, 4, 3] r y ∧ r < 5 ∧ cd' = nI y ∧ b = 0 ∧ g' = g ∧ kp' = kp ∧ ch' = ch ∧ out = .inr (xof r, F, B, Be, D, Cr, A, ni, sh, fa, Hc, Hn, Hk)) ∨
       ∃ F' B' Be' D' Cr' A' ni' sh' fa' Hc' Hn', cd' = 0 ∧ out = .inl (b, F', B', Be', D', Cr', A', ni', sh', fa', Hc', Hn', nI ch') ∧ RCt (Bd + 19998) (Tc, W, S, Hh, C, F', Ba, B', Bo, Be', D', Cr', A', ni', ne, sh', fa') g' ∧ RH (Bd + 19998) Hc' Hn' (nI ch') kp' ch') := by
  obtain ⟨n, e, R0⟩ := id R
  obtain ⟨r, h1, h2, h3⟩ := s_show R0 hB x1
  unfold f_X10_show
  rw [wkb1_t h1]
  rcases h3 with ⟨y, hy, hm⟩ | ⟨rfl, b, e', F', B', D', C', A', ni', sh', fa', g', k1, k2, k3⟩
  · rw [wky_e (q_throwE r h2 (ym_pos hy (by decide)))]
    obtain ⟨c1, l1, z1, hm⟩ := hm kp (nI ch) 0 cd col loads z
    exact ⟨_, _, _, _, ch, _, _, _, _, rfl, hm, Or.inl ⟨r, y, hy, h2, rfl, rfl, rfl, rfl, rfl, rfl⟩⟩
  · obtain ⟨Hc', Hn', m1, m2⟩ := q_remember Rh (Tc, W, S, Hh, C, F, Ba, B, Bo, Be, D, Cr, A, ni, ne, sh, fa) g R
    obtain ⟨c1, l1, z1, k3⟩ := k3 kp (nI ch) 0 cd col loads z
    rw [wky_t q_throw0, wkb3_t m1, wkb10_t k1]
    refine ⟨_, _, _, _, kch ch, _, _, _, _, rfl, k3.trans (wkb3_t (q_keeps_g Rh.1)), Or.inr ⟨_, _, _, _, _, _, _, _, _, _, _, rfl, rfl, ⟨_, _, k2⟩, RH_mono (by omega) hB m2⟩⟩
theorem o_setNet {Bd ch : Nat} {Tc Ba Be ni ne sh fa Hn Hk : Int32} {W S Hh C F B Bo D Cr A g kp : Nat → Int32} {Hc : Nat → sC} (R : RCt Bd (Tc, W, S, Hh, C, F, Ba, B, Bo, Be, D, Cr, A, ni, ne, sh, fa) g) (Rh : RH Bd Hc Hn Hk kp ch) (hB : Bd + 19998 < 2 ^ 30) (cd x1 : Int32) :
    ∃ out b g' kp' ch' cd', f_X10_setNet Tc W S Hh C F Ba B Bo Be D Cr A ni ne sh fa Hc Hn Hk x1 = some out ∧ f_X11_setNet g kp (nI ch) 0 cd x1 = some (b, g', kp', nI ch', cd') ∧
      ((∃ r y, ym [2] r y ∧ r < 5 ∧ cd' = nI y ∧ b = 0 ∧ g' = g ∧ kp' = kp ∧ ch' = ch ∧ out = .inr (xof r, ne, Hc, Hn, Hk)) ∨
       ∃ ne' Hc' Hn', cd' = 0 ∧ out = .inl (b, ne', Hc', Hn', nI ch') ∧ RCt (Bd + 19998) (Tc, W, S, Hh, C, F, Ba, B, Bo, Be, D, Cr, A, ni, ne', sh, fa) g' ∧ RH (Bd + 19998) Hc' Hn' (nI ch') kp' ch') := by
  obtain ⟨n, e, R0⟩ := id R
  obtain ⟨r, h1, h2, h3⟩ := s_net R0 x1
  unfold f_X10_setNet
  rw [wkb1_t h1]
  rcases h3 with ⟨y, hy, hm⟩ | ⟨rfl, b, ne', g', k1, k2, k3⟩
  · rw [wky_e (q_throwE r h2 (ym_pos hy (by decide)))]
    exact ⟨_, _, _, _, ch, _, rfl, hm kp (nI ch) 0 cd, Or.inl ⟨r, y, hy, h2, rfl, rfl, rfl, rfl, rfl, rfl⟩⟩
  · obtain ⟨Hc', Hn', m1, m2⟩ := q_remember Rh (Tc, W, S, Hh, C, F, Ba, B, Bo, Be, D, Cr, A, ni, ne, sh, fa) g R
    rw [wky_t q_throw0, wkb3_t m1, wkb2_t k1]
    refine ⟨_, _, _, _, kch ch, _, rfl, (k3 kp (nI ch) 0 cd).trans (wkb3_t (q_keeps_g Rh.1)), Or.inr ⟨_, _, _, rfl, rfl, ⟨_, _, RC_mono (by omega) hB k2⟩, RH_mono (by omega) hB m2⟩⟩
theorem o_passNights {Bd ch : Nat} {Tc Ba Be ni ne sh fa Hn Hk : Int32} {W S Hh C F B Bo D Cr A g kp : Nat → Int32} {Hc : Nat → sC} (R : RCt Bd (Tc, W, S, Hh, C, F, Ba, B, Bo, Be, D, Cr, A, ni, ne, sh, fa) g) (Rh : RH Bd Hc Hn Hk kp ch) (hB : Bd + 19998 < 2 ^ 30) (cd x1 : Int32) :
    ∃ out b g' kp' ch' cd', f_X10_passNights Tc W S Hh C F Ba B Bo Be D Cr A ni ne sh fa Hc Hn Hk x1 = some out ∧ f_X11_passNights g kp (nI ch) 0 cd x1 = some (b, g', kp', nI ch', cd') ∧
      ((∃ r y, ym [2] r y ∧ r < 5 ∧ cd' = nI y ∧ b = 0 ∧ g' = g ∧ kp' = kp ∧ ch' = ch ∧ out = .inr (xof r, F, ni, Hc, Hn, Hk)) ∨
       ∃ F' ni' Hc' Hn', cd' = 0 ∧ out = .inl (b, F', ni', Hc', Hn', nI ch') ∧ RCt (Bd + 19998) (Tc, W, S, Hh, C, F', Ba, B, Bo, Be, D, Cr, A, ni', ne, sh, fa) g' ∧ RH (Bd + 19998) Hc' Hn' (nI ch') kp' ch') := by
  obtain ⟨n, e, R0⟩ := id R
  obtain ⟨r, h1, h2, h3⟩ := s_wait R0 x1
  unfold f_X10_passNights
  rw [wkb1_t h1]
  rcases h3 with ⟨y, hy, hm⟩ | ⟨rfl, b, F', ni', g', k1, k2, k3⟩
  · rw [wky_e (q_throwE r h2 (ym_pos hy (by decide)))]
    exact ⟨_, _, _, _, ch, _, rfl, hm kp (nI ch) 0 cd, Or.inl ⟨r, y, hy, h2, rfl, rfl, rfl, rfl, rfl, rfl⟩⟩
  · obtain ⟨Hc', Hn', m1, m2⟩ := q_remember Rh (Tc, W, S, Hh, C, F, Ba, B, Bo, Be, D, Cr, A, ni, ne, sh, fa) g R
    rw [wky_t q_throw0, wkb3_t m1, wkb3_t k1]
    refine ⟨_, _, _, _, kch ch, _, rfl, (k3 kp (nI ch) 0 cd).trans (wkb3_t (q_keeps_g Rh.1)), Or.inr ⟨_, _, _, _, rfl, rfl, ⟨_, _, RC_mono (by omega) hB k2⟩, RH_mono (by omega) hB m2⟩⟩
theorem o_cancel {Bd ch : Nat} {Tc Ba Be ni ne sh fa Hn Hk : Int32} {W S Hh C F B Bo D Cr A g kp : Nat → Int32} {Hc : Nat → sC} (R : RCt Bd (Tc, W, S, Hh, C, F, Ba, B, Bo, Be, D, Cr, A, ni, ne, sh, fa) g) (Rh : RH Bd Hc Hn Hk kp ch) (hB : Bd + 19998 < 2 ^ 30) (cd x1 x2 : Int32) :
    ∃ out b g' kp' ch' cd', f_X10_cancel Tc W S Hh C F Ba B Bo Be D Cr A ni ne sh fa Hc Hn Hk x1 x2 = some out ∧ f_X11_cancel g kp (nI ch) 0 cd x1 x2 = some (b, g', kp', nI ch', cd') ∧
      ((∃ r y, ym [1, 3] r y ∧ r < 5 ∧ cd' = nI y ∧ b = 0 ∧ g' = g ∧ kp' = kp ∧ ch' = ch ∧ out = .inr (xof r, B, Be, D, Cr, A, Hc, Hn, Hk)) ∨
       ∃ B' Be' D' Cr' A' Hc' Hn', cd' = 0 ∧ out = .inl (b, B', Be', D', Cr', A', Hc', Hn', nI ch') ∧ RCt (Bd + 19998) (Tc, W, S, Hh, C, F, Ba, B', Bo, Be', D', Cr', A', ni, ne, sh, fa) g' ∧ RH (Bd + 19998) Hc' Hn' (nI ch') kp' ch') := by
  obtain ⟨n, e, R0⟩ := id R
  obtain ⟨r, h1, h2, h3⟩ := s_cancel R0 x1 x2
  unfold f_X10_cancel
  rw [wkb1_t h1]
  rcases h3 with ⟨y, hy, hm⟩ | ⟨rfl, b, B', D', C', A', g', k1, k2, k3⟩
  · rw [wky_e (q_throwE r h2 (ym_pos hy (by decide)))]
    exact ⟨_, _, _, _, ch, _, rfl, hm kp (nI ch) 0 cd, Or.inl ⟨r, y, hy, h2, rfl, rfl, rfl, rfl, rfl, rfl⟩⟩
  · obtain ⟨Hc', Hn', m1, m2⟩ := q_remember Rh (Tc, W, S, Hh, C, F, Ba, B, Bo, Be, D, Cr, A, ni, ne, sh, fa) g R
    rw [wky_t q_throw0, wkb3_t m1, wkb6_t k1]
    refine ⟨_, _, _, _, kch ch, _, rfl, (k3 kp (nI ch) 0 cd).trans (wkb3_t (q_keeps_g Rh.1)), Or.inr ⟨_, _, _, _, _, _, _, rfl, rfl, ⟨_, _, RC_mono (by omega) hB k2⟩, RH_mono (by omega) hB m2⟩⟩
theorem o_closeBooks {Bd ch : Nat} {Tc Ba Be ni ne sh fa Hn Hk : Int32} {W S Hh C F B Bo D Cr A g kp : Nat → Int32} {Hc : Nat → sC} (R : RCt Bd (Tc, W, S, Hh, C, F, Ba, B, Bo, Be, D, Cr, A, ni, ne, sh, fa) g) (Rh : RH Bd Hc Hn Hk kp ch) (hB : Bd + 19998 < 2 ^ 30) (cd : Int32) :
    ∃ b g' kp' ch' Bo' Be' Hc' Hn', f_X10_closeBooks Tc W S Hh C F Ba B Bo Be D Cr A ni ne sh fa Hc Hn Hk = some (b, Bo', Be', Hc', Hn', nI ch') ∧ f_X11_closeBooks g kp (nI ch) 0 cd = some (b, g', kp', nI ch', 0) ∧
      RCt (Bd + 19998) (Tc, W, S, Hh, C, F, Ba, B, Bo', Be', D, Cr, A, ni, ne, sh, fa) g' ∧ RH (Bd + 19998) Hc' Hn' (nI ch') kp' ch' := by
  obtain ⟨n, e, R0⟩ := id R
  obtain ⟨b, Bo', g', k1, k2, k3⟩ := s_close R0
  obtain ⟨Hc', Hn', m1, m2⟩ := q_remember Rh (Tc, W, S, Hh, C, F, Ba, B, Bo, Be, D, Cr, A, ni, ne, sh, fa) g R
  unfold f_X10_closeBooks
  rw [wkb3_t m1, wkb3_t k1]
  exact ⟨_, _, _, kch ch, _, _, _, _, rfl, (k3 kp (nI ch) 0 cd).trans (wkb3_t (q_keeps_g Rh.1)), ⟨_, _, RC_mono (by omega) hB k2⟩, RH_mono (by omega) hB m2⟩
/-! the state that is saved -/
def RSv (Bd : Nat) (hs : Int32) (c : sC) (sv : Nat → Int32) (is : Int32) : Prop := (hs = 0 ∧ is = 0) ∨ (hs = 1 ∧ is = 1 ∧ RCt Bd c sv)
theorem RSv_mono {Bd Bd' : Nat} {hs is : Int32} {c : sC} {sv : Nat → Int32} (h : Bd ≤ Bd') (h' : Bd' < 2 ^ 30) (R : RSv Bd hs c sv is) : RSv Bd' hs c sv is := by
  rcases R with R | ⟨h1, h2, R⟩
  · exact Or.inl R
  · exact Or.inr ⟨h1, h2, RCt_mono h h' R⟩
theorem o_save {Bd : Nat} {g : Nat → Int32} (c o : sC) (R : RCt Bd c g) (hs cd is : Int32) (sv : Nat → Int32) :
    ∃ b c' sv', f_X10_save hs c.1 c.2.1 c.2.2.1 c.2.2.2.1 c.2.2.2.2.1 c.2.2.2.2.2.1 c.2.2.2.2.2.2.1 c.2.2.2.2.2.2.2.1 c.2.2.2.2.2.2.2.2.1 c.2.2.2.2.2.2.2.2.2.1 c.2.2.2.2.2.2.2.2.2.2.1 c.2.2.2.2.2.2.2.2.2.2.2.1 c.2.2.2.2.2.2.2.2.2.2.2.2.1 c.2.2.2.2.2.2.2.2.2.2.2.2.2.1 c.2.2.2.2.2.2.2.2.2.2.2.2.2.2.1 c.2.2.2.2.2.2.2.2.2.2.2.2.2.2.2.1 c.2.2.2.2.2.2.2.2.2.2.2.2.2.2.2.2
        o.1 o.2.1 o.2.2.1 o.2.2.2.1 o.2.2.2.2.1 o.2.2.2.2.2.1 o.2.2.2.2.2.2.1 o.2.2.2.2.2.2.2.1 o.2.2.2.2.2.2.2.2.1 o.2.2.2.2.2.2.2.2.2.1 o.2.2.2.2.2.2.2.2.2.2.1 o.2.2.2.2.2.2.2.2.2.2.2.1 o.2.2.2.2.2.2.2.2.2.2.2.2.1 o.2.2.2.2.2.2.2.2.2.2.2.2.2.1 o.2.2.2.2.2.2.2.2.2.2.2.2.2.2.1 o.2.2.2.2.2.2.2.2.2.2.2.2.2.2.2.1 o.2.2.2.2.2.2.2.2.2.2.2.2.2.2.2.2 = some (b, 1, c') ∧
      f_X11_save g sv is cd = some (b, sv', 1, 0) ∧ RSv Bd 1 c' sv' 1 := by
  obtain ⟨n, e, R0⟩ := id R
  refine ⟨c.1, cpC o c, shf g sv 0 0 238, ?_, ?_, Or.inr ⟨rfl, rfl, n, e, RC_copy (RC_cg (fun j hj => ?_) R0)⟩⟩
  · unfold f_X10_save
    rw [wkb17_t (q_copy3 o c)]
  · unfold f_X11_save
    rw [wkb1_t (q_cp3 g sv), R0.1.2.1.2.1, R0.1.1]
  · show (if 0 ≤ j ∧ j < 0 + 238 then g (0 + (j - 0)) else _) = g j
    rw [if_pos (by omega), Nat.zero_add, Nat.sub_zero]
theorem o_restore {Bd ch : Nat} {Hn Hk : Int32} {g kp : Nat → Int32} {Hc : Nat → sC} (c o : sC) (R : RCt Bd c g) (Rh : RH Bd Hc Hn Hk kp ch) (hs cd is : Int32) (sv : Nat → Int32) (Rs : RSv Bd hs o sv is) :
    ∃ out b g' ch' cd', f_X10_restore hs c.1 c.2.1 c.2.2.1 c.2.2.2.1 c.2.2.2.2.1 c.2.2.2.2.2.1 c.2.2.2.2.2.2.1 c.2.2.2.2.2.2.2.1 c.2.2.2.2.2.2.2.2.1 c.2.2.2.2.2.2.2.2.2.1 c.2.2.2.2.2.2.2.2.2.2.1 c.2.2.2.2.2.2.2.2.2.2.2.1 c.2.2.2.2.2.2.2.2.2.2.2.2.1 c.2.2.2.2.2.2.2.2.2.2.2.2.2.1 c.2.2.2.2.2.2.2.2.2.2.2.2.2.2.1 c.2.2.2.2.2.2.2.2.2.2.2.2.2.2.2.1 c.2.2.2.2.2.2.2.2.2.2.2.2.2.2.2.2 Hk
        o.1 o.2.1 o.2.2.1 o.2.2.2.1 o.2.2.2.2.1 o.2.2.2.2.2.1 o.2.2.2.2.2.2.1 o.2.2.2.2.2.2.2.1 o.2.2.2.2.2.2.2.2.1 o.2.2.2.2.2.2.2.2.2.1 o.2.2.2.2.2.2.2.2.2.2.1 o.2.2.2.2.2.2.2.2.2.2.2.1 o.2.2.2.2.2.2.2.2.2.2.2.2.1 o.2.2.2.2.2.2.2.2.2.2.2.2.2.1 o.2.2.2.2.2.2.2.2.2.2.2.2.2.2.1 o.2.2.2.2.2.2.2.2.2.2.2.2.2.2.2.1 o.2.2.2.2.2.2.2.2.2.2.2.2.2.2.2.2 = some out ∧
      f_X11_restore g sv is (nI ch) cd = some (b, g', nI ch', cd') ∧
      ((cd' = 1 ∧ b = 0 ∧ g' = g ∧ ch' = ch ∧ out = .inr (xISE, c.1, c.2.1, c.2.2.1, c.2.2.2.1, c.2.2.2.2.1, c.2.2.2.2.2.1, c.2.2.2.2.2.2.1, c.2.2.2.2.2.2.2.1, c.2.2.2.2.2.2.2.2.1, c.2.2.2.2.2.2.2.2.2.1, c.2.2.2.2.2.2.2.2.2.2.1, c.2.2.2.2.2.2.2.2.2.2.2.1, c.2.2.2.2.2.2.2.2.2.2.2.2.1, c.2.2.2.2.2.2.2.2.2.2.2.2.2.1, c.2.2.2.2.2.2.2.2.2.2.2.2.2.2.1, c.2.2.2.2.2.2.2.2.2.2.2.2.2.2.2.1, c.2.2.2.2.2.2.2.2.2.2.2.2.2.2.2.2, Hk)) ∨
       ∃ c' : sC, cd' = 0 ∧ RCt Bd c' g' ∧ RH Bd Hc Hn (nI ch') kp ch' ∧ out = .inl (b, c'.1, c'.2.1, c'.2.2.1, c'.2.2.2.1, c'.2.2.2.2.1, c'.2.2.2.2.2.1, c'.2.2.2.2.2.2.1, c'.2.2.2.2.2.2.2.1, c'.2.2.2.2.2.2.2.2.1, c'.2.2.2.2.2.2.2.2.2.1, c'.2.2.2.2.2.2.2.2.2.2.1, c'.2.2.2.2.2.2.2.2.2.2.2.1, c'.2.2.2.2.2.2.2.2.2.2.2.2.1, c'.2.2.2.2.2.2.2.2.2.2.2.2.2.1, c'.2.2.2.2.2.2.2.2.2.2.2.2.2.2.1, c'.2.2.2.2.2.2.2.2.2.2.2.2.2.2.2.1, c'.2.2.2.2.2.2.2.2.2.2.2.2.2.2.2.2, nI ch')) := by
  obtain ⟨-, -, nx, h3, h4, -⟩ := id Rh
  unfold f_X10_restore f_X11_restore
  rcases Rs with ⟨rfl, rfl⟩ | ⟨rfl, rfl, n, e, Rs⟩
  · rw [if_pos rfl, if_pos rfl]
    exact ⟨_, 0, g, ch, 1, rfl, rfl, Or.inl ⟨rfl, rfl, rfl, rfl, rfl⟩⟩
  · rw [if_neg one_ne, if_neg one_ne, wkb17_t (q_copy3 c o)]
    have Rc : RC n e Bd (cpC c o) (shf sv g 0 0 238) := RC_copy (RC_cg (fun j hj => by
      show (if 0 ≤ j ∧ j < 0 + 238 then sv (0 + (j - 0)) else _) = sv j
      rw [if_pos (by omega), Nat.zero_add, Nat.sub_zero]) Rs)
    refine ⟨_, nI n, shf sv g 0 0 238, 0, 0, rfl, ?_, Or.inr ⟨cpC c o, rfl, ⟨n, e, Rc⟩, ⟨by omega, rfl, nx, h3, h4, fun i hi => absurd hi (by omega)⟩, ?_⟩⟩
    · unfold f_X11_restore_L13
      rw [wkb2_t (q_fails0 cd), if_pos rfl, wkb1_t (q_cp3 sv g), Rc.1.2.1.2.1]
      rfl
    · rw [← show (cpC c o).1 = nI n from Rc.1.1]
      rfl
