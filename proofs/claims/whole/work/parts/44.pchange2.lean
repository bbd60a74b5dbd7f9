/-! PURE LAYER: the changes, continued -/
theorem wkb3_cg {α β δ γ : Type} {o : Option (α × β × δ)} {k k' : α → β → δ → Option γ} (h : ∀ a b c, k a b c = k' a b c) : wkb3 o k = wkb3 o k' := by
  cases o with
  | none => rfl
  | some t => exact h t.1 t.2.1 t.2.2
def hrg (g : Nat → Int32) (n j1 j2 j3 j4 : Nat) : Nat → Int32 := upd (upd (upd (upd (upd (upd g (6 + 5 * n) (nI j1)) (6 + 5 * n + 1) (nI j2)) (6 + 5 * n + 2) (nI j3)) (6 + 5 * n + 3) (nI j4)) (6 + 5 * n + 4) 0) 0 (nI (n + 1))
theorem hrg_at {g : Nat → Int32} {n j1 j2 j3 j4 j : Nat} : hrg g n j1 j2 j3 j4 j = if j = 0 then nI (n + 1) else if j = 6 + 5 * n + 4 then 0 else if j = 6 + 5 * n + 3 then nI j4 else if j = 6 + 5 * n + 2 then nI j3 else if j = 6 + 5 * n + 1 then nI j2 else if j = 6 + 5 * n then nI j1 else g j := rfl
theorem hrg_x {g : Nat → Int32} {n j1 j2 j3 j4 j : Nat} (h0 : j ≠ 0) (h : j < 6 + 5 * n ∨ 6 + 5 * n + 5 ≤ j) : hrg g n j1 j2 j3 j4 j = g j := by
  rw [hrg_at, if_neg h0, if_neg (by omega), if_neg (by omega), if_neg (by omega), if_neg (by omega), if_neg (by omega)]
theorem hrg_0 {g : Nat → Int32} {n j1 j2 j3 j4 : Nat} : hrg g n j1 j2 j3 j4 (6 + 5 * n) = nI j1 := by
  rw [hrg_at, if_neg (by omega), if_neg (by omega), if_neg (by omega), if_neg (by omega), if_neg (by omega), if_pos rfl]
theorem hrg_1 {g : Nat → Int32} {n j1 j2 j3 j4 : Nat} : hrg g n j1 j2 j3 j4 (6 + 5 * n + 1) = nI j2 := by
  rw [hrg_at, if_neg (by omega), if_neg (by omega), if_neg (by omega), if_neg (by omega), if_pos rfl]
theorem hrg_2 {g : Nat → Int32} {n j1 j2 j3 j4 : Nat} : hrg g n j1 j2 j3 j4 (6 + 5 * n + 2) = nI j3 := by
  rw [hrg_at, if_neg (by omega), if_neg (by omega), if_neg (by omega), if_pos rfl]
theorem hrg_3 {g : Nat → Int32} {n j1 j2 j3 j4 : Nat} : hrg g n j1 j2 j3 j4 (6 + 5 * n + 3) = nI j4 := by
  rw [hrg_at, if_neg (by omega), if_neg (by omega), if_pos rfl]
theorem hrg_4 {g : Nat → Int32} {n j1 j2 j3 j4 : Nat} : hrg g n j1 j2 j3 j4 (6 + 5 * n + 4) = 0 := by
  rw [hrg_at, if_neg (by omega), if_pos rfl]
theorem gA_hrg {g : Nat → Int32} {n j1 j2 j3 j4 : Nat} (G : gA n g) (hn : n < 6) (a1 : 30 ≤ j1) (b1 : j1 ≤ 120) (b2 : j2 ≤ 400) (a3 : 100 ≤ j3) (b3 : j3 ≤ 200) (a4 : 1 ≤ j4) (b4 : j4 ≤ 50) : gA (n + 1) (hrg g n j1 j2 j3 j4) := by
  refine ⟨by omega, by rw [hrg_at, if_pos rfl], fun k hk => ?_⟩
  unfold gW gS gH gC gF
  rw [if_pos (show k < 6 by omega)]
  by_cases h : k = n
  · subst h
    rw [hrg_0, hrg_1, hrg_2, hrg_3, hrg_4, if_pos hn, if_pos hn, if_pos hn, if_pos hn, nI_clamp (by omega), nI_clamp (by omega), nI_clamp (by omega), nI_clamp (by omega)]
    exact ⟨⟨rfl, a1, b1⟩, ⟨rfl, b2⟩, ⟨rfl, a3, b3⟩, ⟨rfl, a4, b4⟩, rfl, by decide⟩
  · have := G.2.2 k (by omega)
    unfold gW gS gH gC gF at this
    rw [if_pos (show k < 6 by omega)] at this
    rw [hrg_x (by omega) (by omega), hrg_x (by omega) (by omega), hrg_x (by omega) (by omega), hrg_x (by omega) (by omega), hrg_x (by omega) (by omega)]
    exact this
theorem q_hireM {g : Nat → Int32} {n j1 j2 j3 j4 : Nat} (hg : g 0 = nI n) (hn : n < 6) (w : Int32) (kp : Nat → Int32) (ch cd : Int32) :
    f_X11_addAcrobat_L66 w (nI j1) (nI j2) (nI j3) (nI j4) 0 g kp ch cd = wkb3 (f_X11_keeps_g g kp ch w 0) (fun w5 w6 w7 => some (nI n, hrg g n j1 j2 j3 j4, w5, w6, w7)) := by
  unfold f_X11_addAcrobat_L66
  have e0 : ((6 : Int32) + (5 * nI n)) + 0 = nI (6 + 5 * n) := by
    rw [show (5 : Int32) = nI 5 from rfl, show (6 : Int32) = nI 6 from rfl, show (0 : Int32) = nI 0 from rfl, pk_mul, nI_add, nI_add, Nat.add_zero]
  have e1 : ((6 : Int32) + (5 * nI n)) + 1 = nI (6 + 5 * n + 1) := by
    rw [show (5 : Int32) = nI 5 from rfl, show (6 : Int32) = nI 6 from rfl, pk_mul, nI_add, nI_1]
  have e2 : ((6 : Int32) + (5 * nI n)) + 2 = nI (6 + 5 * n + 2) := by
    rw [show (5 : Int32) = nI 5 from rfl, show (6 : Int32) = nI 6 from rfl, show (2 : Int32) = nI 2 from rfl, pk_mul, nI_add, nI_add]
  have e3 : ((6 : Int32) + (5 * nI n)) + 3 = nI (6 + 5 * n + 3) := by
    rw [show (5 : Int32) = nI 5 from rfl, show (6 : Int32) = nI 6 from rfl, show (3 : Int32) = nI 3 from rfl, pk_mul, nI_add, nI_add]
  have e4 : ((6 : Int32) + (5 * nI n)) + 4 = nI (6 + 5 * n + 4) := by
    rw [show (5 : Int32) = nI 5 from rfl, show (6 : Int32) = nI 6 from rfl, show (4 : Int32) = nI 4 from rfl, pk_mul, nI_add, nI_add]
  rw [wkb2_t (q_fails0 cd), if_pos rfl]
  simp only [hg, e0, e1, e2, e3, e4, gin_t (show vp_in (nI (6 + 5 * n)) 238 from vp_in_nI (by omega) (by decide)), gin_t (show vp_in (nI (6 + 5 * n + 1)) 238 from vp_in_nI (by omega) (by decide)), gin_t (show vp_in (nI (6 + 5 * n + 2)) 238 from vp_in_nI (by omega) (by decide)), gin_t (show vp_in (nI (6 + 5 * n + 3)) 238 from vp_in_nI (by omega) (by decide)), gin_t (show vp_in (nI (6 + 5 * n + 4)) 238 from vp_in_nI (by omega) (by decide)), wkl_t, nI_clamp (show 6 + 5 * n < 2 ^ 31 by omega), nI_clamp (show 6 + 5 * n + 1 < 2 ^ 31 by omega), nI_clamp (show 6 + 5 * n + 2 < 2 ^ 31 by omega), nI_clamp (show 6 + 5 * n + 3 < 2 ^ 31 by omega), nI_clamp (show 6 + 5 * n + 4 < 2 ^ 31 by omega)]
  have k0 : upd (upd (upd (upd (upd g (6 + 5 * n) (nI j1)) (6 + 5 * n + 1) (nI j2)) (6 + 5 * n + 2) (nI j3)) (6 + 5 * n + 3) (nI j4)) (6 + 5 * n + 4) 0 0 = nI n := by
    rw [pk_un (by omega), pk_un (by omega), pk_un (by omega), pk_un (by omega), pk_un (by omega), hg]
  rw [k0, nI_1, pk_us, show nI (n + 1) - 1 = nI n from by rw [show (1 : Int32) = nI 1 from rfl, pk_sub (by omega)]; rfl]
  rfl
theorem s_hire {n e Bd : Nat} {Tc Ba Be ni ne sh fa : Int32} {W S Hh C F B Bo D Cr A g : Nat → Int32} (R : RC n e Bd (Tc, W, S, Hh, C, F, Ba, B, Bo, Be, D, Cr, A, ni, ne, sh, fa) g) (x1 x2 x3 x4 : Int32) :
    ∃ r, f_X3_refusalToHire Tc x1 x2 x3 x4 = some r ∧ r < 5 ∧ ((∃ y, ym [2, 3] r y ∧ mNo (fun kp ch w cd => f_X11_addAcrobat g kp ch w cd x1 x2 x3 x4) g y) ∨
      (r = 0 ∧ ∃ b Tc' W' S' H' C' Ba' g', f_X3_hire Tc W S Hh C Ba x1 x2 x3 x4 = some (b, Tc', W', S', H', C', Ba') ∧ RC (n + 1) e Bd (Tc', W', S', H', C', F, Ba', B, Bo, Be, D, Cr, A, ni, ne, sh, fa) g' ∧ mYes (fun kp ch w cd => f_X11_addAcrobat g kp ch w cd x1 x2 x3 x4) g b g')) := by
  have R' := R
  obtain ⟨R1, R2, R3, R4⟩ := R'
  have R1 : RT n Tc W S Hh C F g := R1
  have R2 : RB n e Ba B Bo Be D Cr A g := R2
  have R4 : RN ni ne sh fa g := R4
  have hn := R1.2.1.1
  have hTc := R1.1
  have hg0 := R1.2.1.2.1
  have hBa : Ba = nI (5 + n) := R2.2.1
  subst hBa hTc
  unfold f_X3_refusalToHire
  simp only [btw_eq]
  rcases bt 30 120 (by decide) (by decide) x1 with h | ⟨j1, a1, b1, rfl, h1⟩
  · have h : f_X11_in x1 30 120 = some 0 := h
    refine ⟨2, by rw [wkb1_t h]; rfl, by decide, Or.inl ⟨1, ⟨0, rfl, rfl⟩, fun kp ch w cd => ?_⟩⟩
    show f_X11_addAcrobat g kp ch w cd x1 x2 x3 x4 = _
    unfold f_X11_addAcrobat
    rw [wkb1_t h]
    rfl
  have h1 : f_X11_in (nI j1) 30 120 = some 1 := h1
  rw [wkb1_t h1, if_neg one_ne]
  rcases bt 0 400 (by decide) (by decide) x2 with h | ⟨j2, a2, b2, rfl, h2⟩
  · have h : f_X11_in x2 0 400 = some 0 := h
    refine ⟨2, by rw [wkb1_t h]; rfl, by decide, Or.inl ⟨1, ⟨0, rfl, rfl⟩, fun kp ch w cd => ?_⟩⟩
    show f_X11_addAcrobat g kp ch w cd _ x2 x3 x4 = _
    unfold f_X11_addAcrobat
    rw [wkb1_t h1, if_neg one_ne, wkb1_t h]
    rfl
  have h2 : f_X11_in (nI j2) 0 400 = some 1 := h2
  rw [wkb1_t h2, if_neg one_ne]
  rcases bt 100 200 (by decide) (by decide) x3 with h | ⟨j3, a3, b3, rfl, h3⟩
  · have h : f_X11_in x3 100 200 = some 0 := h
    refine ⟨2, by rw [wkb1_t h]; rfl, by decide, Or.inl ⟨1, ⟨0, rfl, rfl⟩, fun kp ch w cd => ?_⟩⟩
    show f_X11_addAcrobat g kp ch w cd _ _ x3 x4 = _
    unfold f_X11_addAcrobat
    rw [wkb1_t h1, if_neg one_ne, wkb1_t h2, if_neg one_ne, wkb1_t h]
    rfl
  have h3 : f_X11_in (nI j3) 100 200 = some 1 := h3
  rw [wkb1_t h3, if_neg one_ne]
  rcases bt 1 50 (by decide) (by decide) x4 with h | ⟨j4, a4, b4, rfl, h4⟩
  · have h : f_X11_in x4 1 50 = some 0 := h
    refine ⟨2, by rw [wkb1_t h]; rfl, by decide, Or.inl ⟨1, ⟨0, rfl, rfl⟩, fun kp ch w cd => ?_⟩⟩
    show f_X11_addAcrobat g kp ch w cd _ _ _ x4 = _
    unfold f_X11_addAcrobat
    rw [wkb1_t h1, if_neg one_ne, wkb1_t h2, if_neg one_ne, wkb1_t h3, if_neg one_ne, wkb1_t h]
    rfl
  have h4 : f_X11_in (nI j4) 1 50 = some 1 := h4
  rw [wkb1_t h4, if_neg one_ne]
  have hM : ∀ kp ch w cd, f_X11_addAcrobat g kp ch w cd (nI j1) (nI j2) (nI j3) (nI j4) = (if nI n = 6 then (f_X11_addAcrobat_L66 w (nI j1) (nI j2) (nI j3) (nI j4) 2 g kp ch cd) else (f_X11_addAcrobat_L66 w (nI j1) (nI j2) (nI j3) (nI j4) 0 g kp ch cd)) := fun kp ch w cd => by
    unfold f_X11_addAcrobat
    rw [wkb1_t h1, if_neg one_ne, wkb1_t h2, if_neg one_ne, wkb1_t h3, if_neg one_ne, wkb1_t h4, if_neg one_ne, hg0]
  by_cases h6 : n = 6
  · subst h6
    refine ⟨3, rfl, by decide, Or.inl ⟨2, ⟨1, rfl, rfl⟩, fun kp ch w cd => ?_⟩⟩
    show f_X11_addAcrobat g kp ch w cd _ _ _ _ = _
    rw [hM]
    rfl
  have hn6 : n < 6 := by omega
  refine ⟨0, if_pos (show nI n < (6 : Int32) from nI_lt (b := 6) hn6 (by decide)), by decide, Or.inr ⟨rfl, nI n, nI (n + 1), upd W n (nI j1), upd S n (nI j2), upd Hh n (nI j3), upd C n (nI j4), nI (5 + (n + 1)), hrg g n j1 j2 j3 j4, ?_, ⟨?_, ?_, ?_, ?_⟩, fun kp ch w cd => ?_⟩⟩
  · unfold f_X3_hire f_X2_openAccount f_X9_add
    have ii : vp_in (nI n) 6 := vp_in_nI hn6 (by decide)
    simp only [gin_t ii, wkl_t, nI_clamp (show n < 2 ^ 31 by omega), nI_1]
    rfl
  · show RT (n + 1) (nI (n + 1)) (upd W n (nI j1)) (upd S n (nI j2)) (upd Hh n (nI j3)) (upd C n (nI j4)) F _
    obtain ⟨-, r2, r3, r4⟩ := R1
    refine ⟨rfl, gA_hrg r2 hn6 a1 b1 b2 a3 b3 a4 b4, fun k hk => ?_, fun k h1 h2 => by rw [hrg_x (by omega) (by omega)]; exact r4 k (by omega) h2⟩
    by_cases h : k = n
    · subst h
      rw [hrg_0, hrg_1, hrg_2, hrg_3, hrg_4, pk_us, pk_us, pk_us, pk_us]
      exact ⟨rfl, rfl, rfl, rfl, (r3 k hk).2.2.2.2.trans (r4 k (Nat.le_refl _) hk)⟩
    · rw [hrg_x (by omega) (by omega), hrg_x (by omega) (by omega), hrg_x (by omega) (by omega), hrg_x (by omega) (by omega), hrg_x (by omega) (by omega), pk_un h, pk_un h, pk_un h, pk_un h]
      exact r3 k hk
  · have q := RB_hi (g' := hrg g n j1 j2 j3 j4) (fun j hj => hrg_x (by omega) (by omega)) R2
    exact ⟨q.1, rfl, q.2.2⟩
  · exact gB_hi (fun j hj => hrg_x (by omega) (by omega)) (hrg_x (by decide) (by omega)) (by omega) (by omega) R3
  · exact RN_lo (fun j hj => hrg_x (by omega) (by omega)) R4
  · show f_X11_addAcrobat g kp ch w cd _ _ _ _ = _
    rw [hM, if_neg (show ¬ nI n = (6 : Int32) from fun q => h6 ((nI_eq (b := 6) (by omega) (by omega)).mp q)), q_hireM hg0 hn6]
theorem s_net {n e Bd : Nat} {Tc Ba Be ni ne sh fa : Int32} {W S Hh C F B Bo D Cr A g : Nat → Int32} (R : RC n e Bd (Tc, W, S, Hh, C, F, Ba, B, Bo, Be, D, Cr, A, ni, ne, sh, fa) g) (x1 : Int32) :
    ∃ r, f_X3_refusalToSpan x1 = some r ∧ r < 5 ∧ ((∃ y, ym [2] r y ∧ mNo (fun kp ch w cd => f_X11_setNet g kp ch w cd x1) g y) ∨
      (r = 0 ∧ ∃ b ne' g', f_X3_spanNet ne x1 = some (b, ne') ∧ RC n e Bd (Tc, W, S, Hh, C, F, Ba, B, Bo, Be, D, Cr, A, ni, ne', sh, fa) g' ∧ mYes (fun kp ch w cd => f_X11_setNet g kp ch w cd x1) g b g')) := by
  obtain ⟨R1, R2, R3, R4⟩ := R
  have R1 : RT n Tc W S Hh C F g := R1
  have R2 : RB n e Ba B Bo Be D Cr A g := R2
  have R4 : RN ni ne sh fa g := R4
  unfold f_X3_refusalToSpan
  rw [btw_eq]
  rcases bt 0 5 (by decide) (by decide) x1 with h | ⟨q, -, hq, rfl, h⟩
  · have h : f_X11_in x1 0 5 = some 0 := h
    refine ⟨2, by rw [wkb1_t h]; rfl, by decide, Or.inl ⟨1, ⟨0, rfl, rfl⟩, fun kp ch w cd => ?_⟩⟩
    show f_X11_setNet g kp ch w cd x1 = _
    unfold f_X11_setNet
    rw [wkb1_t h]
    rfl
  have h : f_X11_in (nI q) 0 5 = some 1 := h
  obtain ⟨r1, r2, r3, r4, q0, hq0, r5⟩ := R4
  refine ⟨0, by rw [wkb1_t h]; rfl, by decide, Or.inr ⟨rfl, ne, nI q, upd g 2 (nI q), rfl, ⟨?_, ?_, ?_, ?_⟩, fun kp ch w cd => ?_⟩⟩
  · exact RT_lo (fun j _ h => pk_un (by omega)) R1
  · exact RB_hi (fun j _ => pk_un (by omega)) R2
  · exact gB_hi (fun j _ => pk_un (by omega)) (pk_un (by decide)) (Nat.le_refl _) R3.1.1 R3
  · exact ⟨r1.trans (pk_un (by decide)).symm, pk_us.symm, r3.trans (pk_un (by decide)).symm, r4.trans (pk_un (by decide)).symm, q, hq, pk_us⟩
  · show f_X11_setNet g kp ch w cd (nI q) = _
    unfold f_X11_setNet
    rw [wkb1_t h, if_neg one_ne]
    unfold f_X11_setNet_L15
    rw [wkb2_t (q_fails0 cd), if_pos rfl, r2]
    rfl
theorem RC_pass {n e Bd t : Nat} {Tc Ba Be ni ne sh fa : Int32} {W S Hh C F B Bo D Cr A g : Nat → Int32} (R : RC n e Bd (Tc, W, S, Hh, C, F, Ba, B, Bo, Be, D, Cr, A, ni, ne, sh, fa) g) (ht : t ≤ 99) :
    ∃ F', f_X3_waitNights Tc F ni (nI t) = some (nI (hct (gF g) t n), F', ni + nI t) ∧ f_X11_passes g (nI t) = some (nI (hct (gF g) t n), hlg g t n) ∧ RC n e Bd (Tc, W, S, Hh, C, F', Ba, B, Bo, Be, D, Cr, A, ni + nI t, ne, sh, fa) (hlg g t n) := by
  obtain ⟨R1, R2, R3, R4⟩ := R
  have R1 : RT n Tc W S Hh C F g := R1
  have R2 : RB n e Ba B Bo Be D Cr A g := R2
  have R4 : RN ni ne sh fa g := R4
  have hn := R1.2.1.1
  have hTc := R1.1
  subst hTc
  have hh : ∀ j, j ≠ 1 → (j < 6 ∨ 36 ≤ j) → hlg g t n j = g j := fun j h1 h2 => hlg_else h1 (fun k hk => by omega)
  have hk5 : ∀ k o, o < 4 → hlg g t n (6 + 5 * k + o) = g (6 + 5 * k + o) := fun k o ho => hlg_else (by omega) (fun k' hk' => by omega)
  have hk0 : ∀ k, hlg g t n (6 + 5 * k) = g (6 + 5 * k) := fun k => hk5 k 0 (by decide)
  have F6 : ∀ k, k < n → hlg g t n (6 + 5 * k + 4) = nI (gF g k - t) := fun k hk => hlg_hurt hk
  have F7 : ∀ k, n ≤ k → hlg g t n (6 + 5 * k + 4) = g (6 + 5 * k + 4) := fun k hk => hlg_else (by omega) (fun k' hk' => by omega)
  refine ⟨hlF F (gF g) t n, ?_, q_passes R1.2.1 ht, ⟨?_, ?_, ?_, ?_⟩⟩
  · unfold f_X3_waitNights
    rw [wkl_t, wkb2_t (q_heal hn ht (RT_f R1))]
  · obtain ⟨r1, ⟨g1, g2, g3⟩, r3, r4⟩ := R1
    refine ⟨rfl, ⟨g1, (hh 0 (by decide) (by omega)).trans g2, fun k hk => ?_⟩, fun k hk => ?_, fun k h1 h2 => (F7 k h1).trans (r4 k h1 h2)⟩
    · obtain ⟨s1, s2, s3, s4, s5, s6⟩ := g3 k hk
      have w1 : gW (hlg g t n) k = gW g k := by unfold gW; rw [hk0]
      have w2 : gS (hlg g t n) k = gS g k := by unfold gS; rw [hk5 k 1 (by decide)]
      have w3 : gH (hlg g t n) k = gH g k := by unfold gH; rw [hk5 k 2 (by decide)]
      have w4 : gC (hlg g t n) k = gC g k := by unfold gC; rw [hk5 k 3 (by decide)]
      have w5 : gF (hlg g t n) k = gF g k - t := by
        show (if k < 6 then (hlg g t n (6 + 5 * k + 4)).toNatClampNeg else 0) = _
        rw [if_pos (by omega), F6 k hk, nI_clamp (by omega)]
      rw [w1, w2, w3, w4, w5, hk0, hk5 k 1 (by decide), hk5 k 2 (by decide), hk5 k 3 (by decide), F6 k hk]
      exact ⟨s1, s2, s3, s4, rfl, by omega⟩
    · obtain ⟨s1, s2, s3, s4, s5⟩ := r3 k hk
      rw [hk0, hk5 k 1 (by decide), hk5 k 2 (by decide), hk5 k 3 (by decide)]
      refine ⟨s1, s2, s3, s4, ?_⟩
      show (if k < n then nI (gF g k - t) else F k) = _
      by_cases h : k < n
      · rw [if_pos h, F6 k h]
      · rw [if_neg h, F7 k (by omega), s5]
  · exact RB_hi (fun j hj => hh j (by omega) (Or.inr hj)) R2
  · exact gB_hi (fun j hj => hh j (by omega) (Or.inr hj)) (hh 3 (by decide) (by omega)) (Nat.le_refl _) hn R3
  · obtain ⟨r1, r2, r3, r4, q0, hq0, r5⟩ := R4
    refine ⟨?_, r2.trans (hh 2 (by decide) (by omega)).symm, r3.trans (hh 4 (by decide) (by omega)).symm, r4.trans (hh 5 (by decide) (by omega)).symm, q0, hq0, (hh 2 (by decide) (by omega)).trans r5⟩
    show ni + nI t = hlg g t n 1
    rw [show ni = g 1 from r1]
    exact (if_pos rfl).symm
theorem s_wait {n e Bd : Nat} {Tc Ba Be ni ne sh fa : Int32} {W S Hh C F B Bo D Cr A g : Nat → Int32} (R : RC n e Bd (Tc, W, S, Hh, C, F, Ba, B, Bo, Be, D, Cr, A, ni, ne, sh, fa) g) (x1 : Int32) :
    ∃ r, f_X3_refusalToWait x1 = some r ∧ r < 5 ∧ ((∃ y, ym [2] r y ∧ mNo (fun kp ch w cd => f_X11_passNights g kp ch w cd x1) g y) ∨
      (r = 0 ∧ ∃ b F' ni' g', f_X3_waitNights Tc F ni x1 = some (b, F', ni') ∧ RC n e Bd (Tc, W, S, Hh, C, F', Ba, B, Bo, Be, D, Cr, A, ni', ne, sh, fa) g' ∧ mYes (fun kp ch w cd => f_X11_passNights g kp ch w cd x1) g b g')) := by
  unfold f_X3_refusalToWait
  rw [btw_eq]
  rcases bt 1 99 (by decide) (by decide) x1 with h | ⟨t, -, ht, rfl, h⟩
  · have h : f_X11_in x1 1 99 = some 0 := h
    refine ⟨2, by rw [wkb1_t h]; rfl, by decide, Or.inl ⟨1, ⟨0, rfl, rfl⟩, fun kp ch w cd => ?_⟩⟩
    show f_X11_passNights g kp ch w cd x1 = _
    unfold f_X11_passNights
    rw [wkb1_t h]
    rfl
  have h : f_X11_in (nI t) 1 99 = some 1 := h
  obtain ⟨F', k1, k2, k3⟩ := RC_pass R ht
  refine ⟨0, by rw [wkb1_t h]; rfl, by decide, Or.inr ⟨rfl, _, F', _, _, k1, k3, fun kp ch w cd => ?_⟩⟩
  show f_X11_passNights g kp ch w cd (nI t) = _
  unfold f_X11_passNights
  rw [wkb1_t h, if_neg one_ne, wkb2_t (q_fails0 cd), if_pos rfl, k2]
  rfl
/-! closing the books -/
def cl1 (g : Nat → Int32) (i : Nat) : Nat → Int32 := fun j => if 47 ≤ j ∧ j < 47 + i then g (j - 11) else g j
def cl2 (g : Nat → Int32) (i : Nat) : Nat → Int32 := fun j => if 58 ≤ j ∧ j < i then 0 else cl1 g 11 j
def clo (g : Nat → Int32) : Nat → Int32 := upd (cl2 g 238) 3 0
theorem q_cl50 {g kp : Nat → Int32} (w b ch cd : Int32) : f_X11_closeBooks_L50 w FU b 58 (cl1 g 11) kp ch cd = some (b, clo g, kp, ch, cd) := by
  have key := lupF (fun nn acc i => f_X11_closeBooks_L50 w nn b i acc kp ch cd) 58 238 (fun i => cl2 g i) (some (b, clo g, kp, ch, cd)) (by decide) (by decide) ?_ ?_
  · have z : cl2 g 58 = cl1 g 11 := by
      funext j
      exact if_neg (by omega)
    rw [z] at key
    exact key
  · intro nn
    show f_X11_closeBooks_L50 w (nn + 1) b (nI 238) (cl2 g 238) kp ch cd = _
    rw [f_X11_closeBooks_L50]
    exact if_pos (by decide)
  · intro nn i h1 hi
    show f_X11_closeBooks_L50 w (nn + 1) b (nI i) (cl2 g i) kp ch cd = f_X11_closeBooks_L50 w nn b (nI (i + 1)) (cl2 g (i + 1)) kp ch cd
    rw [f_X11_closeBooks_L50, if_neg (show ¬ (238 : Int32) ≤ nI i from nI_ge (b := 238) hi (by decide)), gin_t (vp_in_nI (by omega) (by decide)), wkl_t, nI_clamp (by omega), nI_1]
    have : upd (cl2 g i) i 0 = cl2 g (i + 1) := by
      funext j
      rw [up_at]
      unfold cl2
      by_cases h : j = i
      · rw [if_pos h, if_pos (by omega)]
      · rw [if_neg h]
        by_cases h' : 58 ≤ j ∧ j < i
        · rw [if_pos h', if_pos (by omega)]
        · rw [if_neg h', if_neg (by omega)]
    rw [this]
theorem q_cl17 {g kp : Nat → Int32} (w b ch cd : Int32) : f_X11_closeBooks_L17 w FU b 0 g kp ch cd = some (b, clo g, kp, ch, cd) := by
  have key := lupF (fun nn acc i => f_X11_closeBooks_L17 w nn b i acc kp ch cd) 0 11 (fun i => cl1 g i) (some (b, clo g, kp, ch, cd)) (by decide) (by decide) ?_ ?_
  · have z : cl1 g 0 = g := by
      funext j
      exact if_neg (by omega)
    rw [z] at key
    exact key
  · intro nn
    show f_X11_closeBooks_L17 w (nn + 1) b (nI 11) (cl1 g 11) kp ch cd = _
    rw [f_X11_closeBooks_L17, if_pos (by decide), q_cl50]
  · intro nn i h1 hi
    show f_X11_closeBooks_L17 w (nn + 1) b (nI i) (cl1 g i) kp ch cd = f_X11_closeBooks_L17 w nn b (nI (i + 1)) (cl1 g (i + 1)) kp ch cd
    rw [f_X11_closeBooks_L17, if_neg (show ¬ (11 : Int32) ≤ nI i from nI_ge (b := 11) hi (by decide)), e36, e47, gin_t (vp_in_nI (by omega) (by decide)), gin_t (vp_in_nI (by omega) (by decide)), wkl_t, nI_clamp (by omega), nI_clamp (by omega), nI_1]
    have : upd (cl1 g i) (47 + i) (cl1 g i (36 + i)) = cl1 g (i + 1) := by
      funext j
      rw [up_at]
      unfold cl1
      by_cases h : j = 47 + i
      · rw [if_pos h, if_neg (by omega), if_pos (by omega)]
        congr 1
        omega
      · rw [if_neg h]
        by_cases h' : 47 ≤ j ∧ j < 47 + i
        · rw [if_pos h', if_pos (by omega)]
        · rw [if_neg h', if_neg (by omega)]
    rw [this]
theorem clo_lo {g : Nat → Int32} {j : Nat} (h : j < 47) (h3 : j ≠ 3) : clo g j = g j := by
  unfold clo
  rw [pk_un h3]
  show (if _ then _ else (if _ then _ else _)) = _
  rw [if_neg (by omega), if_neg (by omega)]
theorem clo_o {g : Nat → Int32} {k : Nat} (h : k < 11) : clo g (47 + k) = g (36 + k) := by
  unfold clo
  rw [pk_un (by omega)]
  show (if _ then _ else (if _ then g (47 + k - 11) else _)) = _
  rw [if_neg (by omega), if_pos (by omega)]
  congr 1
  omega
theorem s_close {n e Bd : Nat} {Tc Ba Be ni ne sh fa : Int32} {W S Hh C F B Bo D Cr A g : Nat → Int32} (R : RC n e Bd (Tc, W, S, Hh, C, F, Ba, B, Bo, Be, D, Cr, A, ni, ne, sh, fa) g) :
    ∃ b Bo' g', f_X2_close B Bo Be = some (b, Bo', 0) ∧ RC n 0 Bd (Tc, W, S, Hh, C, F, Ba, B, Bo', 0, D, Cr, A, ni, ne, sh, fa) g' ∧ mYes (fun kp ch w cd => f_X11_closeBooks g kp ch w cd) g b g' := by
  obtain ⟨R1, R2, R3, R4⟩ := R
  have R1 : RT n Tc W S Hh C F g := R1
  have R2 : RB n e Ba B Bo Be D Cr A g := R2
  have R4 : RN ni ne sh fa g := R4
  refine ⟨Be, va_cpy B Bo 0 0 11, clo g, rfl, ⟨?_, ?_, ?_, ?_⟩, fun kp ch w cd => ?_⟩
  · exact RT_lo (fun j h1 h2 => clo_lo (by omega) (by omega)) R1
  · obtain ⟨r1, r2, r3, r4⟩ := R2
    refine ⟨rfl, r2, fun k hk => ⟨?_, ?_⟩, fun k hk => absurd hk (by omega)⟩
    · rw [clo_lo (by omega) (by omega)]
      exact (r3 k hk).1
    · rw [clo_o hk]
      show va_cpy B Bo 0 0 11 k = _
      rw [cpy0 hk]
      exact (r3 k hk).1
  · obtain ⟨⟨g1, g2, g3, g4⟩, ⟨g5, g6, g7, g8, g9⟩, g10, g11⟩ := R3
    have hb : ∀ k, k < 11 → gb (clo g) k = gb g k := fun k hk => by unfold gb; rw [clo_lo (by omega) (by omega)]
    refine ⟨⟨g1, by decide, g3, pk_us⟩, ⟨by rw [hb 0 (by decide)]; exact g5, by rw [hb 1 (by decide)]; exact g6, by rw [sB_cg hb]; exact g7, by rw [sab_cg hb]; exact g8, fun k h1 h2 => (clo_lo (by omega) (by omega)).trans (g9 k h1 h2)⟩, fun k hk => absurd hk (by omega), fun k hk => ?_⟩
    rw [clo_o hk, clo_lo (by omega) (by omega), js, js, Int32.add_zero, Int32.sub_zero]
  · exact RN_lo (fun j h => clo_lo (by omega) (by omega)) R4
  · show f_X11_closeBooks g kp ch w cd = _
    unfold f_X11_closeBooks
    rw [kg_cd, R2.1, R3.1.2.2.2]
    exact wkb3_cg (fun a b c => q_cl17 w (nI e) b c)
/-! cancelling -/
def opp (u v : Int32) : Prop := (u < 0 ∧ 0 < v) ∨ (0 < u ∧ v < 0)
theorem q_opp1 {u v : Int32} (h : opp u v) : (if (0 : Int32) ≤ (if v < u then v else u) then some (0 : Int32) else (if (if u < v then v else u) ≤ 0 then some 0 else some 1)) = some 1 := by
  unfold opp at h
  have t0 : (0 : Int32).toInt = 0 := rfl
  simp only [Int32.lt_iff_toInt_lt, Int32.le_iff_toInt_le, t0] at *
  rw [if_neg (by split <;> omega), if_neg (by split <;> omega)]
theorem q_opp0 {u v : Int32} (h : ¬ opp u v) : (if (0 : Int32) ≤ (if v < u then v else u) then some (0 : Int32) else (if (if u < v then v else u) ≤ 0 then some 0 else some 1)) = some 0 := by
  unfold opp at h
  have t0 : (0 : Int32).toInt = 0 := rfl
  simp only [Int32.lt_iff_toInt_lt, Int32.le_iff_toInt_le, t0] at *
  by_cases h1 : 0 ≤ (if v.toInt < u.toInt then v else u).toInt
  · rw [if_pos h1]
  · rw [if_neg h1]
    rw [if_pos (by
      revert h1
      split <;> intro h1 <;> split <;> omega)]
theorem neg_toInt {v : Int32} (h : v.toInt.natAbs < 2 ^ 30) : (-v).toInt = -v.toInt := by
  rw [Int32.toInt_neg]
  exact Int.bmod_eq_of_le (by omega) (by omega)
theorem q_amt {u v : Int32} (hu : 0 < u) (hv : v < 0) (au : u.toInt.natAbs < 2 ^ 30) (av : v.toInt.natAbs < 2 ^ 30) :
    ∃ a, 0 < a ∧ a < 2 ^ 30 ∧ (if u < -v then u else -v) = nI a ∧ f_X11_least u (-v) = some (nI a) ∧ f_X11_least (-v) u = some (nI a) ∧ (a : Int) ≤ u.toInt ∧ (a : Int) ≤ -v.toInt := by
  have t0 : (0 : Int32).toInt = 0 := rfl
  rw [Int32.lt_iff_toInt_lt, t0] at hu hv
  have tv := neg_toInt av
  unfold f_X11_least
  by_cases h : u < -v
  · have h' := h
    rw [Int32.lt_iff_toInt_lt, tv] at h'
    rcases ix3 u (2 ^ 30) (by decide) with q | ⟨j, hj, rfl⟩
    · exfalso
      have t1 : (nI (2 ^ 30)).toInt = (2 ^ 30 : Nat) := nI_toInt (by decide)
      rw [Int32.lt_iff_toInt_lt, Int32.le_iff_toInt_le, t0, t1] at q
      omega
    · have tj : (nI j).toInt = j := nI_toInt (by omega)
      rw [if_pos h, if_neg (Int32.not_le.mpr h), if_pos (Int32.le_of_lt h)]
      exact ⟨j, by omega, hj, rfl, rfl, rfl, by omega, by omega⟩
  · have h' := h
    rw [Int32.lt_iff_toInt_lt, tv] at h'
    have hw : ∃ j, j < 2 ^ 30 ∧ -v = nI j := by
      rcases ix3 (-v) (2 ^ 30) (by decide) with q | ⟨j, hj, q⟩
      · exfalso
        have t1 : (nI (2 ^ 30)).toInt = (2 ^ 30 : Nat) := nI_toInt (by decide)
        rw [Int32.lt_iff_toInt_lt, Int32.le_iff_toInt_le, t0, t1, tv] at q
        omega
      · exact ⟨j, hj, q⟩
    obtain ⟨j, hj, q⟩ := hw
    have tj : (nI j).toInt = j := nI_toInt (by omega)
    rw [q] at tv h
    rw [q, if_neg h, if_pos (Int32.not_lt.mp h)]
    refine ⟨j, by omega, hj, rfl, rfl, ?_, by omega, by omega⟩
    by_cases z : u ≤ nI j
    · rw [if_pos z]
      rw [Int32.le_iff_toInt_le] at z
      rw [Int32.lt_iff_toInt_lt] at h
      congr 1
      exact Int32.toInt_inj.mp (by omega)
    · rw [if_neg z]
theorem s_cancel {n e Bd : Nat} {Tc Ba Be ni ne sh fa : Int32} {W S Hh C F B Bo D Cr A g : Nat → Int32} (R : RC n e Bd (Tc, W, S, Hh, C, F, Ba, B, Bo, Be, D, Cr, A, ni, ne, sh, fa) g) (x1 x2 : Int32) :
    ∃ r, f_X3_refusalToOffset Ba B Be x1 x2 = some r ∧ r < 5 ∧ ((∃ y, ym [1, 3] r y ∧ mNo (fun kp ch w cd => f_X11_cancel g kp ch w cd x1 x2) g y) ∨
      (r = 0 ∧ ∃ b B' D' C' A' g', f_X2_offset B Be D Cr A x1 x2 = some (b, B', nI (e + 1), D', C', A') ∧ RC n (e + 1) Bd (Tc, W, S, Hh, C, F, Ba, B', Bo, nI (e + 1), D', C', A', ni, ne, sh, fa) g' ∧ mYes (fun kp ch w cd => f_X11_cancel g kp ch w cd x1 x2) g b g')) := by
  have R' := R
  obtain ⟨R1, R2, R3, R4⟩ := R'
  have R1 : RT n Tc W S Hh C F g := R1
  have R2 : RB n e Ba B Bo Be D Cr A g := R2
  have hn := R1.2.1.1
  have hg0 := R1.2.1.2.1
  have hg3 := R3.1.2.2.2
  have he := R3.1.2.1
  have hBd := R3.1.2.2.1
  have hBa : Ba = nI (5 + n) := R2.2.1
  have hBe : Be = nI e := R2.1
  have hBk := R2.2.2.1
  subst hBa hBe
  unfold f_X3_refusalToOffset
  rcases ix3 x1 (5 + n) (by omega) with h | ⟨p, hp, rfl⟩
  · refine ⟨1, by rw [wkb1_t (q_has20 h)]; rfl, by decide, Or.inl ⟨1, ⟨0, rfl, rfl⟩, fun kp ch w cd => ?_⟩⟩
    show f_X11_cancel g kp ch w cd x1 x2 = _
    unfold f_X11_cancel
    rw [wkb1_t (q_isAcc0 hn hg0 h)]
    rfl
  rw [wkb1_t (q_has2 (by omega) hp), if_neg one_ne]
  rcases ix3 x2 (5 + n) (by omega) with h | ⟨q, hq, rfl⟩
  · refine ⟨1, by rw [wkb1_t (q_has20 h)]; rfl, by decide, Or.inl ⟨1, ⟨0, rfl, rfl⟩, fun kp ch w cd => ?_⟩⟩
    show f_X11_cancel g kp ch w cd (nI p) x2 = _
    unfold f_X11_cancel
    rw [wkb1_t (q_isAcc1 hn hg0 hp), if_neg one_ne, wkb1_t (q_isAcc0 hn hg0 h)]
    rfl
  have ip : vp_in (nI p) 11 := vp_in_nI (by omega) (by decide)
  have iq : vp_in (nI q) 11 := vp_in_nI (by omega) (by decide)
  have ip' : vp_in (nI (36 + p)) 238 := vp_in_nI (by omega) (by decide)
  have iq' : vp_in (nI (36 + q)) 238 := vp_in_nI (by omega) (by decide)
  have bp : B p = g (36 + p) := (hBk p (by omega)).1
  have bq : B q = g (36 + q) := (hBk q (by omega)).1
  have ap : (g (36 + p)).toInt.natAbs ≤ Bd := gb_abs R3 (by omega)
  have aq : (g (36 + q)).toInt.natAbs ≤ Bd := gb_abs R3 (by omega)
  rw [wkb1_t (q_has2 (by omega) hq), if_neg one_ne]
  have hO : f_X2_areOpposed B (nI p) (nI q) = (if (0 : Int32) ≤ (if g (36 + q) < g (36 + p) then g (36 + q) else g (36 + p)) then some (0 : Int32) else (if (if g (36 + p) < g (36 + q) then g (36 + q) else g (36 + p)) ≤ 0 then some 0 else some 1)) := by
    unfold f_X2_areOpposed
    simp only [gin_t ip, gin_t iq, nI_clamp (show p < 2 ^ 31 by omega), nI_clamp (show q < 2 ^ 31 by omega), bp, bq]
  have hM : ∀ kp ch w cd, f_X11_cancel g kp ch w cd (nI p) (nI q) = (if g (36 + p) ≤ 0 then
        (f_X11_cancel_L61 w (nI p) (nI q) (g (36 + p)) (g (36 + q)) g kp ch 0)
      else
        (if g (36 + q) < 0 then
          (f_X11_cancel_L70 w (nI p) (nI q) (g (36 + p)) (g (36 + q)) g kp ch 0)
        else
          (f_X11_cancel_L61 w (nI p) (nI q) (g (36 + p)) (g (36 + q)) g kp ch 0))) := fun kp ch w cd => by
    unfold f_X11_cancel
    rw [wkb1_t (q_isAcc1 hn hg0 hp), if_neg one_ne, wkb1_t (q_isAcc1 hn hg0 hq), if_neg one_ne]
    unfold f_X11_cancel_L22
    rw [wkb2_t (q_fails0 cd), if_pos rfl, e36, e36, gin_t ip', gin_t iq', nI_clamp (by omega), nI_clamp (by omega)]
  have t0 : (0 : Int32).toInt = 0 := rfl
  have h70 : opp (g (36 + p)) (g (36 + q)) → ∀ kp ch w cd, f_X11_cancel g kp ch w cd (nI p) (nI q) = f_X11_cancel_L70 w (nI p) (nI q) (g (36 + p)) (g (36 + q)) g kp ch 0 := fun ho kp ch w cd => by
    rw [hM]
    unfold f_X11_cancel_L61
    unfold opp at ho
    simp only [Int32.lt_iff_toInt_lt, Int32.le_iff_toInt_le, t0] at *
    rcases ho with ho | ho
    · rw [if_pos (by omega), if_neg (by omega), if_neg (by omega)]
    · rw [if_neg (by omega), if_pos (by omega)]
  have h81 : ¬ opp (g (36 + p)) (g (36 + q)) → ∀ kp ch w cd, f_X11_cancel g kp ch w cd (nI p) (nI q) = f_X11_cancel_L81 w (nI p) (nI q) (g (36 + p)) (g (36 + q)) g kp ch 0 := fun ho kp ch w cd => by
    rw [hM]
    unfold f_X11_cancel_L61
    unfold opp at ho
    simp only [Int32.lt_iff_toInt_lt, Int32.le_iff_toInt_le, t0] at *
    by_cases a1 : (g (36 + p)).toInt ≤ 0
    · rw [if_pos a1]
      by_cases a2 : 0 ≤ (g (36 + p)).toInt
      · rw [if_pos a2]
      · rw [if_neg a2, if_pos (by omega)]
    · rw [if_neg a1, if_neg (by omega), if_pos (by omega)]
  rw [hO]
  by_cases ho : opp (g (36 + p)) (g (36 + q))
  case neg =>
    refine ⟨3, by rw [q_opp0 ho]; rfl, by decide, Or.inl ⟨2, ⟨1, rfl, rfl⟩, fun kp ch w cd => ?_⟩⟩
    show f_X11_cancel g kp ch w cd (nI p) (nI q) = _
    rw [h81 ho]
    rfl
  rw [q_opp1 ho, wkb1_t rfl, if_neg one_ne, wkb1_t (show f_X2_hasRoomFor (nI e) 1 = _ from q_room (k := 1) he (by decide))]
  by_cases he6 : e = 60
  · subst he6
    refine ⟨3, rfl, by decide, Or.inl ⟨2, ⟨1, rfl, rfl⟩, fun kp ch w cd => ?_⟩⟩
    show f_X11_cancel g kp ch w cd (nI p) (nI q) = _
    rw [h70 ho]
    unfold f_X11_cancel_L70
    rw [hg3]
    rfl
  have ze : ¬ nI e = (60 : Int32) := fun q => he6 ((nI_eq (b := 60) (by omega) (by omega)).mp q)
  rw [decide_eq_true (show e + 1 ≤ 60 by omega), ifb_t]
  have h86 : ∀ kp ch w cd, f_X11_cancel g kp ch w cd (nI p) (nI q) = (if g (36 + p) ≤ 0 then
        (wkb1 (f_X11_least (-g (36 + p)) (g (36 + q))) (fun r6 =>
        f_X11_cancel_L115 w (nI p) (nI q) (g (36 + p)) r6 g kp ch 0))
      else
        (wkb1 (f_X11_least (g (36 + p)) (-g (36 + q))) (fun r8 =>
        f_X11_cancel_L115 w (nI p) (nI q) (g (36 + p)) r8 g kp ch 0))) := fun kp ch w cd => by
    rw [h70 ho]
    unfold f_X11_cancel_L70
    rw [hg3, if_neg ze]
    rfl
  rcases ho with ⟨ho1, ho2⟩ | ⟨ho1, ho2⟩
  · -- the first below zero
    obtain ⟨a, a0, a1, a2, a3, a4, a5, a6⟩ := q_amt ho2 ho1 (by omega) (by omega)
    have i1 : ¬ (0 : Int32) ≤ g (36 + p) := Int32.not_le.mpr ho1
    have i2 : g (36 + p) ≤ 0 := Int32.le_of_lt ho1
    rw [Int32.lt_iff_toInt_lt, t0] at ho1 ho2
    have hpq : p ≠ q := fun z => by subst z; omega
    have hcov : q = 0 ∨ q = 1 → (a : Int) ≤ gb g q := fun _ => a5
    obtain ⟨B', D', C', A', k1, k2, k3⟩ := RC_book (x := 0) R (by omega) hp hq hpq a0 a1 hcov (by omega) (by unfold gb; omega)
    refine ⟨0, rfl, by decide, Or.inr ⟨rfl, nI a, B', D', C', A', _, ?_, k3, fun kp ch w cd => ?_⟩⟩
    · unfold f_X2_offset
      simp only [gin_t ip, gin_t iq, nI_clamp (show p < 2 ^ 31 by omega), nI_clamp (show q < 2 ^ 31 by omega), bp, bq, if_neg i1, wkl_t, a2]
      rw [wkb6_t k1]
    · show f_X11_cancel g kp ch w cd (nI p) (nI q) = _
      rw [h86, if_pos i2, wkb1_t a4]
      unfold f_X11_cancel_L115 f_X11_cancel_L135
      simp only [if_neg i1, k2]
      rfl
  · obtain ⟨a, a0, a1, a2, a3, a4, a5, a6⟩ := q_amt ho1 ho2 (by omega) (by omega)
    have i1 : (0 : Int32) ≤ g (36 + p) := Int32.le_of_lt ho1
    have i2 : ¬ g (36 + p) ≤ 0 := Int32.not_le.mpr ho1
    rw [Int32.lt_iff_toInt_lt, t0] at ho1 ho2
    have hpq : q ≠ p := fun z => by subst z; omega
    have hcov : p = 0 ∨ p = 1 → (a : Int) ≤ gb g p := fun _ => a5
    obtain ⟨B', D', C', A', k1, k2, k3⟩ := RC_book (x := 0) R (by omega) hq hp hpq a0 a1 hcov (by omega) (by unfold gb; omega)
    refine ⟨0, rfl, by decide, Or.inr ⟨rfl, nI a, B', D', C', A', _, ?_, k3, fun kp ch w cd => ?_⟩⟩
    · unfold f_X2_offset
      simp only [gin_t ip, gin_t iq, nI_clamp (show p < 2 ^ 31 by omega), nI_clamp (show q < 2 ^ 31 by omega), bp, bq, if_pos i1, wkl_t, a2]
      rw [wkb6_t k1]
    · show f_X11_cancel g kp ch w cd (nI p) (nI q) = _
      rw [h86, if_neg i2, wkb1_t a3]
      unfold f_X11_cancel_L115 f_X11_cancel_L135
      simp only [if_pos i1, k2]
      rfl
