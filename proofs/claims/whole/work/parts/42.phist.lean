/-! PURE LAYER: a circus, its copies, the history -/
theorem wkb7_t {A1 A2 A3 A4 A5 A6 A7 γ : Type} {o : Option (A1 × A2 × A3 × A4 × A5 × A6 × A7)} {k : A1 → A2 → A3 → A4 → A5 → A6 → A7 → Option γ} {t : A1 × A2 × A3 × A4 × A5 × A6 × A7} (h : o = some t) : wkb7 o k = k t.1 t.2.1 t.2.2.1 t.2.2.2.1 t.2.2.2.2.1 t.2.2.2.2.2.1 t.2.2.2.2.2.2 := by rw [h]; rfl
theorem wkb17_t {A1 A2 A3 A4 A5 A6 A7 A8 A9 A10 A11 A12 A13 A14 A15 A16 A17 γ : Type} {o : Option (A1 × A2 × A3 × A4 × A5 × A6 × A7 × A8 × A9 × A10 × A11 × A12 × A13 × A14 × A15 × A16 × A17)} {k : A1 → A2 → A3 → A4 → A5 → A6 → A7 → A8 → A9 → A10 → A11 → A12 → A13 → A14 → A15 → A16 → A17 → Option γ} {t : A1 × A2 × A3 × A4 × A5 × A6 × A7 × A8 × A9 × A10 × A11 × A12 × A13 × A14 × A15 × A16 × A17} (h : o = some t) :
    wkb17 o k = k t.1 t.2.1 t.2.2.1 t.2.2.2.1 t.2.2.2.2.1 t.2.2.2.2.2.1 t.2.2.2.2.2.2.1 t.2.2.2.2.2.2.2.1 t.2.2.2.2.2.2.2.2.1 t.2.2.2.2.2.2.2.2.2.1 t.2.2.2.2.2.2.2.2.2.2.1 t.2.2.2.2.2.2.2.2.2.2.2.1 t.2.2.2.2.2.2.2.2.2.2.2.2.1 t.2.2.2.2.2.2.2.2.2.2.2.2.2.1 t.2.2.2.2.2.2.2.2.2.2.2.2.2.2.1 t.2.2.2.2.2.2.2.2.2.2.2.2.2.2.2.1 t.2.2.2.2.2.2.2.2.2.2.2.2.2.2.2.2 := by rw [h]; rfl
def RN (ni ne sh fa : Int32) (g : Nat → Int32) : Prop := ni = g 1 ∧ ne = g 2 ∧ sh = g 4 ∧ fa = g 5 ∧ ∃ q, q ≤ 5 ∧ g 2 = nI q
/-- a circus of the class and a state of the reference -/
def RC (n e Bd : Nat) (c : sC) (g : Nat → Int32) : Prop :=
  RT n c.1 c.2.1 c.2.2.1 c.2.2.2.1 c.2.2.2.2.1 c.2.2.2.2.2.1 g ∧ RB n e c.2.2.2.2.2.2.1 c.2.2.2.2.2.2.2.1 c.2.2.2.2.2.2.2.2.1 c.2.2.2.2.2.2.2.2.2.1 c.2.2.2.2.2.2.2.2.2.2.1 c.2.2.2.2.2.2.2.2.2.2.2.1 c.2.2.2.2.2.2.2.2.2.2.2.2.1 g ∧ gB n e Bd g ∧
  RN c.2.2.2.2.2.2.2.2.2.2.2.2.2.1 c.2.2.2.2.2.2.2.2.2.2.2.2.2.2.1 c.2.2.2.2.2.2.2.2.2.2.2.2.2.2.2.1 c.2.2.2.2.2.2.2.2.2.2.2.2.2.2.2.2 g
def RCt (Bd : Nat) (c : sC) (g : Nat → Int32) : Prop := ∃ n e, RC n e Bd c g
theorem gA_cg {n : Nat} {g g' : Nat → Int32} (h : ∀ j, j < 238 → g' j = g j) (G : gA n g) : gA n g' := by
  obtain ⟨g1, g2, g3⟩ := G
  refine ⟨g1, (h 0 (by decide)).trans g2, fun k hk => ?_⟩
  have := g3 k hk
  unfold gW gS gH gC gF at *
  rw [h (6 + 5 * k) (by omega), h (6 + 5 * k + 1) (by omega), h (6 + 5 * k + 2) (by omega), h (6 + 5 * k + 3) (by omega), h (6 + 5 * k + 4) (by omega)]
  exact this
theorem RT_cg {n : Nat} {Tc : Int32} {W S Hh C F g g' : Nat → Int32} (h : ∀ j, j < 238 → g' j = g j) (R : RT n Tc W S Hh C F g) : RT n Tc W S Hh C F g' := by
  obtain ⟨r1, r2, r3, r4⟩ := R
  refine ⟨r1, gA_cg h r2, fun k hk => ?_, fun k h1 h2 => (h _ (by omega)).trans (r4 k h1 h2)⟩
  rw [h (6 + 5 * k) (by omega), h (6 + 5 * k + 1) (by omega), h (6 + 5 * k + 2) (by omega), h (6 + 5 * k + 3) (by omega), h (6 + 5 * k + 4) (by omega)]
  exact r3 k hk
theorem RT_c2 {n : Nat} {Tc : Int32} {W S Hh C F W' S' Hh' C' F' g : Nat → Int32} (h : ∀ k, k < 6 → W' k = W k ∧ S' k = S k ∧ Hh' k = Hh k ∧ C' k = C k ∧ F' k = F k) (R : RT n Tc W S Hh C F g) : RT n Tc W' S' Hh' C' F' g := by
  obtain ⟨r1, r2, r3, r4⟩ := R
  refine ⟨r1, r2, fun k hk => ?_, r4⟩
  obtain ⟨h1, h2, h3, h4, h5⟩ := h k hk
  rw [h1, h2, h3, h4, h5]
  exact r3 k hk
theorem RB_cg {n e : Nat} {Ba : Int32} {B Bo : Nat → Int32} {Be : Int32} {D C A g g' : Nat → Int32} (he : e ≤ 60) (h : ∀ j, j < 238 → g' j = g j) (R : RB n e Ba B Bo Be D C A g) : RB n e Ba B Bo Be D C A g' := by
  obtain ⟨r1, r2, r3, r4⟩ := R
  refine ⟨r1, r2, fun k hk => ?_, fun k hk => ?_⟩
  · rw [h (36 + k) (by omega), h (47 + k) (by omega)]
    exact r3 k hk
  · rw [h (58 + 3 * k) (by omega), h (58 + 3 * k + 1) (by omega), h (58 + 3 * k + 2) (by omega)]
    exact r4 k hk
theorem RB_c2 {n e : Nat} {Ba : Int32} {B Bo B' Bo' : Nat → Int32} {Be : Int32} {D C A D' C' A' g : Nat → Int32} (he : e ≤ 60) (h1 : ∀ k, k < 11 → B' k = B k ∧ Bo' k = Bo k) (h2 : ∀ k, k < 60 → D' k = D k ∧ C' k = C k ∧ A' k = A k) (R : RB n e Ba B Bo Be D C A g) : RB n e Ba B' Bo' Be D' C' A' g := by
  obtain ⟨r1, r2, r3, r4⟩ := R
  refine ⟨r1, r2, fun k hk => ?_, fun k hk => ?_⟩
  · rw [(h1 k hk).1, (h1 k hk).2]
    exact r3 k hk
  · obtain ⟨a1, a2, a3⟩ := h2 k (by omega)
    rw [a1, a2, a3]
    exact r4 k hk
theorem sB_cg {b b' : Nat → Int} {A : Nat} (h : ∀ k, k < A → b' k = b k) : sB A b' (fun _ => true) = sB A b (fun _ => true) := by
  induction A with
  | zero => rfl
  | succ A ih => rw [sB_s, sB_s, ih (fun k hk => h k (by omega)), h A (by omega)]
theorem sab_cg {b b' : Nat → Int} {A : Nat} (h : ∀ k, k < A → b' k = b k) : sab A b' = sab A b := by
  unfold sab
  induction A with
  | zero => rfl
  | succ A ih =>
    show _ + (b' A).natAbs = _ + (b A).natAbs
    rw [ih (fun k hk => h k (by omega)), h A (by omega)]
theorem gB_cg {n e Bd : Nat} {g g' : Nat → Int32} (h : ∀ j, j < 238 → g' j = g j) (G : gB n e Bd g) : gB n e Bd g' := by
  obtain ⟨⟨g1, g2, g3, g4⟩, ⟨g5, g6, g7, g8, g9⟩, g10, g11⟩ := G
  have hb : ∀ k, k < 11 → gb g' k = gb g k := fun k hk => by unfold gb; rw [h (36 + k) (by omega)]
  have hj : ∀ o k i, o < 2 → i ≤ e → js g' o k i = js g o k i := fun o k i ho hi => js_congr (fun q hq => ⟨h _ (by omega), h _ (by omega)⟩)
  refine ⟨⟨g1, g2, g3, (h 3 (by decide)).trans g4⟩, ⟨by rw [hb 0 (by decide)]; exact g5, by rw [hb 1 (by decide)]; exact g6, by rw [sB_cg hb]; exact g7, by rw [sab_cg hb]; exact g8, fun k h1 h2 => (h _ (by omega)).trans (g9 k h1 h2)⟩, fun k hk => ?_, fun k hk => ?_⟩
  · rw [h (58 + 3 * k) (by omega), h (58 + 3 * k + 1) (by omega), h (58 + 3 * k + 2) (by omega)]
    exact g10 k hk
  · rw [h (36 + k) (by omega), h (47 + k) (by omega), hj 0 k e (by decide) (Nat.le_refl _), hj 1 k e (by decide) (Nat.le_refl _)]
    exact g11 k hk
theorem gB_mono {n e Bd Bd' : Nat} {g : Nat → Int32} (h : Bd ≤ Bd') (h' : Bd' < 2 ^ 30) (G : gB n e Bd g) : gB n e Bd' g := by
  obtain ⟨⟨g1, g2, g3, g4⟩, ⟨g5, g6, g7, g8, g9⟩, g10, g11⟩ := G
  exact ⟨⟨g1, g2, h', g4⟩, ⟨g5, g6, g7, by omega, g9⟩, g10, g11⟩
theorem RN_cg {ni ne sh fa : Int32} {g g' : Nat → Int32} (h : ∀ j, j < 238 → g' j = g j) (R : RN ni ne sh fa g) : RN ni ne sh fa g' := by
  obtain ⟨r1, r2, r3, r4, q, hq, r5⟩ := R
  refine ⟨?_, ?_, ?_, ?_, q, hq, ?_⟩
  · rw [h 1 (by decide)]; exact r1
  · rw [h 2 (by decide)]; exact r2
  · rw [h 4 (by decide)]; exact r3
  · rw [h 5 (by decide)]; exact r4
  · rw [h 2 (by decide)]; exact r5
theorem RC_cg {n e Bd : Nat} {c : sC} {g g' : Nat → Int32} (h : ∀ j, j < 238 → g' j = g j) (R : RC n e Bd c g) : RC n e Bd c g' :=
  ⟨RT_cg h R.1, RB_cg R.2.2.1.1.2.1 h R.2.1, gB_cg h R.2.2.1, RN_cg h R.2.2.2⟩
theorem RC_mono {n e Bd Bd' : Nat} {c : sC} {g : Nat → Int32} (h : Bd ≤ Bd') (h' : Bd' < 2 ^ 30) (R : RC n e Bd c g) : RC n e Bd' c g := ⟨R.1, R.2.1, gB_mono h h' R.2.2.1, R.2.2.2⟩
theorem cpy0 {f g : Nat → Int32} {L k : Nat} (hk : k < L) : va_cpy f g 0 0 L k = f k := by
  show (if 0 ≤ k ∧ k < 0 + L then f (0 + (k - 0)) else g k) = f k
  rw [if_pos ⟨Nat.zero_le _, by omega⟩, Nat.zero_add, Nat.sub_zero]
/-- f_X3_copyFrom over tuples -/
def cpC (o c : sC) : sC := (c.1, va_cpy c.2.1 o.2.1 0 0 6, va_cpy c.2.2.1 o.2.2.1 0 0 6, va_cpy c.2.2.2.1 o.2.2.2.1 0 0 6, va_cpy c.2.2.2.2.1 o.2.2.2.2.1 0 0 6, va_cpy c.2.2.2.2.2.1 o.2.2.2.2.2.1 0 0 6, c.2.2.2.2.2.2.1,
  va_cpy c.2.2.2.2.2.2.2.1 o.2.2.2.2.2.2.2.1 0 0 11, va_cpy c.2.2.2.2.2.2.2.2.1 o.2.2.2.2.2.2.2.2.1 0 0 11, c.2.2.2.2.2.2.2.2.2.1, va_cpy c.2.2.2.2.2.2.2.2.2.2.1 o.2.2.2.2.2.2.2.2.2.2.1 0 0 60, va_cpy c.2.2.2.2.2.2.2.2.2.2.2.1 o.2.2.2.2.2.2.2.2.2.2.2.1 0 0 60, va_cpy c.2.2.2.2.2.2.2.2.2.2.2.2.1 o.2.2.2.2.2.2.2.2.2.2.2.2.1 0 0 60,
  c.2.2.2.2.2.2.2.2.2.2.2.2.2.1, c.2.2.2.2.2.2.2.2.2.2.2.2.2.2.1, c.2.2.2.2.2.2.2.2.2.2.2.2.2.2.2.1, c.2.2.2.2.2.2.2.2.2.2.2.2.2.2.2.2)
theorem q_copy3 (o c : sC) : f_X3_copyFrom o.1 o.2.1 o.2.2.1 o.2.2.2.1 o.2.2.2.2.1 o.2.2.2.2.2.1 o.2.2.2.2.2.2.1 o.2.2.2.2.2.2.2.1 o.2.2.2.2.2.2.2.2.1 o.2.2.2.2.2.2.2.2.2.1 o.2.2.2.2.2.2.2.2.2.2.1 o.2.2.2.2.2.2.2.2.2.2.2.1 o.2.2.2.2.2.2.2.2.2.2.2.2.1 o.2.2.2.2.2.2.2.2.2.2.2.2.2.1 o.2.2.2.2.2.2.2.2.2.2.2.2.2.2.1 o.2.2.2.2.2.2.2.2.2.2.2.2.2.2.2.1 o.2.2.2.2.2.2.2.2.2.2.2.2.2.2.2.2
    c.1 c.2.1 c.2.2.1 c.2.2.2.1 c.2.2.2.2.1 c.2.2.2.2.2.1 c.2.2.2.2.2.2.1 c.2.2.2.2.2.2.2.1 c.2.2.2.2.2.2.2.2.1 c.2.2.2.2.2.2.2.2.2.1 c.2.2.2.2.2.2.2.2.2.2.1 c.2.2.2.2.2.2.2.2.2.2.2.1 c.2.2.2.2.2.2.2.2.2.2.2.2.1 c.2.2.2.2.2.2.2.2.2.2.2.2.2.1 c.2.2.2.2.2.2.2.2.2.2.2.2.2.2.1 c.2.2.2.2.2.2.2.2.2.2.2.2.2.2.2.1 c.2.2.2.2.2.2.2.2.2.2.2.2.2.2.2.2 = some (cpC o c) := rfl
theorem RC_copy {n e Bd : Nat} {o c : sC} {g : Nat → Int32} (R : RC n e Bd c g) : RC n e Bd (cpC o c) g :=
  ⟨RT_c2 (fun _ hk => ⟨cpy0 hk, cpy0 hk, cpy0 hk, cpy0 hk, cpy0 hk⟩) R.1, RB_c2 R.2.2.1.1.2.1 (fun _ hk => ⟨cpy0 hk, cpy0 hk⟩) (fun _ hk => ⟨cpy0 hk, cpy0 hk, cpy0 hk⟩) R.2.1, R.2.2.1, R.2.2.2⟩
/-! the reference's copies -/
def shf (f t : Nat → Int32) (a b i : Nat) : Nat → Int32 := fun k => if b ≤ k ∧ k < b + i then f (a + (k - b)) else t k
theorem shf_s {f t : Nat → Int32} {a b i : Nat} : upd (shf f t a b i) (b + i) (f (a + i)) = shf f t a b (i + 1) := by
  funext k
  rw [up_at]
  unfold shf
  by_cases h : k = b + i
  · subst h
    rw [if_pos rfl, if_pos ⟨by omega, by omega⟩, Nat.add_sub_cancel_left]
  · rw [if_neg h]
    by_cases h1 : b ≤ k ∧ k < b + i
    · rw [if_pos h1, if_pos ⟨h1.1, by omega⟩]
    · rw [if_neg h1, if_neg (fun x => h1 ⟨x.1, by omega⟩)]
theorem shf_0 {f t : Nat → Int32} {a b : Nat} : shf f t a b 0 = t := by
  funext k
  exact if_neg (fun x => by omega)
theorem q_cp1 (f t : Nat → Int32) {b : Nat} (hb : b + 238 ≤ 1904) : f_X11_copies_238_1904 f t 0 (nI b) = some (shf f t 0 b 238) := by
  unfold f_X11_copies_238_1904
  have key := lupF (fun nn acc i => f_X11_copies_238_1904_L3 f 0 (nI b) nn i acc) 0 238 (fun i => shf f t 0 b i) (some (shf f t 0 b 238)) (Nat.zero_le _) (by omega) ?_ ?_
  · rw [shf_0] at key
    exact key
  · intro nn
    show f_X11_copies_238_1904_L3 f 0 (nI b) (nn + 1) (nI 238) _ = _
    rw [f_X11_copies_238_1904_L3]
    exact if_pos (by decide)
  · intro nn i _ hi
    show f_X11_copies_238_1904_L3 f 0 (nI b) (nn + 1) (nI i) _ = f_X11_copies_238_1904_L3 f 0 (nI b) nn (nI (i + 1)) _
    rw [f_X11_copies_238_1904_L3, if_neg (show ¬ (238 : Int32) ≤ nI i from nI_ge (b := 238) hi (by decide))]
    have e1 : (0 : Int32) + nI i = nI (0 + i) := by rw [show (0 : Int32) = nI 0 from rfl, nI_add]
    rw [e1, nI_add, nI_1, gin_t (vp_in_nI (by omega) (by decide)), gin_t (vp_in_nI (by omega) (by decide)), nI_clamp (by omega), nI_clamp (by omega)]
    show f_X11_copies_238_1904_L3 f 0 (nI b) nn (nI (i + 1)) (upd (shf f t 0 b i) (b + i) (f (0 + i))) = _
    rw [shf_s]
theorem q_cp2 (f t : Nat → Int32) {a : Nat} (ha : a + 238 ≤ 1904) : f_X11_copies_1904_238 f t (nI a) 0 = some (shf f t a 0 238) := by
  unfold f_X11_copies_1904_238
  have key := lupF (fun nn acc i => f_X11_copies_1904_238_L3 f (nI a) 0 nn i acc) 0 238 (fun i => shf f t a 0 i) (some (shf f t a 0 238)) (Nat.zero_le _) (by omega) ?_ ?_
  · rw [shf_0] at key
    exact key
  · intro nn
    show f_X11_copies_1904_238_L3 f (nI a) 0 (nn + 1) (nI 238) _ = _
    rw [f_X11_copies_1904_238_L3]
    exact if_pos (by decide)
  · intro nn i _ hi
    show f_X11_copies_1904_238_L3 f (nI a) 0 (nn + 1) (nI i) _ = f_X11_copies_1904_238_L3 f (nI a) 0 nn (nI (i + 1)) _
    rw [f_X11_copies_1904_238_L3, if_neg (show ¬ (238 : Int32) ≤ nI i from nI_ge (b := 238) hi (by decide))]
    have e1 : (0 : Int32) + nI i = nI (0 + i) := by rw [show (0 : Int32) = nI 0 from rfl, nI_add]
    rw [e1, nI_add, nI_1, gin_t (vp_in_nI (by omega) (by decide)), gin_t (vp_in_nI (by omega) (by decide)), nI_clamp (by omega), nI_clamp (by omega)]
    show f_X11_copies_1904_238_L3 f (nI a) 0 nn (nI (i + 1)) (upd (shf f t a 0 i) (0 + i) (f (a + i))) = _
    rw [shf_s]
theorem q_cp3 (f t : Nat → Int32) : f_X11_copies_238_238 f t 0 0 = some (shf f t 0 0 238) := by
  unfold f_X11_copies_238_238
  have key := lupF (fun nn acc i => f_X11_copies_238_238_L3 f 0 0 nn i acc) 0 238 (fun i => shf f t 0 0 i) (some (shf f t 0 0 238)) (Nat.zero_le _) (by omega) ?_ ?_
  · rw [shf_0] at key
    exact key
  · intro nn
    show f_X11_copies_238_238_L3 f 0 0 (nn + 1) (nI 238) _ = _
    rw [f_X11_copies_238_238_L3]
    exact if_pos (by decide)
  · intro nn i _ hi
    show f_X11_copies_238_238_L3 f 0 0 (nn + 1) (nI i) _ = f_X11_copies_238_238_L3 f 0 0 nn (nI (i + 1)) _
    rw [f_X11_copies_238_238_L3, if_neg (show ¬ (238 : Int32) ≤ nI i from nI_ge (b := 238) hi (by decide))]
    have e1 : (0 : Int32) + nI i = nI (0 + i) := by rw [show (0 : Int32) = nI 0 from rfl, nI_add]
    rw [e1, nI_1, gin_t (vp_in_nI (by omega) (by decide)), gin_t (vp_in_nI (by omega) (by decide)), nI_clamp (by omega)]
    show f_X11_copies_238_238_L3 f 0 0 nn (nI (i + 1)) (upd (shf f t 0 0 i) (0 + i) (f (0 + i))) = _
    rw [shf_s]
/-- the kept rows after one more -/
def kpt (kp g : Nat → Int32) (ch : Nat) : Nat → Int32 := if ch = 8 then shf g (shf kp kp 238 0 1666) 0 1666 238 else shf g kp 0 (238 * ch) 238
def kch (ch : Nat) : Nat := if ch = 8 then 8 else ch + 1
theorem q_kgL {g kp : Nat → Int32} {w c : Int32} {ch : Nat} (h : ch < 8) : f_X11_keeps_g_L63 g w kp (nI ch) c = some (shf g kp 0 (238 * ch) 238, nI (ch + 1), c) := by
  unfold f_X11_keeps_g_L63
  rw [show (238 : Int32) = nI 238 from rfl, pk_mul, wkb1_t (q_cp1 g kp (by omega)), wkl_t, nI_1]
theorem q_kbL {g kp : Nat → Int32} {w c : Int32} {ch : Nat} (h : ch < 8) : f_X11_keeps_before_L63 g w kp (nI ch) c = some (shf g kp 0 (238 * ch) 238, nI (ch + 1), c) := by
  unfold f_X11_keeps_before_L63
  rw [show (238 : Int32) = nI 238 from rfl, pk_mul, wkb1_t (q_cp1 g kp (by omega)), wkl_t, nI_1]
theorem shf_own {kp : Nat → Int32} {i : Nat} : shf kp kp 238 0 i (i + 238) = kp (i + 238) := if_neg (fun h => by omega)
theorem q_keeps_g {g kp : Nat → Int32} {c : Int32} {ch : Nat} (h : ch ≤ 8) : f_X11_keeps_g g kp (nI ch) 0 c = some (kpt kp g ch, nI (kch ch), 0) := by
  unfold f_X11_keeps_g kpt kch
  rw [if_pos rfl]
  by_cases q : ch = 8
  · subst q
    rw [if_pos rfl, if_pos rfl, if_pos (show nI 8 = (8 : Int32) from rfl)]
    have key := lupF (fun nn acc i => f_X11_keeps_g_L24 g 0 nn i acc (nI 8) 0) 0 1666 (fun i => shf kp kp 238 0 i) (some (shf g (shf kp kp 238 0 1666) 0 1666 238, nI 8, 0)) (Nat.zero_le _) (by omega) ?_ ?_
    · rw [shf_0] at key
      exact key
    · intro nn
      show f_X11_keeps_g_L24 g 0 (nn + 1) (nI 1666) _ (nI 8) 0 = _
      rw [f_X11_keeps_g_L24, if_pos (by decide), wkl_t, show nI 8 - 1 = nI 7 from by decide, q_kgL (by decide)]
    · intro nn i _ hi
      show f_X11_keeps_g_L24 g 0 (nn + 1) (nI i) _ (nI 8) 0 = f_X11_keeps_g_L24 g 0 nn (nI (i + 1)) _ (nI 8) 0
      rw [f_X11_keeps_g_L24, if_neg (show ¬ (1666 : Int32) ≤ nI i from nI_ge (b := 1666) hi (by decide))]
      rw [show nI i + (238 : Int32) = nI (i + 238) from by rw [show (238 : Int32) = nI 238 from rfl, nI_add], nI_1, gin_t (vp_in_nI (by omega) (by decide)), gin_t (vp_in_nI (by omega) (by decide)), nI_clamp (by omega), nI_clamp (by omega), shf_own]
      have := shf_s (f := kp) (t := kp) (a := 238) (b := 0) (i := i)
      rw [Nat.zero_add, Nat.add_comm 238 i] at this
      show f_X11_keeps_g_L24 g 0 nn (nI (i + 1)) (upd (shf kp kp 238 0 i) i (kp (i + 238))) (nI 8) 0 = _
      rw [this]
  · rw [if_neg q, if_neg q, if_neg (show ¬ nI ch = (8 : Int32) from fun e => q ((nI_eq (b := 8) (by omega) (by omega)).mp e)), q_kgL (by omega)]
theorem q_keeps_before {g kp : Nat → Int32} {c : Int32} {ch : Nat} (h : ch ≤ 8) : f_X11_keeps_before kp g (nI ch) 0 c = some (kpt kp g ch, nI (kch ch), 0) := by
  unfold f_X11_keeps_before kpt kch
  rw [if_pos rfl]
  by_cases q : ch = 8
  · subst q
    rw [if_pos rfl, if_pos rfl, if_pos (show nI 8 = (8 : Int32) from rfl)]
    have key := lupF (fun nn acc i => f_X11_keeps_before_L24 g 0 nn i acc (nI 8) 0) 0 1666 (fun i => shf kp kp 238 0 i) (some (shf g (shf kp kp 238 0 1666) 0 1666 238, nI 8, 0)) (Nat.zero_le _) (by omega) ?_ ?_
    · rw [shf_0] at key
      exact key
    · intro nn
      show f_X11_keeps_before_L24 g 0 (nn + 1) (nI 1666) _ (nI 8) 0 = _
      rw [f_X11_keeps_before_L24, if_pos (by decide), wkl_t, show nI 8 - 1 = nI 7 from by decide, q_kbL (by decide)]
    · intro nn i _ hi
      show f_X11_keeps_before_L24 g 0 (nn + 1) (nI i) _ (nI 8) 0 = f_X11_keeps_before_L24 g 0 nn (nI (i + 1)) _ (nI 8) 0
      rw [f_X11_keeps_before_L24, if_neg (show ¬ (1666 : Int32) ≤ nI i from nI_ge (b := 1666) hi (by decide))]
      rw [show nI i + (238 : Int32) = nI (i + 238) from by rw [show (238 : Int32) = nI 238 from rfl, nI_add], nI_1, gin_t (vp_in_nI (by omega) (by decide)), gin_t (vp_in_nI (by omega) (by decide)), nI_clamp (by omega), nI_clamp (by omega), shf_own]
      have := shf_s (f := kp) (t := kp) (a := 238) (b := 0) (i := i)
      rw [Nat.zero_add, Nat.add_comm 238 i] at this
      show f_X11_keeps_before_L24 g 0 nn (nI (i + 1)) (upd (shf kp kp 238 0 i) i (kp (i + 238))) (nI 8) 0 = _
      rw [this]
  · rw [if_neg q, if_neg q, if_neg (show ¬ nI ch = (8 : Int32) from fun e => q ((nI_eq (b := 8) (by omega) (by omega)).mp e)), q_kbL (by omega)]
/-- the history of both -/
def RH (Bd : Nat) (Hc : Nat → sC) (Hn Hk : Int32) (kp : Nat → Int32) (ch : Nat) : Prop :=
  ch ≤ 8 ∧ Hk = nI ch ∧ ∃ nx, nx < 9 ∧ Hn = nI nx ∧ ∀ i, i < ch → RCt Bd (Hc ((nx + 9 - ch + i) % 9)) (fun j => kp (238 * i + j))
theorem RCt_cg {Bd : Nat} {c : sC} {g g' : Nat → Int32} (h : ∀ j, j < 238 → g' j = g j) (R : RCt Bd c g) : RCt Bd c g' := by
  obtain ⟨n, e, R⟩ := R
  exact ⟨n, e, RC_cg h R⟩
theorem RH_mono {Bd Bd' : Nat} {Hc : Nat → sC} {Hn Hk : Int32} {kp : Nat → Int32} {ch : Nat} (h : Bd ≤ Bd') (h' : Bd' < 2 ^ 30) (R : RH Bd Hc Hn Hk kp ch) : RH Bd' Hc Hn Hk kp ch := by
  obtain ⟨h1, h2, nx, h3, h4, h5⟩ := R
  refine ⟨h1, h2, nx, h3, h4, fun i hi => ?_⟩
  obtain ⟨n, e, R⟩ := h5 i hi
  exact ⟨n, e, RC_mono h h' R⟩
theorem va_up_at {α : Type} {f : Nat → α} {k j : Nat} {x : α} : va_up f k x j = if j = k then x else f j := rfl
theorem q_note {Hc : Nat → sC} {nx : Nat} (hn : nx < 9) (c : sC) : f_X5_note Hc (nI nx) c.1 c.2.1 c.2.2.1 c.2.2.2.1 c.2.2.2.2.1 c.2.2.2.2.2.1 c.2.2.2.2.2.2.1 c.2.2.2.2.2.2.2.1 c.2.2.2.2.2.2.2.2.1 c.2.2.2.2.2.2.2.2.2.1 c.2.2.2.2.2.2.2.2.2.2.1 c.2.2.2.2.2.2.2.2.2.2.2.1 c.2.2.2.2.2.2.2.2.2.2.2.2.1 c.2.2.2.2.2.2.2.2.2.2.2.2.2.1 c.2.2.2.2.2.2.2.2.2.2.2.2.2.2.1 c.2.2.2.2.2.2.2.2.2.2.2.2.2.2.2.1 c.2.2.2.2.2.2.2.2.2.2.2.2.2.2.2.2 = some (va_up Hc nx (cpC (Hc nx) c)) := by
  unfold f_X5_note
  rw [gin_t (vp_in_nI (by omega) (by decide)), nI_clamp (by omega), wkb17_t (q_copy3 (Hc nx) c)]
theorem q_keep {nx ch : Nat} (hn : nx < 9) (hc : ch ≤ 8) : f_X5_keep (nI nx) (nI ch) = some (nI ((nx + 1) % 9), nI (kch ch)) := by
  have h1 : ∀ nx, nx < 9 → (nI nx + 1) - (nI nx + 1) / 9 * 9 = nI ((nx + 1) % 9) := by decide +kernel
  have h2 : ∀ ch, ch < 9 → (if (8 : Int32) < (nI ch + 1) then (8 : Int32) else (nI ch + 1)) = nI (kch ch) := by decide +kernel
  unfold f_X5_keep
  rw [wkl_t, wkl_t, h1 nx hn, h2 ch (by omega)]
theorem q_remember {Bd : Nat} {Hc : Nat → sC} {Hn Hk : Int32} {kp : Nat → Int32} {ch : Nat} (R : RH Bd Hc Hn Hk kp ch) (c : sC) (g : Nat → Int32) (Rc : RCt Bd c g) :
    ∃ Hc' Hn', f_X5_remember Hc Hn Hk c.1 c.2.1 c.2.2.1 c.2.2.2.1 c.2.2.2.2.1 c.2.2.2.2.2.1 c.2.2.2.2.2.2.1 c.2.2.2.2.2.2.2.1 c.2.2.2.2.2.2.2.2.1 c.2.2.2.2.2.2.2.2.2.1 c.2.2.2.2.2.2.2.2.2.2.1 c.2.2.2.2.2.2.2.2.2.2.2.1 c.2.2.2.2.2.2.2.2.2.2.2.2.1 c.2.2.2.2.2.2.2.2.2.2.2.2.2.1 c.2.2.2.2.2.2.2.2.2.2.2.2.2.2.1 c.2.2.2.2.2.2.2.2.2.2.2.2.2.2.2.1 c.2.2.2.2.2.2.2.2.2.2.2.2.2.2.2.2 = some (Hc', Hn', nI (kch ch)) ∧ RH Bd Hc' Hn' (nI (kch ch)) (kpt kp g ch) (kch ch) := by
  obtain ⟨h1, rfl, nx, h3, rfl, h5⟩ := R
  refine ⟨va_up Hc nx (cpC (Hc nx) c), nI ((nx + 1) % 9), ?_, ?_⟩
  · unfold f_X5_remember
    rw [wkb1_t (q_note h3 c), wkb2_t (q_keep h3 h1)]
  · have hk : kch ch ≤ 8 := by unfold kch; split <;> omega
    refine ⟨hk, rfl, (nx + 1) % 9, by omega, rfl, fun i hi => ?_⟩
    rw [va_up_at]
    by_cases q : ch = 8
    · subst q
      have e8 : kch 8 = 8 := rfl
      rw [e8] at hi ⊢
      by_cases qi : i = 7
      · subst qi
        rw [if_pos (by omega)]
        obtain ⟨n, e, Rc⟩ := Rc
        refine ⟨n, e, RC_copy (RC_cg (fun j hj => ?_) Rc)⟩
        show kpt kp g 8 (238 * 7 + j) = g j
        unfold kpt
        rw [if_pos rfl]
        show (if 1666 ≤ 238 * 7 + j ∧ 238 * 7 + j < 1666 + 238 then g (0 + (238 * 7 + j - 1666)) else _) = _
        rw [if_pos (by omega), Nat.zero_add, show 238 * 7 + j - 1666 = j from by omega]
      · rw [if_neg (by omega), show ((nx + 1) % 9 + 9 - 8 + i) % 9 = (nx + 9 - 8 + (i + 1)) % 9 from by omega]
        refine RCt_cg (fun j hj => ?_) (h5 (i + 1) (by omega))
        show kpt kp g 8 (238 * i + j) = kp (238 * (i + 1) + j)
        unfold kpt
        rw [if_pos rfl]
        show (if 1666 ≤ 238 * i + j ∧ 238 * i + j < 1666 + 238 then _ else (if 0 ≤ 238 * i + j ∧ 238 * i + j < 0 + 1666 then kp (238 + (238 * i + j - 0)) else _)) = _
        rw [if_neg (by omega), if_pos (by omega)]
        congr 1
        omega
    · have ek : kch ch = ch + 1 := by unfold kch; rw [if_neg q]
      rw [ek] at hi ⊢
      by_cases qi : i = ch
      · subst qi
        rw [if_pos (by omega)]
        obtain ⟨n, e, Rc⟩ := Rc
        refine ⟨n, e, RC_copy (RC_cg (fun j hj => ?_) Rc)⟩
        show kpt kp g i (238 * i + j) = g j
        unfold kpt
        rw [if_neg q]
        show (if 238 * i ≤ 238 * i + j ∧ 238 * i + j < 238 * i + 238 then g (0 + (238 * i + j - 238 * i)) else _) = _
        rw [if_pos (by omega), Nat.zero_add, Nat.add_sub_cancel_left]
      · rw [if_neg (by omega), show ((nx + 1) % 9 + 9 - (ch + 1) + i) % 9 = (nx + 9 - ch + i) % 9 from by omega]
        refine RCt_cg (fun j hj => ?_) (h5 i (by omega))
        show kpt kp g ch (238 * i + j) = kp (238 * i + j)
        unfold kpt
        rw [if_neg q]
        show (if 238 * ch ≤ 238 * i + j ∧ 238 * i + j < 238 * ch + 238 then _ else kp (238 * i + j)) = _
        rw [if_neg (by omega)]
theorem q_undo {Bd : Nat} {Hc : Nat → sC} {Hn Hk : Int32} {kp : Nat → Int32} {ch : Nat} (R : RH Bd Hc Hn Hk kp ch) (c : sC) (g : Nat → Int32) (cd : Int32) (n0 e0 : Nat) (Rc : RC n0 e0 Bd c g) :
    ∃ out b g' ch' cd', f_X10_undo c.1 c.2.1 c.2.2.1 c.2.2.2.1 c.2.2.2.2.1 c.2.2.2.2.2.1 c.2.2.2.2.2.2.1 c.2.2.2.2.2.2.2.1 c.2.2.2.2.2.2.2.2.1 c.2.2.2.2.2.2.2.2.2.1 c.2.2.2.2.2.2.2.2.2.2.1 c.2.2.2.2.2.2.2.2.2.2.2.1 c.2.2.2.2.2.2.2.2.2.2.2.2.1 c.2.2.2.2.2.2.2.2.2.2.2.2.2.1 c.2.2.2.2.2.2.2.2.2.2.2.2.2.2.1 c.2.2.2.2.2.2.2.2.2.2.2.2.2.2.2.1 c.2.2.2.2.2.2.2.2.2.2.2.2.2.2.2.2 Hc Hn Hk = some out ∧
      f_X11_undo g kp (nI ch) cd = some (b, g', nI ch', cd') ∧
      ((ch = 0 ∧ b = 0 ∧ cd' = 1 ∧ g' = g ∧ ch' = ch ∧ out = .inr (xNSE, c.1, c.2.1, c.2.2.1, c.2.2.2.1, c.2.2.2.2.1, c.2.2.2.2.2.1, c.2.2.2.2.2.2.1, c.2.2.2.2.2.2.2.1, c.2.2.2.2.2.2.2.2.1, c.2.2.2.2.2.2.2.2.2.1, c.2.2.2.2.2.2.2.2.2.2.1, c.2.2.2.2.2.2.2.2.2.2.2.1, c.2.2.2.2.2.2.2.2.2.2.2.2.1, c.2.2.2.2.2.2.2.2.2.2.2.2.2.1, c.2.2.2.2.2.2.2.2.2.2.2.2.2.2.1, c.2.2.2.2.2.2.2.2.2.2.2.2.2.2.2.1, c.2.2.2.2.2.2.2.2.2.2.2.2.2.2.2.2, Hn, Hk)) ∨
       ∃ (c' : sC) (Hn' : Int32), cd' = 0 ∧ b = nI ch' ∧ RCt Bd c' g' ∧ RH Bd Hc Hn' (nI ch') kp ch' ∧ out = .inl (b, c'.1, c'.2.1, c'.2.2.1, c'.2.2.2.1, c'.2.2.2.2.1, c'.2.2.2.2.2.1, c'.2.2.2.2.2.2.1, c'.2.2.2.2.2.2.2.1, c'.2.2.2.2.2.2.2.2.1, c'.2.2.2.2.2.2.2.2.2.1, c'.2.2.2.2.2.2.2.2.2.2.1, c'.2.2.2.2.2.2.2.2.2.2.2.1, c'.2.2.2.2.2.2.2.2.2.2.2.2.1, c'.2.2.2.2.2.2.2.2.2.2.2.2.2.1, c'.2.2.2.2.2.2.2.2.2.2.2.2.2.2.1, c'.2.2.2.2.2.2.2.2.2.2.2.2.2.2.2.1, c'.2.2.2.2.2.2.2.2.2.2.2.2.2.2.2.2, Hn', nI ch')) := by
  obtain ⟨h1, rfl, nx, h3, rfl, h5⟩ := R
  unfold f_X10_undo f_X11_undo
  by_cases q : ch = 0
  · subst q
    refine ⟨_, _, _, 0, _, if_pos rfl, by rw [if_pos (show nI 0 = (0 : Int32) from rfl)]; rfl, Or.inl ⟨rfl, rfl, rfl, rfl, rfl, rfl⟩⟩
  · have z : ¬ nI ch = (0 : Int32) := show ¬ nI ch = (0 : Int32) from fun e => q ((nI_eq (b := 0) (by omega) (by omega)).mp e)
    rw [if_neg z, if_neg z]
    obtain ⟨p, rfl⟩ : ∃ p, ch = p + 1 := ⟨ch - 1, by omega⟩
    have e1 : ∀ nx, nx < 9 → ((nI nx + 9) - 1) - ((nI nx + 9) - 1) / 9 * 9 = nI ((nx + 8) % 9) := by decide +kernel
    have e2 : ∀ p, p < 8 → nI (p + 1) - 1 = nI p := by decide +kernel
    have e3 : (nI p * 238 : Int32) = nI (238 * p) := by rw [show (238 : Int32) = nI 238 from rfl, pk_mul, Nat.mul_comm]
    have e4 : ((238 : Int32) * nI p) = nI (238 * p) := by rw [show (238 : Int32) = nI 238 from rfl, pk_mul]
    have Rk := h5 p (by omega)
    rw [show (nx + 9 - (p + 1) + p) % 9 = (nx + 8) % 9 from by omega] at Rk
    refine ⟨_, nI p, shf kp g (238 * p) 0 238, p, 0, ?_, ?_, Or.inr ⟨cpC c (Hc ((nx + 8) % 9)), nI ((nx + 8) % 9), rfl, rfl, ?_, ?_, rfl⟩⟩
    · unfold f_X5_goBack
      rw [wkl_t, wkl_t, e1 nx h3, e2 p (by omega)]
      unfold f_X5_takeBack
      rw [gin_t (vp_in_nI (by omega) (by decide)), nI_clamp (by omega), wkb17_t (q_copy3 c (Hc ((nx + 8) % 9)))]
      rfl
    · unfold f_X11_undo_L13
      rw [wkb2_t (q_fails0 cd), if_pos rfl, wkl_t, e2 p (by omega), e4, wkb1_t (q_cp2 kp g (by omega))]
    · obtain ⟨n, e, Rk⟩ := Rk
      refine ⟨n, e, RC_copy (RC_cg (fun j hj => ?_) Rk)⟩
      show (if 0 ≤ j ∧ j < 0 + 238 then kp (238 * p + (j - 0)) else _) = kp (238 * p + j)
      rw [if_pos (by omega), Nat.sub_zero]
    · refine ⟨by omega, rfl, (nx + 8) % 9, by omega, rfl, fun i hi => ?_⟩
      have := h5 i (by omega)
      rwa [show ((nx + 8) % 9 + 9 - p + i) % 9 = (nx + 9 - (p + 1) + i) % 9 from by omega]
