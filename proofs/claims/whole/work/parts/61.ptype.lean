/-! PURE LAYER: the text of the script, typed; the positions of errors -/
/-- the text of both -/
def RI (Zm L : Nat) (Zf tx : Nat → Int32) : Prop := OUT Zm L Zf tx ∧ TX L tx
theorem RI_XT {Zm L : Nat} {Zf tx : Nat → Int32} (R : RI Zm L Zf tx) : XT Zm L Zf tx := ⟨R.1.2.2.1, (CAP_le R.1.1).2, R.1.2.2.2.2⟩
theorem RI_0 {Zm L : Nat} {Zf tx : Nat → Int32} (R : RI Zm L Zf tx) : RI Zm 0 Zf tx := ⟨OUT_0 R.1, by decide, fun k hk => absurd hk (by omega)⟩
theorem o_type {Zm L : Nat} {Zf tx : Nat → Int32} (R : RI Zm L Zf tx) (c x : Int32) : ∃ out b c' tx' L' Zm' Zf', f_X10_type Zm (nI L) Zf x = some out ∧ f_X11_type c tx (nI L) x = some (b, c', tx', nI L') ∧ RI Zm' L' Zf' tx' ∧
    ((c' = 1 ∧ b = 0 ∧ out = .inr (xIAE, Zm', nI L', Zf')) ∨ (c' = 2 ∧ b = 0 ∧ out = .inr (xISE, Zm', nI L', Zf')) ∨ (c' = 0 ∧ out = .inl (b, Zm', nI L', Zf'))) := by
  have hT := R.2.1
  unfold f_X10_type f_X11_type
  rcases bt 32 126 (by decide) (by decide) x with h | ⟨v, v1, v2, rfl, h⟩
  · have h : f_X11_in x 32 126 = some 0 := h
    refine ⟨.inr (xIAE, Zm, nI L, Zf), 0, 1, tx, L, Zm, Zf, ?_, by rw [wkb1_t h]; rfl, R, Or.inl ⟨rfl, rfl, rfl⟩⟩
    by_cases a1 : x < 32
    · rw [if_pos a1]
    · rw [if_neg a1]
      by_cases a2 : x ≤ 126
      · exfalso
        unfold f_X11_in at h
        rw [if_neg a1, if_neg (Int32.not_lt.mpr a2)] at h
        exact absurd h (by decide)
      · rw [if_neg a2]
  · have h : f_X11_in (nI v) 32 126 = some 1 := h
    rw [if_neg (show ¬ nI v < (32 : Int32) from Int32.not_lt.mpr (nI_le (a := 32) v1 (by omega))), if_pos (show nI v ≤ (126 : Int32) from nI_le (b := 126) v2 (by decide)), wkb1_t (show f_X7_length (nI L) = some (nI L) from rfl), wkb1_t h, if_neg one_ne]
    by_cases hL : L = 60
    · subst hL
      exact ⟨_, 0, 2, tx, 60, Zm, Zf, if_neg (by decide), rfl, R, Or.inr (Or.inl ⟨rfl, rfl, rfl⟩)⟩
    · obtain ⟨z1, f1, e1, O1⟩ := a_char (x := v) R.1 (by omega) (by omega)
      rw [if_pos (show nI L < (60 : Int32) from nI_lt (b := 60) (by omega) (by decide)), if_neg (show ¬ nI L = (60 : Int32) from fun z => hL ((nI_eq (b := 60) (by omega) (by omega)).mp z))]
      have ha : f_X7_append Zm (nI L) Zf (nI v) = some (nI (L + 1), z1, nI (L + 1), f1) := by
        unfold f_X7_append
        rw [wkb3_t e1, wkb1_t (q_lenJ _)]
      refine ⟨_, nI (L + 1), 0, upd tx L (nI v), L + 1, z1, f1, wkb4_t ha, ?_, ⟨O1, by omega, fun k hk => ?_⟩, Or.inr (Or.inr ⟨rfl, rfl⟩)⟩
      · unfold f_X11_type_L30
        rw [wkb2_t (q_fails0 c), if_pos rfl, gin_t (vp_in_nI (by omega) (by decide)), wkl_t, wkl_t, nI_clamp (by omega), nI_1]
      · by_cases e : k = L
        · subst e
          exact ⟨v, v1, v2, pk_us⟩
        · obtain ⟨w, w1, w2, w3⟩ := R.2.2 k (by omega)
          exact ⟨w, w1, w2, (pk_un e).trans w3⟩
/-- a position, or none -/
def RE (p : Int32) : Prop := p = -1 ∨ ∃ x, x ≤ 400 ∧ p = nI x
theorem o_errorPosition {p : Int32} (R : RE p) (c : Int32) : ∃ out b c', f_X10_errorPosition p = some out ∧ f_X11_errorPosition c p = some (b, c') ∧ agr [xNSE] out b c' := by
  unfold f_X10_errorPosition f_X11_errorPosition
  rcases R with rfl | ⟨x, hx, rfl⟩
  · exact ⟨_, _, _, wkx_e q_reqF0, rfl, Or.inr ⟨0, _, rfl, rfl, rfl⟩⟩
  · rw [wkx_t (q_reqF1 (by omega)), if_pos (show (0 : Int32) ≤ nI x from nI_le (a := 0) (by omega) (by omega))]
    exact ⟨_, _, _, rfl, rfl, Or.inl ⟨rfl, rfl⟩⟩
theorem o_failedCommand {p : Int32} (R : RE p) (c : Int32) : ∃ out b c', f_X10_failedCommand p = some out ∧ f_X11_failedCommand c p = some (b, c') ∧ agr [xNSE] out b c' := by
  unfold f_X10_failedCommand f_X11_failedCommand
  rcases R with rfl | ⟨x, hx, rfl⟩
  · exact ⟨_, _, _, wkx_e q_reqF0, rfl, Or.inr ⟨0, _, rfl, rfl, rfl⟩⟩
  · rw [wkx_t (q_reqF1 (by omega)), if_pos (show (0 : Int32) ≤ nI x from nI_le (a := 0) (by omega) (by omega))]
    exact ⟨_, _, _, rfl, rfl, Or.inl ⟨rfl, rfl⟩⟩
