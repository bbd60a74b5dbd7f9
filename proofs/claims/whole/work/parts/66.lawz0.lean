/-! the helpers in the relation -/
theorem n10 : ¬ (1 : Int32) = 0 := by decide
theorem n20 : ¬ (2 : Int32) = 0 := by decide
theorem zI1 {E1 : String} {out : Int32 ⊕ String} {b c : Int32} (o : Nat → Int64) (h : agr [E1] out b c) : ∃ z : Int32 × (Nat → Int64), wkz (some out) (fun x9 => wkl (vp_updL o 0 ((x9).toInt64)) (fun f1 => some (0, f1))) (fun y9 => if y9 = E1 then some (1, o) else none) = some z ∧ c = z.1 ∧ (z.1 = 0 → z.2 0 = b.toInt64) := by
  rcases h with ⟨rfl, rfl⟩ | ⟨i, E, hi, rfl, rfl⟩
  · exact ⟨(0, vp_updL o 0 b.toInt64), rfl, rfl, fun _ => rfl⟩
  · cases i with
    | zero => cases hi; exact ⟨(1, o), if_pos rfl, rfl, fun h => absurd h n10⟩
    | succ i => simp at hi
theorem zI2 {E1 E2 : String} (hne : E2 ≠ E1) {out : Int32 ⊕ String} {b c : Int32} (o : Nat → Int64) (h : agr [E1, E2] out b c) : ∃ z : Int32 × (Nat → Int64), wkz (some out) (fun x9 => wkl (vp_updL o 0 ((x9).toInt64)) (fun f1 => some (0, f1))) (fun y9 => if y9 = E1 then some (1, o) else (if y9 = E2 then some (2, o) else none)) = some z ∧ c = z.1 ∧ (z.1 = 0 → z.2 0 = b.toInt64) := by
  rcases h with ⟨rfl, rfl⟩ | ⟨i, E, hi, rfl, rfl⟩
  · exact ⟨(0, vp_updL o 0 b.toInt64), rfl, rfl, fun _ => rfl⟩
  · cases i with
    | zero => cases hi; exact ⟨(1, o), if_pos rfl, rfl, fun h => absurd h n10⟩
    | succ i =>
      cases i with
      | zero => cases hi; exact ⟨(2, o), (if_neg hne).trans (if_pos rfl), rfl, fun h => absurd h n20⟩
      | succ i => simp at hi
theorem zL1 {E1 : String} {out : Int64 ⊕ String} {b : Int64} {c : Int32} (o : Nat → Int64) (h : agr [E1] out b c) : ∃ z : Int32 × (Nat → Int64), wkz (some out) (fun x9 => wkl (vp_updL o 0 x9) (fun f1 => some (0, f1))) (fun y9 => if y9 = E1 then some (1, o) else none) = some z ∧ c = z.1 ∧ (z.1 = 0 → z.2 0 = b) := by
  rcases h with ⟨rfl, rfl⟩ | ⟨i, E, hi, rfl, rfl⟩
  · exact ⟨(0, vp_updL o 0 b), rfl, rfl, fun _ => rfl⟩
  · cases i with
    | zero => cases hi; exact ⟨(1, o), if_pos rfl, rfl, fun h => absurd h n10⟩
    | succ i => simp at hi
theorem zB1 {E1 : String} {out : Int32 ⊕ String} {b c : Int32} (o : Nat → Int64) (h : agr [E1] out b c) : ∃ z : Int32 × (Nat → Int64), wkz (some out) (fun x9 => if x9 = 0 then wkl (vp_updL o 0 0) (fun f1 => some (0, f1)) else wkl (vp_updL o 0 1) (fun f1 => some (0, f1))) (fun y9 => if y9 = E1 then some (1, o) else none) = some z ∧ c = z.1 ∧ (z.1 = 0 → z.2 0 = if b = 0 then 0 else 1) := by
  rcases h with ⟨rfl, rfl⟩ | ⟨i, E, hi, rfl, rfl⟩
  · by_cases q : b = 0
    · exact ⟨(0, vp_updL o 0 0), if_pos q, rfl, fun _ => (if_pos q).symm⟩
    · exact ⟨(0, vp_updL o 0 1), if_neg q, rfl, fun _ => (if_neg q).symm⟩
  · cases i with
    | zero => cases hi; exact ⟨(1, o), if_pos rfl, rfl, fun h => absurd h n10⟩
    | succ i => simp at hi
theorem zD1 {E1 : String} {out : UInt64 ⊕ String} {b : UInt64} {c : Int32} (o : Nat → UInt64) (h : agr [E1] out b c) (hv : ∀ v, out = .inl v → ∃ y, v = UInt64.ofNat y ∧ P64 y) : ∃ z : Int32 × (Nat → UInt64), wkz (some out) (fun x9 => wkl (vf_upd o 0 x9) (fun f1 => some (0, f1))) (fun y9 => if y9 = E1 then some (1, o) else none) = some z ∧ c = z.1 ∧ (z.1 = 0 → (Op.cmpValue (FP.dcmp (z.2 0) b) .l) = 0) := by
  rcases h with ⟨rfl, rfl⟩ | ⟨i, E, hi, rfl, rfl⟩
  · obtain ⟨y, rfl, hy⟩ := hv b rfl
    exact ⟨(0, vf_upd o 0 (UInt64.ofNat y)), rfl, rfl, fun _ => by show Op.cmpValue (FP.dcmp (UInt64.ofNat y) (UInt64.ofNat y)) .l = 0; rw [dcm hy hy]; exact cmp_l0.mpr rfl⟩
  · cases i with
    | zero => cases hi; exact ⟨(1, o), if_pos rfl, rfl, fun h => absurd h n10⟩
    | succ i => simp at hi
theorem zF2 {E1 E2 : String} (hne : E2 ≠ E1) {out : UInt32 ⊕ String} {b : UInt32} {c : Int32} (o : Nat → UInt64) (h : agr [E1, E2] out b c) (hv : ∀ v, out = .inl v → ∃ y, FP.f2d v = UInt64.ofNat y ∧ P64 y) : ∃ z : Int32 × (Nat → UInt64), wkz (some out) (fun x9 => gok (FP.f2d x9 &&& 0x7fffffffffffffff ≤ 0x7ff0000000000000) (wkl (vf_upd o 0 (FP.f2d x9)) (fun f1 => some (0, f1)))) (fun y9 => if y9 = E1 then some (1, o) else (if y9 = E2 then some (2, o) else none)) = some z ∧ c = z.1 ∧ (z.1 = 0 → FP.f2d b &&& 0x7fffffffffffffff ≤ 0x7ff0000000000000) ∧ (z.1 = 0 → (Op.cmpValue (FP.dcmp (z.2 0) (FP.f2d b)) .l) = 0) := by
  rcases h with ⟨rfl, rfl⟩ | ⟨i, E, hi, rfl, rfl⟩
  · obtain ⟨y, e, hy⟩ := hv b rfl
    have hg : FP.f2d b &&& 0x7fffffffffffffff ≤ 0x7ff0000000000000 := by rw [e]; exact ok64 hy
    exact ⟨(0, vf_upd o 0 (FP.f2d b)), gok_t' hg, rfl, fun _ => hg, fun _ => by show Op.cmpValue (FP.dcmp (FP.f2d b) (FP.f2d b)) .l = 0; rw [e, dcm hy hy]; exact cmp_l0.mpr rfl⟩
  · cases i with
    | zero => cases hi; exact ⟨(1, o), if_pos rfl, rfl, fun h => absurd h n10, fun h => absurd h n10⟩
    | succ i =>
      cases i with
      | zero => cases hi; exact ⟨(2, o), (if_neg hne).trans (if_pos rfl), rfl, fun h => absurd h n20, fun h => absurd h n20⟩
      | succ i => simp at hi
theorem ym_nz {L : List Nat} {r y : Nat} (h : ym L r y) (hl : L.length ≤ 4) : ¬ nI y = 0 := by
  obtain ⟨i, hi, rfl⟩ := h
  have := (List.getElem?_eq_some_iff.mp hi).1
  exact nI_ne0 (by omega) (by omega)
theorem zy1 {CT : Type} {r y a1 : Nat} (h : ym [a1] r y) (w : CT) (o : Nat → Int64) : (if xof r = xof a1 then some (1, w, o) else none : Option (Int32 × CT × (Nat → Int64))) = some (nI y, w, o) := by
  obtain ⟨i, hi, rfl⟩ := h
  cases i with
  | zero => cases hi; exact if_pos rfl
  | succ i => simp at hi
theorem zy2 {CT : Type} {r y a1 a2 : Nat} (h : ym [a1, a2] r y) (h2 : xof a2 ≠ xof a1) (w : CT) (o : Nat → Int64) : (if xof r = xof a1 then some (1, w, o) else (if xof r = xof a2 then some (2, w, o) else none) : Option (Int32 × CT × (Nat → Int64))) = some (nI y, w, o) := by
  obtain ⟨i, hi, rfl⟩ := h
  rcases i with _ | _ | i
  · cases hi; exact if_pos rfl
  · cases hi; exact (if_neg h2).trans (if_pos rfl)
  · simp at hi
theorem zy3 {CT : Type} {r y a1 a2 a3 : Nat} (h : ym [a1, a2, a3] r y) (h2 : xof a2 ≠ xof a1) (h3 : xof a3 ≠ xof a1) (h4 : xof a3 ≠ xof a2) (w : CT) (o : Nat → Int64) : (if xof r = xof a1 then some (1, w, o) else (if xof r = xof a2 then some (2, w, o) else (if xof r = xof a3 then some (3, w, o) else none)) : Option (Int32 × CT × (Nat → Int64))) = some (nI y, w, o) := by
  obtain ⟨i, hi, rfl⟩ := h
  rcases i with _ | _ | _ | i
  · cases hi; exact if_pos rfl
  · cases hi; exact (if_neg h2).trans (if_pos rfl)
  · cases hi; exact (if_neg h3).trans ((if_neg h4).trans (if_pos rfl))
  · simp at hi
theorem zy4 {CT : Type} {r y a1 a2 a3 a4 : Nat} (h : ym [a1, a2, a3, a4] r y) (h2 : xof a2 ≠ xof a1) (h3 : xof a3 ≠ xof a1) (h4 : xof a3 ≠ xof a2) (h5 : xof a4 ≠ xof a1) (h6 : xof a4 ≠ xof a2) (h7 : xof a4 ≠ xof a3) (w : CT) (o : Nat → Int64) : (if xof r = xof a1 then some (1, w, o) else (if xof r = xof a2 then some (2, w, o) else (if xof r = xof a3 then some (3, w, o) else (if xof r = xof a4 then some (4, w, o) else none))) : Option (Int32 × CT × (Nat → Int64))) = some (nI y, w, o) := by
  obtain ⟨i, hi, rfl⟩ := h
  rcases i with _ | _ | _ | _ | i
  · cases hi; exact if_pos rfl
  · cases hi; exact (if_neg h2).trans (if_pos rfl)
  · cases hi; exact (if_neg h3).trans ((if_neg h4).trans (if_pos rfl))
  · cases hi; exact (if_neg h5).trans ((if_neg h6).trans ((if_neg h7).trans (if_pos rfl)))
  · simp at hi
theorem o_safetyX {n : Nat} {Tc : Int32} {W S Hh C F g : Nat → Int32} (R : RT n Tc W S Hh C F g) (c x : Int32) (col loads : Nat → Int32) (z : Int32) : ∃ out b c' col' loads' z', f_X10_safety Tc W S x = some out ∧ f_X11_safety g c col loads z x = some (b, c', col', loads', z') ∧ agr [xIAE, xARI] out b c' ∧ ∀ v, out = .inl v → ∃ y, FP.f2d v = UInt64.ofNat y ∧ P64 y := by
  have T := RT_tr R
  obtain ⟨rfl, G, R1, -⟩ := R
  have hn := G.1
  have h6 := pow64 hn
  unfold f_X10_safety f_X11_safety
  rcases set_or n hn x with h | ⟨m, h0, hm, rfl⟩
  · exact ⟨_, _, _, _, _, _, wkx_e (q_reqS0 hn h), by rw [wkb5_t (q_isWrong0 G h)]; rfl, Or.inr ⟨0, _, rfl, rfl, rfl⟩, fun v hv => by cases hv⟩
  · obtain ⟨c1, l1, e1, hL⟩ := q_isWrong1 (c := c) (col := col) (loads := loads) (z := z) G h0 hm
    have hw : ∀ k, k < n → 30 ≤ gW g k := fun k hk => (G.2.2 k hk).1.2.1
    have hM := mn_le n m
    rw [wkx_t (q_reqS1 hn h0 hm), q_several hn hm, wkb5_t e1, if_pos rfl]
    by_cases h2 : 2 ≤ mn n m
    · obtain ⟨s1, s2, s3⟩ := safe_eq G hL h2
      obtain ⟨y, r, b1, b2, -⟩ := bits32 s3
      rw [if_pos h2, wkx_t rfl, wkb1_t (q_safetyOf T hw (by omega)), if_neg (show ¬ nI (mn n m) = (1 : Int32) from fun q => by have := (nI_eq (b := 1) (by omega) (by omega)).mp q; omega), wkb2_t (q_fails0 0), if_pos rfl, wkb1_t (q_safe G hL (by omega)), s1]
      exact ⟨_, _, _, _, _, _, rfl, rfl, Or.inl ⟨rfl, rfl⟩, fun v hv => by cases hv; exact ⟨y, b1, b2⟩⟩
    · have h1 := mn_pos h0 hm
      rw [if_neg h2, wkx_e rfl, show mn n m = 1 by omega, if_pos (show nI 1 = (1 : Int32) from rfl)]
      exact ⟨_, _, _, _, _, _, rfl, rfl, Or.inr ⟨1, _, rfl, rfl, rfl⟩, fun v hv => by cases hv⟩
theorem o_meanPositiveX {n e Bd : Nat} {Ba : Int32} {B Bo : Nat → Int32} {Be : Int32} {D C A g : Nat → Int32} (G : gB n e Bd g) (R : RB n e Ba B Bo Be D C A g) (c : Int32) : ∃ out b c', f_X10_meanPositive Ba B = some out ∧ f_X11_meanPositive g c = some (b, c') ∧ agr [xARI] out b c' ∧ ∀ v, out = .inl v → ∃ y, v = UInt64.ofNat y ∧ P64 y := by
  obtain ⟨rfl, rfl, R1, -⟩ := R
  have hB : ∀ k, k < 11 → B k = g (36 + k) := fun k hk => (R1 k hk).1
  have hC := pC_le g 11
  obtain ⟨e1, e2⟩ := pC_11 G
  unfold f_X10_meanPositive f_X11_meanPositive f_X10_requirePositiveBalance
  rw [wkb1_t (q_posCount G hB), wkb1_t (q_nonePos G), ← e1]
  by_cases h : pC g 11 = 0
  · rw [if_pos (show nI (pC g 11) = (0 : Int32) from by rw [h]; rfl), if_pos h]
    exact ⟨_, _, _, wkx_e rfl, rfl, Or.inr ⟨0, _, rfl, rfl, rfl⟩, fun v hv => by cases hv⟩
  · have hm : mnD g = some (FP.ddiv (FP.i2d (nI (pS g 11))) (FP.i2d (nI (pC g 11)))) := if_neg h
    obtain ⟨x, x1, x2, x3⟩ := mnD_x G h
    rw [if_neg (nI_ne0 (by omega) (by omega)), if_neg h, wkx_t rfl, if_pos rfl, wkb2_t (q_fails0 c), if_pos rfl, wkb1_t ((q_meanC G hB).trans hm), wkb1_t ((q_meanM G).trans hm)]
    exact ⟨_, _, _, rfl, rfl, Or.inl ⟨rfl, rfl⟩, fun v hv => by cases hv; exact ⟨x, x1, x2⟩⟩
