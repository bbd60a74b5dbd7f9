/-! PURE LAYER: the commands of a script carried out by both -/
def carg : List Nat → Nat
  | [] => 0
  | c :: l => (if c = 35 ∨ c = 42 ∨ c = 63 ∨ c = 126 then 1 else 0) + carg l
theorem pt_args (f : Nat → Nat) (x p : Nat) (vs : List Nat) (h : (pt f x p vs).1 = true) : (pt f x p vs).2.2.length = vs.length + (if x = 35 ∨ x = 42 ∨ x = 63 ∨ x = 126 then 1 else 0) := by
  revert h
  unfold pt
  by_cases e1 : x = 35
  · rw [if_pos e1, if_pos (Or.inl e1)]
    intro _
    exact List.length_append
  · rw [if_neg e1]
    by_cases e2 : x = 42
    · rw [if_pos e2, if_pos (Or.inr (Or.inl e2))]
      intro _
      exact List.length_append
    · rw [if_neg e2]
      by_cases e3 : x = 63
      · rw [if_pos e3, if_pos (Or.inr (Or.inr (Or.inl e3)))]
        split
        · intro _
          exact List.length_append
        · intro h
          exact absurd h (by simp)
      · rw [if_neg e3]
        by_cases e4 : x = 126
        · rw [if_pos e4, if_pos (Or.inr (Or.inr (Or.inr e4)))]
          split
          · intro _
            exact List.length_append
          · intro _
            exact List.length_append
        · rw [if_neg e4, if_neg (show ¬ (x = 35 ∨ x = 42 ∨ x = 63 ∨ x = 126) by omega)]
          split
          · intro _
            rfl
          · intro h
            exact absurd h (by simp)
theorem fm_args (f : Nat → Nat) : ∀ (l : List Nat) p vs, (fm f l p vs).1 = true → (fm f l p vs).2.2.length = vs.length + carg l := by
  intro l
  induction l with
  | nil => intro p vs _; rfl
  | cons c l ih =>
    intro p vs h
    rw [fm] at h ⊢
    by_cases g : (pt f c p vs).1 = true
    · rw [if_pos g] at h ⊢
      have a := pt_args f c p vs g
      have b := ih _ _ h
      rw [carg]
      omega
    · rw [if_neg g] at h
      exact absurd h (by simp)
def na (k : Nat) : Nat := [4, 3, 2, 1, 1, 1, 0, 2].getD k 0
theorem form_na : ∀ k, k < 8 → carg (form k) = na k := by decide +kernel
theorem rdd_na {f : Nat → Nat} {L : Nat} : ∀ d p ks, (∀ x, x ∈ ks → x.2.length = na x.1) → ∀ ks', (rdd f L d p ks).1 = some ks' → ∀ x, x ∈ ks' → x.2.length = na x.1 := by
  intro d
  induction d with
  | zero => intro p ks _ ks' h; exact absurd h (by simp [rdd])
  | succ d ih =>
    intro p ks hk ks' h
    rw [rdd] at h
    cases hc : (cls f p 8 0 p).1 with
    | none =>
      rw [hc] at h
      exact absurd h (by simp)
    | some r =>
      obtain ⟨k, q, vs⟩ := r
      obtain ⟨-, c2, c3, -, c5⟩ := cls_form 8 0 p k q vs hc
      have hv : vs.length = na k := by
        have := fm_args f (form k) p [] c3
        rw [form_na k (by omega)] at this
        rw [c5, this]
        exact Nat.zero_add _
      have hk2 : ∀ x, x ∈ ks ++ [(k, vs)] → x.2.length = na x.1 := fun x hx => by
        rcases List.mem_append.mp hx with z | z
        · exact hk x z
        · rw [List.mem_singleton.mp z]
          exact hv
      rw [hc] at h
      have h : (if f q = 59 then rdd f L d (q + 1) (ks ++ [(k, vs)]) else if q = L then (some (ks ++ [(k, vs)]), q) else (none, q)).1 = some ks' := h
      by_cases e1 : f q = 59
      · rw [if_pos e1] at h
        exact ih _ _ hk2 _ h
      · rw [if_neg e1] at h
        by_cases e2 : q = L
        · rw [if_pos e2] at h
          injection h with h
          rw [← h]
          exact hk2
        · rw [if_neg e2] at h
          exact absurd h (by simp)
theorem kg1 (g kp : Nat → Int32) (ch cd : Int32) : f_X11_keeps_g g kp ch 1 cd = some (kp, ch, 0) := if_neg one_ne
theorem q_arg {Sa : Nat → Int32} {j : Nat} (i : Nat) (hj : j < 12) (hi : i < 4) : f_X7_argument Sa (nI j) (nI i) = some (Sa (4 * j + i)) := by
  unfold f_X7_argument
  have e : (nI j * 4) + nI i = nI (4 * j + i) := by
    rw [show (4 : Int32) = nI 4 from rfl, pk_mul, nI_add, Nat.mul_comm]
  rw [e, gin_t (vp_in_nI (by omega) (by decide)), nI_clamp (by omega)]
def stepG (Cm : Nat → Option Nat) (Sa t : Nat → Int32) (j Bd : Nat) (c : sC) (g : Nat → Int32) : Prop :=
  ∃ r, f_X7_refusalOf Cm Sa c.1 c.2.1 c.2.2.1 c.2.2.2.2.2.1 c.2.2.2.2.2.2.1 c.2.2.2.2.2.2.2.1 c.2.2.2.2.2.2.2.2.2.1 (nI j) = some r ∧ r < 5 ∧
    ((0 < r ∧ ∀ kp ch cd col loads z, ∃ y col' loads' z', 0 < y ∧ y ≤ 4 ∧ f_X11_carries g kp ch 1 cd col loads z t (nI (5 * j)) = some (0, g, kp, ch, nI y, col', loads', z')) ∨
     (r = 0 ∧ ∃ (c' : sC) (g' : Nat → Int32), f_X7_execute Cm Sa c.1 c.2.1 c.2.2.1 c.2.2.2.1 c.2.2.2.2.1 c.2.2.2.2.2.1 c.2.2.2.2.2.2.1 c.2.2.2.2.2.2.2.1 c.2.2.2.2.2.2.2.2.1 c.2.2.2.2.2.2.2.2.2.1 c.2.2.2.2.2.2.2.2.2.2.1 c.2.2.2.2.2.2.2.2.2.2.2.1 c.2.2.2.2.2.2.2.2.2.2.2.2.1 c.2.2.2.2.2.2.2.2.2.2.2.2.2.1 c.2.2.2.2.2.2.2.2.2.2.2.2.2.2.1 c.2.2.2.2.2.2.2.2.2.2.2.2.2.2.2.1 c.2.2.2.2.2.2.2.2.2.2.2.2.2.2.2.2 (nI j) = some c' ∧ RCt (Bd + 19998) c' g' ∧
       ∀ kp ch cd col loads z, ∃ b col' loads' z', f_X11_carries g kp ch 1 cd col loads z t (nI (5 * j)) = some (b, g', kp, ch, 0, col', loads', z')))
theorem ym_y {L : List Nat} {r y : Nat} (h : ym L r y) (hL : L.length ≤ 4) : 0 < y ∧ y ≤ 4 := by
  obtain ⟨i, h1, rfl⟩ := h
  have := (List.getElem?_eq_some_iff.mp h1).1
  omega
theorem x_0 {Bd j : Nat} {Tc Ba Be ni ne sh fa : Int32} {W S Hh C F B Bo D Cr A g t Sa : Nat → Int32} {Cm : Nat → Option Nat} (R : RCt Bd (Tc, W, S, Hh, C, F, Ba, B, Bo, Be, D, Cr, A, ni, ne, sh, fa) g) (hB : Bd + 19998 < 2 ^ 30) (hj : j < 12) {x0 x1 x2 x3 : Int32} (hC : Cm j = some 0) (hT : t (5 * j) = nI 0) (a0 : Sa (4 * j + 0) = x0) (m0 : t (5 * j + 1 + 0) = x0) (a1 : Sa (4 * j + 1) = x1) (m1 : t (5 * j + 1 + 1) = x1) (a2 : Sa (4 * j + 2) = x2) (m2 : t (5 * j + 1 + 2) = x2) (a3 : Sa (4 * j + 3) = x3) (m3 : t (5 * j + 1 + 3) = x3) : stepG Cm Sa t j Bd (Tc, W, S, Hh, C, F, Ba, B, Bo, Be, D, Cr, A, ni, ne, sh, fa) g := by
  obtain ⟨n, e, R0⟩ := id R
  obtain ⟨r, h1, h2, h3⟩ := s_hire R0 x0 x1 x2 x3
  unfold stepG
  have i0 : vp_in (nI (5 * j)) 155 := vp_in_nI (by omega) (by decide)
  have i1 : vp_in (nI (5 * j + 1)) 155 := vp_in_nI (by omega) (by decide)
  have e1 : nI (5 * j) + 1 = nI (5 * j + 1) := by rw [show (1 : Int32) = nI 1 from rfl, nI_add]
  have i2 : vp_in (nI (5 * j + 2)) 155 := vp_in_nI (by omega) (by decide)
  have e2 : nI (5 * j) + 2 = nI (5 * j + 2) := by rw [show (2 : Int32) = nI 2 from rfl, nI_add]
  have i3 : vp_in (nI (5 * j + 3)) 155 := vp_in_nI (by omega) (by decide)
  have e3 : nI (5 * j) + 3 = nI (5 * j + 3) := by rw [show (3 : Int32) = nI 3 from rfl, nI_add]
  have i4 : vp_in (nI (5 * j + 4)) 155 := vp_in_nI (by omega) (by decide)
  have e4 : nI (5 * j) + 4 = nI (5 * j + 4) := by rw [show (4 : Int32) = nI 4 from rfl, nI_add]
  have hcar : ∀ kp ch cd col loads z, f_X11_carries g kp ch 1 cd col loads z t (nI (5 * j)) = wkb5 (f_X11_addAcrobat g kp ch 1 cd  x0 x1 x2 x3) (fun r7 w8 w9 w10 w11 => some (r7, w8, w9, w10, w11, col, loads, z)) := fun kp ch cd col loads z => by
    unfold f_X11_carries
    rw [e1, e2, e3, e4, gin_t i1, gin_t i2, gin_t i0, nI_clamp (show 5 * j < 2 ^ 31 by omega), hT, if_pos (show nI 0 = (0 : Int32) from rfl), gin_t i3, gin_t i4, nI_clamp (show 5 * j + 1 < 2 ^ 31 by omega), nI_clamp (show 5 * j + 2 < 2 ^ 31 by omega), nI_clamp (show 5 * j + 3 < 2 ^ 31 by omega), nI_clamp (show 5 * j + 4 < 2 ^ 31 by omega), show t (5 * j + 1) = x0 from m0, show t (5 * j + 2) = x1 from m1, show t (5 * j + 3) = x2 from m2, show t (5 * j + 4) = x3 from m3]
  refine ⟨r, ?_, h2, ?_⟩
  · unfold f_X7_refusalOf
    rw [gin_t (vp_in_nI (by omega) (by decide)), nI_clamp (by omega), wkb1_t hC, gok_t' (by decide), wkb1_t (show f_Jx29ce0_ordinal_8abf5 0 = some (sOrd 0) from rfl), gin_t (show vp_in (sOrd 0) 8 by unfold vp_in; decide), if_pos (show sSw (sOrd 0).toNatClampNeg = (1 : Int32) by decide), wkb1_t (show f_X7_argument Sa (nI j) 0 = _ from q_arg 0 hj (by decide)), a0, wkb1_t (show f_X7_argument Sa (nI j) 1 = _ from q_arg 1 hj (by decide)), a1, wkb1_t (show f_X7_argument Sa (nI j) 2 = _ from q_arg 2 hj (by decide)), a2, wkb1_t (show f_X7_argument Sa (nI j) 3 = _ from q_arg 3 hj (by decide)), a3, wkb1_t h1]
  rcases h3 with ⟨y, hy, hm⟩ | ⟨rfl, b, Tc', W', S', H', C', Ba', g', k1, k2, k3⟩
  · exact Or.inl ⟨ym_pos hy (by decide), fun kp ch cd col loads z => ⟨y, col, loads, z, (ym_y hy (by decide)).1, (ym_y hy (by decide)).2, by rw [hcar, wkb5_t (hm kp ch 1 cd)]⟩⟩
  · refine Or.inr ⟨rfl, (Tc', W', S', H', C', F, Ba', B, Bo, Be, D, Cr, A, ni, ne, sh, fa), g', ?_, ⟨_, _, RC_mono (by omega) hB k2⟩, fun kp ch cd col loads z => ⟨b, col, loads, z, ?_⟩⟩
    · unfold f_X7_execute
      rw [gin_t (vp_in_nI (by omega) (by decide)), nI_clamp (by omega), wkb1_t hC, gok_t' (by decide), wkb1_t (show f_Jx29ce0_ordinal_8abf5 0 = some (sOrd 0) from rfl), gin_t (show vp_in (sOrd 0) 8 by unfold vp_in; decide), if_pos (show sSw (sOrd 0).toNatClampNeg = (1 : Int32) by decide), wkb1_t (show f_X7_argument Sa (nI j) 0 = _ from q_arg 0 hj (by decide)), a0, wkb1_t (show f_X7_argument Sa (nI j) 1 = _ from q_arg 1 hj (by decide)), a1, wkb1_t (show f_X7_argument Sa (nI j) 2 = _ from q_arg 2 hj (by decide)), a2, wkb1_t (show f_X7_argument Sa (nI j) 3 = _ from q_arg 3 hj (by decide)), a3, wkb7_e k1]
    · rw [hcar, wkb5_t ((k3 kp ch 1 cd).trans (by rw [kg1]; rfl))]
theorem x_1 {Bd j : Nat} {Tc Ba Be ni ne sh fa : Int32} {W S Hh C F B Bo D Cr A g t Sa : Nat → Int32} {Cm : Nat → Option Nat} (R : RCt Bd (Tc, W, S, Hh, C, F, Ba, B, Bo, Be, D, Cr, A, ni, ne, sh, fa) g) (hB : Bd + 19998 < 2 ^ 30) (hj : j < 12) {x0 x1 x2 : Int32} (hC : Cm j = some 1) (hT : t (5 * j) = nI 1) (a0 : Sa (4 * j + 0) = x0) (m0 : t (5 * j + 1 + 0) = x0) (a1 : Sa (4 * j + 1) = x1) (m1 : t (5 * j + 1 + 1) = x1) (a2 : Sa (4 * j + 2) = x2) (m2 : t (5 * j + 1 + 2) = x2) : stepG Cm Sa t j Bd (Tc, W, S, Hh, C, F, Ba, B, Bo, Be, D, Cr, A, ni, ne, sh, fa) g := by
  obtain ⟨n, e, R0⟩ := id R
  obtain ⟨r, h1, h2, h3⟩ := s_post R0 hB x0 x1 x2
  unfold stepG
  have i0 : vp_in (nI (5 * j)) 155 := vp_in_nI (by omega) (by decide)
  have i1 : vp_in (nI (5 * j + 1)) 155 := vp_in_nI (by omega) (by decide)
  have e1 : nI (5 * j) + 1 = nI (5 * j + 1) := by rw [show (1 : Int32) = nI 1 from rfl, nI_add]
  have i2 : vp_in (nI (5 * j + 2)) 155 := vp_in_nI (by omega) (by decide)
  have e2 : nI (5 * j) + 2 = nI (5 * j + 2) := by rw [show (2 : Int32) = nI 2 from rfl, nI_add]
  have i3 : vp_in (nI (5 * j + 3)) 155 := vp_in_nI (by omega) (by decide)
  have e3 : nI (5 * j) + 3 = nI (5 * j + 3) := by rw [show (3 : Int32) = nI 3 from rfl, nI_add]
  have i4 : vp_in (nI (5 * j + 4)) 155 := vp_in_nI (by omega) (by decide)
  have e4 : nI (5 * j) + 4 = nI (5 * j + 4) := by rw [show (4 : Int32) = nI 4 from rfl, nI_add]
  have hcar : ∀ kp ch cd col loads z, f_X11_carries g kp ch 1 cd col loads z t (nI (5 * j)) = wkb5 (f_X11_post g kp ch 1 cd  x0 x1 x2) (fun r7 w8 w9 w10 w11 => some (r7, w8, w9, w10, w11, col, loads, z)) := fun kp ch cd col loads z => by
    unfold f_X11_carries
    rw [e1, e2, e3, gin_t i1, gin_t i2, gin_t i0, nI_clamp (show 5 * j < 2 ^ 31 by omega), hT, if_neg (show ¬ nI 1 = (0 : Int32) by decide), if_pos (show nI 1 = (1 : Int32) from rfl), gin_t i3, nI_clamp (show 5 * j + 1 < 2 ^ 31 by omega), nI_clamp (show 5 * j + 2 < 2 ^ 31 by omega), nI_clamp (show 5 * j + 3 < 2 ^ 31 by omega), show t (5 * j + 1) = x0 from m0, show t (5 * j + 2) = x1 from m1, show t (5 * j + 3) = x2 from m2]
  refine ⟨r, ?_, h2, ?_⟩
  · unfold f_X7_refusalOf
    rw [gin_t (vp_in_nI (by omega) (by decide)), nI_clamp (by omega), wkb1_t hC, gok_t' (by decide), wkb1_t (show f_Jx29ce0_ordinal_8abf5 1 = some (sOrd 1) from rfl), gin_t (show vp_in (sOrd 1) 8 by unfold vp_in; decide), if_neg (show ¬ sSw (sOrd 1).toNatClampNeg = (1 : Int32) by decide), if_pos (show sSw (sOrd 1).toNatClampNeg = (2 : Int32) by decide), wkb1_t (show f_X7_argument Sa (nI j) 0 = _ from q_arg 0 hj (by decide)), a0, wkb1_t (show f_X7_argument Sa (nI j) 1 = _ from q_arg 1 hj (by decide)), a1, wkb1_t (show f_X7_argument Sa (nI j) 2 = _ from q_arg 2 hj (by decide)), a2, wkb1_t h1]
  rcases h3 with ⟨y, hy, hm⟩ | ⟨rfl, b, d, cr, a, B', D', C', A', g', -, k1, k2, -, -, k3⟩
  · exact Or.inl ⟨ym_pos hy (by decide), fun kp ch cd col loads z => ⟨y, col, loads, z, (ym_y hy (by decide)).1, (ym_y hy (by decide)).2, by rw [hcar, wkb5_t (hm kp ch 1 cd)]⟩⟩
  · refine Or.inr ⟨rfl, (Tc, W, S, Hh, C, F, Ba, B', Bo, nI (e + 1), D', C', A', ni, ne, sh, fa), g', ?_, ⟨_, _, k2⟩, fun kp ch cd col loads z => ⟨b, col, loads, z, ?_⟩⟩
    · unfold f_X7_execute
      rw [gin_t (vp_in_nI (by omega) (by decide)), nI_clamp (by omega), wkb1_t hC, gok_t' (by decide), wkb1_t (show f_Jx29ce0_ordinal_8abf5 1 = some (sOrd 1) from rfl), gin_t (show vp_in (sOrd 1) 8 by unfold vp_in; decide), if_neg (show ¬ sSw (sOrd 1).toNatClampNeg = (1 : Int32) by decide), if_pos (show sSw (sOrd 1).toNatClampNeg = (2 : Int32) by decide), wkb1_t (show f_X7_argument Sa (nI j) 0 = _ from q_arg 0 hj (by decide)), a0, wkb1_t (show f_X7_argument Sa (nI j) 1 = _ from q_arg 1 hj (by decide)), a1, wkb1_t (show f_X7_argument Sa (nI j) 2 = _ from q_arg 2 hj (by decide)), a2, wkb6_t k1]
    · rw [hcar, wkb5_t ((k3 kp ch 1 cd).trans (by rw [kg1]; rfl))]
theorem x_2 {Bd j : Nat} {Tc Ba Be ni ne sh fa : Int32} {W S Hh C F B Bo D Cr A g t Sa : Nat → Int32} {Cm : Nat → Option Nat} (R : RCt Bd (Tc, W, S, Hh, C, F, Ba, B, Bo, Be, D, Cr, A, ni, ne, sh, fa) g) (hB : Bd + 19998 < 2 ^ 30) (hj : j < 12) {x0 x1 : Int32} (hC : Cm j = some 2) (hT : t (5 * j) = nI 2) (a0 : Sa (4 * j + 0) = x0) (m0 : t (5 * j + 1 + 0) = x0) (a1 : Sa (4 * j + 1) = x1) (m1 : t (5 * j + 1 + 1) = x1) : stepG Cm Sa t j Bd (Tc, W, S, Hh, C, F, Ba, B, Bo, Be, D, Cr, A, ni, ne, sh, fa) g := by
  obtain ⟨n, e, R0⟩ := id R
  obtain ⟨r, h1, h2, h3⟩ := s_pay R0 hB x0 x1
  unfold stepG
  have i0 : vp_in (nI (5 * j)) 155 := vp_in_nI (by omega) (by decide)
  have i1 : vp_in (nI (5 * j + 1)) 155 := vp_in_nI (by omega) (by decide)
  have e1 : nI (5 * j) + 1 = nI (5 * j + 1) := by rw [show (1 : Int32) = nI 1 from rfl, nI_add]
  have i2 : vp_in (nI (5 * j + 2)) 155 := vp_in_nI (by omega) (by decide)
  have e2 : nI (5 * j) + 2 = nI (5 * j + 2) := by rw [show (2 : Int32) = nI 2 from rfl, nI_add]
  have i3 : vp_in (nI (5 * j + 3)) 155 := vp_in_nI (by omega) (by decide)
  have e3 : nI (5 * j) + 3 = nI (5 * j + 3) := by rw [show (3 : Int32) = nI 3 from rfl, nI_add]
  have i4 : vp_in (nI (5 * j + 4)) 155 := vp_in_nI (by omega) (by decide)
  have e4 : nI (5 * j) + 4 = nI (5 * j + 4) := by rw [show (4 : Int32) = nI 4 from rfl, nI_add]
  have hcar : ∀ kp ch cd col loads z, f_X11_carries g kp ch 1 cd col loads z t (nI (5 * j)) = wkb5 (f_X11_payOut g kp ch 1 cd  x0 x1) (fun r7 w8 w9 w10 w11 => some (r7, w8, w9, w10, w11, col, loads, z)) := fun kp ch cd col loads z => by
    unfold f_X11_carries
    rw [e1, e2, gin_t i1, gin_t i2, gin_t i0, nI_clamp (show 5 * j < 2 ^ 31 by omega), hT, if_neg (show ¬ nI 2 = (0 : Int32) by decide), if_neg (show ¬ nI 2 = (1 : Int32) by decide), if_pos (show nI 2 = (2 : Int32) from rfl), nI_clamp (show 5 * j + 1 < 2 ^ 31 by omega), nI_clamp (show 5 * j + 2 < 2 ^ 31 by omega), show t (5 * j + 1) = x0 from m0, show t (5 * j + 2) = x1 from m1]
  refine ⟨r, ?_, h2, ?_⟩
  · unfold f_X7_refusalOf
    rw [gin_t (vp_in_nI (by omega) (by decide)), nI_clamp (by omega), wkb1_t hC, gok_t' (by decide), wkb1_t (show f_Jx29ce0_ordinal_8abf5 2 = some (sOrd 2) from rfl), gin_t (show vp_in (sOrd 2) 8 by unfold vp_in; decide), if_neg (show ¬ sSw (sOrd 2).toNatClampNeg = (1 : Int32) by decide), if_neg (show ¬ sSw (sOrd 2).toNatClampNeg = (2 : Int32) by decide), if_pos (show sSw (sOrd 2).toNatClampNeg = (3 : Int32) by decide), wkb1_t (show f_X7_argument Sa (nI j) 0 = _ from q_arg 0 hj (by decide)), a0, wkb1_t (show f_X7_argument Sa (nI j) 1 = _ from q_arg 1 hj (by decide)), a1, wkb1_t h1]
  rcases h3 with ⟨y, hy, hm⟩ | ⟨rfl, b, B', D', C', A', g', k1, k2, k3⟩
  · exact Or.inl ⟨ym_pos hy (by decide), fun kp ch cd col loads z => ⟨y, col, loads, z, (ym_y hy (by decide)).1, (ym_y hy (by decide)).2, by rw [hcar, wkb5_t (hm kp ch 1 cd)]⟩⟩
  · refine Or.inr ⟨rfl, (Tc, W, S, Hh, C, F, Ba, B', Bo, nI (e + 1), D', C', A', ni, ne, sh, fa), g', ?_, ⟨_, _, k2⟩, fun kp ch cd col loads z => ⟨b, col, loads, z, ?_⟩⟩
    · unfold f_X7_execute
      rw [gin_t (vp_in_nI (by omega) (by decide)), nI_clamp (by omega), wkb1_t hC, gok_t' (by decide), wkb1_t (show f_Jx29ce0_ordinal_8abf5 2 = some (sOrd 2) from rfl), gin_t (show vp_in (sOrd 2) 8 by unfold vp_in; decide), if_neg (show ¬ sSw (sOrd 2).toNatClampNeg = (1 : Int32) by decide), if_neg (show ¬ sSw (sOrd 2).toNatClampNeg = (2 : Int32) by decide), if_pos (show sSw (sOrd 2).toNatClampNeg = (3 : Int32) by decide), wkb1_t (show f_X7_argument Sa (nI j) 0 = _ from q_arg 0 hj (by decide)), a0, wkb1_t (show f_X7_argument Sa (nI j) 1 = _ from q_arg 1 hj (by decide)), a1, wkb6_t k1]
    · rw [hcar, wkb5_t ((k3 kp ch 1 cd).trans (by rw [kg1]; rfl))]
theorem x_3 {Bd j : Nat} {Tc Ba Be ni ne sh fa : Int32} {W S Hh C F B Bo D Cr A g t Sa : Nat → Int32} {Cm : Nat → Option Nat} (R : RCt Bd (Tc, W, S, Hh, C, F, Ba, B, Bo, Be, D, Cr, A, ni, ne, sh, fa) g) (hB : Bd + 19998 < 2 ^ 30) (hj : j < 12) {x0 : Int32} (hC : Cm j = some 3) (hT : t (5 * j) = nI 3) (a0 : Sa (4 * j + 0) = x0) (m0 : t (5 * j + 1 + 0) = x0) : stepG Cm Sa t j Bd (Tc, W, S, Hh, C, F, Ba, B, Bo, Be, D, Cr, A, ni, ne, sh, fa) g := by
  obtain ⟨n, e, R0⟩ := id R
  obtain ⟨r, h1, h2, h3⟩ := s_show R0 hB x0
  unfold stepG
  have i0 : vp_in (nI (5 * j)) 155 := vp_in_nI (by omega) (by decide)
  have i1 : vp_in (nI (5 * j + 1)) 155 := vp_in_nI (by omega) (by decide)
  have e1 : nI (5 * j) + 1 = nI (5 * j + 1) := by rw [show (1 : Int32) = nI 1 from rfl, nI_add]
  have i2 : vp_in (nI (5 * j + 2)) 155 := vp_in_nI (by omega) (by decide)
  have e2 : nI (5 * j) + 2 = nI (5 * j + 2) := by rw [show (2 : Int32) = nI 2 from rfl, nI_add]
  have i3 : vp_in (nI (5 * j + 3)) 155 := vp_in_nI (by omega) (by decide)
  have e3 : nI (5 * j) + 3 = nI (5 * j + 3) := by rw [show (3 : Int32) = nI 3 from rfl, nI_add]
  have i4 : vp_in (nI (5 * j + 4)) 155 := vp_in_nI (by omega) (by decide)
  have e4 : nI (5 * j) + 4 = nI (5 * j + 4) := by rw [show (4 : Int32) = nI 4 from rfl, nI_add]
  have hcar : ∀ kp ch cd col loads z, f_X11_carries g kp ch 1 cd col loads z t (nI (5 * j)) = wkb8 (f_X11_show g kp ch 1 cd col loads z x0) (fun r29 w30 w31 w32 w33 w34 w35 w36 => some (r29, w30, w31, w32, w33, w34, w35, w36)) := fun kp ch cd col loads z => by
    unfold f_X11_carries
    rw [e1, e2, gin_t i1, gin_t i2, gin_t i0, nI_clamp (show 5 * j < 2 ^ 31 by omega), hT, if_neg (show ¬ nI 3 = (0 : Int32) by decide), if_neg (show ¬ nI 3 = (1 : Int32) by decide), if_neg (show ¬ nI 3 = (2 : Int32) by decide), if_pos (show nI 3 = (3 : Int32) from rfl), nI_clamp (show 5 * j + 1 < 2 ^ 31 by omega), show t (5 * j + 1) = x0 from m0]
  refine ⟨r, ?_, h2, ?_⟩
  · unfold f_X7_refusalOf
    rw [gin_t (vp_in_nI (by omega) (by decide)), nI_clamp (by omega), wkb1_t hC, gok_t' (by decide), wkb1_t (show f_Jx29ce0_ordinal_8abf5 3 = some (sOrd 3) from rfl), gin_t (show vp_in (sOrd 3) 8 by unfold vp_in; decide), if_neg (show ¬ sSw (sOrd 3).toNatClampNeg = (1 : Int32) by decide), if_neg (show ¬ sSw (sOrd 3).toNatClampNeg = (2 : Int32) by decide), if_neg (show ¬ sSw (sOrd 3).toNatClampNeg = (3 : Int32) by decide), if_pos (show sSw (sOrd 3).toNatClampNeg = (4 : Int32) by decide), wkb1_t (show f_X7_argument Sa (nI j) 0 = _ from q_arg 0 hj (by decide)), a0, wkb1_t h1]
  rcases h3 with ⟨y, hy, hm⟩ | ⟨rfl, b, e', F', B', D', C', A', ni', sh', fa', g', k1, k2, k3⟩
  · refine Or.inl ⟨ym_pos hy (by decide), fun kp ch cd col loads z => ?_⟩
    obtain ⟨c1, l1, z1, hm⟩ := hm kp ch 1 cd col loads z
    exact ⟨y, c1, l1, z1, (ym_y hy (by decide)).1, (ym_y hy (by decide)).2, by rw [hcar, wkb8_t hm]⟩
  · refine Or.inr ⟨rfl, (Tc, W, S, Hh, C, F', Ba, B', Bo, nI e', D', C', A', ni', ne, sh', fa'), g', ?_, ⟨_, _, k2⟩, fun kp ch cd col loads z => ?_⟩
    · unfold f_X7_execute
      rw [gin_t (vp_in_nI (by omega) (by decide)), nI_clamp (by omega), wkb1_t hC, gok_t' (by decide), wkb1_t (show f_Jx29ce0_ordinal_8abf5 3 = some (sOrd 3) from rfl), gin_t (show vp_in (sOrd 3) 8 by unfold vp_in; decide), if_neg (show ¬ sSw (sOrd 3).toNatClampNeg = (1 : Int32) by decide), if_neg (show ¬ sSw (sOrd 3).toNatClampNeg = (2 : Int32) by decide), if_neg (show ¬ sSw (sOrd 3).toNatClampNeg = (3 : Int32) by decide), if_pos (show sSw (sOrd 3).toNatClampNeg = (4 : Int32) by decide), wkb1_t (show f_X7_argument Sa (nI j) 0 = _ from q_arg 0 hj (by decide)), a0, wkb10_t k1]
    · obtain ⟨c1, l1, z1, k3⟩ := k3 kp ch 1 cd col loads z
      exact ⟨b, c1, l1, z1, by rw [hcar, wkb8_t (k3.trans (by rw [kg1]; rfl))]⟩
theorem x_4 {Bd j : Nat} {Tc Ba Be ni ne sh fa : Int32} {W S Hh C F B Bo D Cr A g t Sa : Nat → Int32} {Cm : Nat → Option Nat} (R : RCt Bd (Tc, W, S, Hh, C, F, Ba, B, Bo, Be, D, Cr, A, ni, ne, sh, fa) g) (hB : Bd + 19998 < 2 ^ 30) (hj : j < 12) {x0 : Int32} (hC : Cm j = some 4) (hT : t (5 * j) = nI 4) (a0 : Sa (4 * j + 0) = x0) (m0 : t (5 * j + 1 + 0) = x0) : stepG Cm Sa t j Bd (Tc, W, S, Hh, C, F, Ba, B, Bo, Be, D, Cr, A, ni, ne, sh, fa) g := by
  obtain ⟨n, e, R0⟩ := id R
  obtain ⟨r, h1, h2, h3⟩ := s_net R0 x0
  unfold stepG
  have i0 : vp_in (nI (5 * j)) 155 := vp_in_nI (by omega) (by decide)
  have i1 : vp_in (nI (5 * j + 1)) 155 := vp_in_nI (by omega) (by decide)
  have e1 : nI (5 * j) + 1 = nI (5 * j + 1) := by rw [show (1 : Int32) = nI 1 from rfl, nI_add]
  have i2 : vp_in (nI (5 * j + 2)) 155 := vp_in_nI (by omega) (by decide)
  have e2 : nI (5 * j) + 2 = nI (5 * j + 2) := by rw [show (2 : Int32) = nI 2 from rfl, nI_add]
  have i3 : vp_in (nI (5 * j + 3)) 155 := vp_in_nI (by omega) (by decide)
  have e3 : nI (5 * j) + 3 = nI (5 * j + 3) := by rw [show (3 : Int32) = nI 3 from rfl, nI_add]
  have i4 : vp_in (nI (5 * j + 4)) 155 := vp_in_nI (by omega) (by decide)
  have e4 : nI (5 * j) + 4 = nI (5 * j + 4) := by rw [show (4 : Int32) = nI 4 from rfl, nI_add]
  have hcar : ∀ kp ch cd col loads z, f_X11_carries g kp ch 1 cd col loads z t (nI (5 * j)) = wkb5 (f_X11_setNet g kp ch 1 cd  x0) (fun r7 w8 w9 w10 w11 => some (r7, w8, w9, w10, w11, col, loads, z)) := fun kp ch cd col loads z => by
    unfold f_X11_carries
    rw [e1, e2, gin_t i1, gin_t i2, gin_t i0, nI_clamp (show 5 * j < 2 ^ 31 by omega), hT, if_neg (show ¬ nI 4 = (0 : Int32) by decide), if_neg (show ¬ nI 4 = (1 : Int32) by decide), if_neg (show ¬ nI 4 = (2 : Int32) by decide), if_neg (show ¬ nI 4 = (3 : Int32) by decide), if_pos (show nI 4 = (4 : Int32) from rfl), nI_clamp (show 5 * j + 1 < 2 ^ 31 by omega), show t (5 * j + 1) = x0 from m0]
  refine ⟨r, ?_, h2, ?_⟩
  · unfold f_X7_refusalOf
    rw [gin_t (vp_in_nI (by omega) (by decide)), nI_clamp (by omega), wkb1_t hC, gok_t' (by decide), wkb1_t (show f_Jx29ce0_ordinal_8abf5 4 = some (sOrd 4) from rfl), gin_t (show vp_in (sOrd 4) 8 by unfold vp_in; decide), if_neg (show ¬ sSw (sOrd 4).toNatClampNeg = (1 : Int32) by decide), if_neg (show ¬ sSw (sOrd 4).toNatClampNeg = (2 : Int32) by decide), if_neg (show ¬ sSw (sOrd 4).toNatClampNeg = (3 : Int32) by decide), if_neg (show ¬ sSw (sOrd 4).toNatClampNeg = (4 : Int32) by decide), if_pos (show sSw (sOrd 4).toNatClampNeg = (5 : Int32) by decide), wkb1_t (show f_X7_argument Sa (nI j) 0 = _ from q_arg 0 hj (by decide)), a0, wkb1_t h1]
  rcases h3 with ⟨y, hy, hm⟩ | ⟨rfl, b, ne', g', k1, k2, k3⟩
  · exact Or.inl ⟨ym_pos hy (by decide), fun kp ch cd col loads z => ⟨y, col, loads, z, (ym_y hy (by decide)).1, (ym_y hy (by decide)).2, by rw [hcar, wkb5_t (hm kp ch 1 cd)]⟩⟩
  · refine Or.inr ⟨rfl, (Tc, W, S, Hh, C, F, Ba, B, Bo, Be, D, Cr, A, ni, ne', sh, fa), g', ?_, ⟨_, _, RC_mono (by omega) hB k2⟩, fun kp ch cd col loads z => ⟨b, col, loads, z, ?_⟩⟩
    · unfold f_X7_execute
      rw [gin_t (vp_in_nI (by omega) (by decide)), nI_clamp (by omega), wkb1_t hC, gok_t' (by decide), wkb1_t (show f_Jx29ce0_ordinal_8abf5 4 = some (sOrd 4) from rfl), gin_t (show vp_in (sOrd 4) 8 by unfold vp_in; decide), if_neg (show ¬ sSw (sOrd 4).toNatClampNeg = (1 : Int32) by decide), if_neg (show ¬ sSw (sOrd 4).toNatClampNeg = (2 : Int32) by decide), if_neg (show ¬ sSw (sOrd 4).toNatClampNeg = (3 : Int32) by decide), if_neg (show ¬ sSw (sOrd 4).toNatClampNeg = (4 : Int32) by decide), if_pos (show sSw (sOrd 4).toNatClampNeg = (5 : Int32) by decide), wkb1_t (show f_X7_argument Sa (nI j) 0 = _ from q_arg 0 hj (by decide)), a0, wkb2_t k1]
    · rw [hcar, wkb5_t ((k3 kp ch 1 cd).trans (by rw [kg1]; rfl))]
theorem x_5 {Bd j : Nat} {Tc Ba Be ni ne sh fa : Int32} {W S Hh C F B Bo D Cr A g t Sa : Nat → Int32} {Cm : Nat → Option Nat} (R : RCt Bd (Tc, W, S, Hh, C, F, Ba, B, Bo, Be, D, Cr, A, ni, ne, sh, fa) g) (hB : Bd + 19998 < 2 ^ 30) (hj : j < 12) {x0 : Int32} (hC : Cm j = some 5) (hT : t (5 * j) = nI 5) (a0 : Sa (4 * j + 0) = x0) (m0 : t (5 * j + 1 + 0) = x0) : stepG Cm Sa t j Bd (Tc, W, S, Hh, C, F, Ba, B, Bo, Be, D, Cr, A, ni, ne, sh, fa) g := by
  obtain ⟨n, e, R0⟩ := id R
  obtain ⟨r, h1, h2, h3⟩ := s_wait R0 x0
  unfold stepG
  have i0 : vp_in (nI (5 * j)) 155 := vp_in_nI (by omega) (by decide)
  have i1 : vp_in (nI (5 * j + 1)) 155 := vp_in_nI (by omega) (by decide)
  have e1 : nI (5 * j) + 1 = nI (5 * j + 1) := by rw [show (1 : Int32) = nI 1 from rfl, nI_add]
  have i2 : vp_in (nI (5 * j + 2)) 155 := vp_in_nI (by omega) (by decide)
  have e2 : nI (5 * j) + 2 = nI (5 * j + 2) := by rw [show (2 : Int32) = nI 2 from rfl, nI_add]
  have i3 : vp_in (nI (5 * j + 3)) 155 := vp_in_nI (by omega) (by decide)
  have e3 : nI (5 * j) + 3 = nI (5 * j + 3) := by rw [show (3 : Int32) = nI 3 from rfl, nI_add]
  have i4 : vp_in (nI (5 * j + 4)) 155 := vp_in_nI (by omega) (by decide)
  have e4 : nI (5 * j) + 4 = nI (5 * j + 4) := by rw [show (4 : Int32) = nI 4 from rfl, nI_add]
  have hcar : ∀ kp ch cd col loads z, f_X11_carries g kp ch 1 cd col loads z t (nI (5 * j)) = wkb5 (f_X11_passNights g kp ch 1 cd  x0) (fun r7 w8 w9 w10 w11 => some (r7, w8, w9, w10, w11, col, loads, z)) := fun kp ch cd col loads z => by
    unfold f_X11_carries
    rw [e1, e2, gin_t i1, gin_t i2, gin_t i0, nI_clamp (show 5 * j < 2 ^ 31 by omega), hT, if_neg (show ¬ nI 5 = (0 : Int32) by decide), if_neg (show ¬ nI 5 = (1 : Int32) by decide), if_neg (show ¬ nI 5 = (2 : Int32) by decide), if_neg (show ¬ nI 5 = (3 : Int32) by decide), if_neg (show ¬ nI 5 = (4 : Int32) by decide), if_pos (show nI 5 = (5 : Int32) from rfl), nI_clamp (show 5 * j + 1 < 2 ^ 31 by omega), show t (5 * j + 1) = x0 from m0]
  refine ⟨r, ?_, h2, ?_⟩
  · unfold f_X7_refusalOf
    rw [gin_t (vp_in_nI (by omega) (by decide)), nI_clamp (by omega), wkb1_t hC, gok_t' (by decide), wkb1_t (show f_Jx29ce0_ordinal_8abf5 5 = some (sOrd 5) from rfl), gin_t (show vp_in (sOrd 5) 8 by unfold vp_in; decide), if_neg (show ¬ sSw (sOrd 5).toNatClampNeg = (1 : Int32) by decide), if_neg (show ¬ sSw (sOrd 5).toNatClampNeg = (2 : Int32) by decide), if_neg (show ¬ sSw (sOrd 5).toNatClampNeg = (3 : Int32) by decide), if_neg (show ¬ sSw (sOrd 5).toNatClampNeg = (4 : Int32) by decide), if_neg (show ¬ sSw (sOrd 5).toNatClampNeg = (5 : Int32) by decide), if_pos (show sSw (sOrd 5).toNatClampNeg = (6 : Int32) by decide), wkb1_t (show f_X7_argument Sa (nI j) 0 = _ from q_arg 0 hj (by decide)), a0, wkb1_t h1]
  rcases h3 with ⟨y, hy, hm⟩ | ⟨rfl, b, F', ni', g', k1, k2, k3⟩
  · exact Or.inl ⟨ym_pos hy (by decide), fun kp ch cd col loads z => ⟨y, col, loads, z, (ym_y hy (by decide)).1, (ym_y hy (by decide)).2, by rw [hcar, wkb5_t (hm kp ch 1 cd)]⟩⟩
  · refine Or.inr ⟨rfl, (Tc, W, S, Hh, C, F', Ba, B, Bo, Be, D, Cr, A, ni', ne, sh, fa), g', ?_, ⟨_, _, RC_mono (by omega) hB k2⟩, fun kp ch cd col loads z => ⟨b, col, loads, z, ?_⟩⟩
    · unfold f_X7_execute
      rw [gin_t (vp_in_nI (by omega) (by decide)), nI_clamp (by omega), wkb1_t hC, gok_t' (by decide), wkb1_t (show f_Jx29ce0_ordinal_8abf5 5 = some (sOrd 5) from rfl), gin_t (show vp_in (sOrd 5) 8 by unfold vp_in; decide), if_neg (show ¬ sSw (sOrd 5).toNatClampNeg = (1 : Int32) by decide), if_neg (show ¬ sSw (sOrd 5).toNatClampNeg = (2 : Int32) by decide), if_neg (show ¬ sSw (sOrd 5).toNatClampNeg = (3 : Int32) by decide), if_neg (show ¬ sSw (sOrd 5).toNatClampNeg = (4 : Int32) by decide), if_neg (show ¬ sSw (sOrd 5).toNatClampNeg = (5 : Int32) by decide), if_pos (show sSw (sOrd 5).toNatClampNeg = (6 : Int32) by decide), wkb1_t (show f_X7_argument Sa (nI j) 0 = _ from q_arg 0 hj (by decide)), a0, wkb3_t k1]
    · rw [hcar, wkb5_t ((k3 kp ch 1 cd).trans (by rw [kg1]; rfl))]
theorem x_7 {Bd j : Nat} {Tc Ba Be ni ne sh fa : Int32} {W S Hh C F B Bo D Cr A g t Sa : Nat → Int32} {Cm : Nat → Option Nat} (R : RCt Bd (Tc, W, S, Hh, C, F, Ba, B, Bo, Be, D, Cr, A, ni, ne, sh, fa) g) (hB : Bd + 19998 < 2 ^ 30) (hj : j < 12) {x0 x1 : Int32} (hC : Cm j = some 7) (hT : t (5 * j) = nI 7) (a0 : Sa (4 * j + 0) = x0) (m0 : t (5 * j + 1 + 0) = x0) (a1 : Sa (4 * j + 1) = x1) (m1 : t (5 * j + 1 + 1) = x1) : stepG Cm Sa t j Bd (Tc, W, S, Hh, C, F, Ba, B, Bo, Be, D, Cr, A, ni, ne, sh, fa) g := by
  obtain ⟨n, e, R0⟩ := id R
  obtain ⟨r, h1, h2, h3⟩ := s_cancel R0 x0 x1
  unfold stepG
  have i0 : vp_in (nI (5 * j)) 155 := vp_in_nI (by omega) (by decide)
  have i1 : vp_in (nI (5 * j + 1)) 155 := vp_in_nI (by omega) (by decide)
  have e1 : nI (5 * j) + 1 = nI (5 * j + 1) := by rw [show (1 : Int32) = nI 1 from rfl, nI_add]
  have i2 : vp_in (nI (5 * j + 2)) 155 := vp_in_nI (by omega) (by decide)
  have e2 : nI (5 * j) + 2 = nI (5 * j + 2) := by rw [show (2 : Int32) = nI 2 from rfl, nI_add]
  have i3 : vp_in (nI (5 * j + 3)) 155 := vp_in_nI (by omega) (by decide)
  have e3 : nI (5 * j) + 3 = nI (5 * j + 3) := by rw [show (3 : Int32) = nI 3 from rfl, nI_add]
  have i4 : vp_in (nI (5 * j + 4)) 155 := vp_in_nI (by omega) (by decide)
  have e4 : nI (5 * j) + 4 = nI (5 * j + 4) := by rw [show (4 : Int32) = nI 4 from rfl, nI_add]
  have hcar : ∀ kp ch cd col loads z, f_X11_carries g kp ch 1 cd col loads z t (nI (5 * j)) = wkb5 (f_X11_cancel g kp ch 1 cd  x0 x1) (fun r7 w8 w9 w10 w11 => some (r7, w8, w9, w10, w11, col, loads, z)) := fun kp ch cd col loads z => by
    unfold f_X11_carries
    rw [e1, e2, gin_t i1, gin_t i2, gin_t i0, nI_clamp (show 5 * j < 2 ^ 31 by omega), hT, if_neg (show ¬ nI 7 = (0 : Int32) by decide), if_neg (show ¬ nI 7 = (1 : Int32) by decide), if_neg (show ¬ nI 7 = (2 : Int32) by decide), if_neg (show ¬ nI 7 = (3 : Int32) by decide), if_neg (show ¬ nI 7 = (4 : Int32) by decide), if_neg (show ¬ nI 7 = (5 : Int32) by decide), if_neg (show ¬ nI 7 = (6 : Int32) by decide), nI_clamp (show 5 * j + 1 < 2 ^ 31 by omega), nI_clamp (show 5 * j + 2 < 2 ^ 31 by omega), show t (5 * j + 1) = x0 from m0, show t (5 * j + 2) = x1 from m1]
  refine ⟨r, ?_, h2, ?_⟩
  · unfold f_X7_refusalOf
    rw [gin_t (vp_in_nI (by omega) (by decide)), nI_clamp (by omega), wkb1_t hC, gok_t' (by decide), wkb1_t (show f_Jx29ce0_ordinal_8abf5 7 = some (sOrd 7) from rfl), gin_t (show vp_in (sOrd 7) 8 by unfold vp_in; decide), if_neg (show ¬ sSw (sOrd 7).toNatClampNeg = (1 : Int32) by decide), if_neg (show ¬ sSw (sOrd 7).toNatClampNeg = (2 : Int32) by decide), if_neg (show ¬ sSw (sOrd 7).toNatClampNeg = (3 : Int32) by decide), if_neg (show ¬ sSw (sOrd 7).toNatClampNeg = (4 : Int32) by decide), if_neg (show ¬ sSw (sOrd 7).toNatClampNeg = (5 : Int32) by decide), if_neg (show ¬ sSw (sOrd 7).toNatClampNeg = (6 : Int32) by decide), if_pos (show sSw (sOrd 7).toNatClampNeg = (7 : Int32) by decide), wkb1_t (show f_X7_argument Sa (nI j) 0 = _ from q_arg 0 hj (by decide)), a0, wkb1_t (show f_X7_argument Sa (nI j) 1 = _ from q_arg 1 hj (by decide)), a1, wkb1_t h1]
  rcases h3 with ⟨y, hy, hm⟩ | ⟨rfl, b, B', D', C', A', g', k1, k2, k3⟩
  · exact Or.inl ⟨ym_pos hy (by decide), fun kp ch cd col loads z => ⟨y, col, loads, z, (ym_y hy (by decide)).1, (ym_y hy (by decide)).2, by rw [hcar, wkb5_t (hm kp ch 1 cd)]⟩⟩
  · refine Or.inr ⟨rfl, (Tc, W, S, Hh, C, F, Ba, B', Bo, nI (e + 1), D', C', A', ni, ne, sh, fa), g', ?_, ⟨_, _, RC_mono (by omega) hB k2⟩, fun kp ch cd col loads z => ⟨b, col, loads, z, ?_⟩⟩
    · unfold f_X7_execute
      rw [gin_t (vp_in_nI (by omega) (by decide)), nI_clamp (by omega), wkb1_t hC, gok_t' (by decide), wkb1_t (show f_Jx29ce0_ordinal_8abf5 7 = some (sOrd 7) from rfl), gin_t (show vp_in (sOrd 7) 8 by unfold vp_in; decide), if_neg (show ¬ sSw (sOrd 7).toNatClampNeg = (1 : Int32) by decide), if_neg (show ¬ sSw (sOrd 7).toNatClampNeg = (2 : Int32) by decide), if_neg (show ¬ sSw (sOrd 7).toNatClampNeg = (3 : Int32) by decide), if_neg (show ¬ sSw (sOrd 7).toNatClampNeg = (4 : Int32) by decide), if_neg (show ¬ sSw (sOrd 7).toNatClampNeg = (5 : Int32) by decide), if_neg (show ¬ sSw (sOrd 7).toNatClampNeg = (6 : Int32) by decide), if_pos (show sSw (sOrd 7).toNatClampNeg = (7 : Int32) by decide), wkb1_t (show f_X7_argument Sa (nI j) 0 = _ from q_arg 0 hj (by decide)), a0, wkb1_t (show f_X7_argument Sa (nI j) 1 = _ from q_arg 1 hj (by decide)), a1, wkb6_t k1]
    · rw [hcar, wkb5_t ((k3 kp ch 1 cd).trans (by rw [kg1]; rfl))]
theorem x_6 {Bd j : Nat} {Tc Ba Be ni ne sh fa : Int32} {W S Hh C F B Bo D Cr A g t Sa : Nat → Int32} {Cm : Nat → Option Nat} (R : RCt Bd (Tc, W, S, Hh, C, F, Ba, B, Bo, Be, D, Cr, A, ni, ne, sh, fa) g) (hB : Bd + 19998 < 2 ^ 30) (hj : j < 12) (hC : Cm j = some 6) (hT : t (5 * j) = nI 6)  : stepG Cm Sa t j Bd (Tc, W, S, Hh, C, F, Ba, B, Bo, Be, D, Cr, A, ni, ne, sh, fa) g := by
  obtain ⟨n, e, R0⟩ := id R
  obtain ⟨b, Bo', g', k1, k2, k3⟩ := s_close R0
  unfold stepG
  have i0 : vp_in (nI (5 * j)) 155 := vp_in_nI (by omega) (by decide)
  have i1 : vp_in (nI (5 * j + 1)) 155 := vp_in_nI (by omega) (by decide)
  have e1 : nI (5 * j) + 1 = nI (5 * j + 1) := by rw [show (1 : Int32) = nI 1 from rfl, nI_add]
  have i2 : vp_in (nI (5 * j + 2)) 155 := vp_in_nI (by omega) (by decide)
  have e2 : nI (5 * j) + 2 = nI (5 * j + 2) := by rw [show (2 : Int32) = nI 2 from rfl, nI_add]
  have i3 : vp_in (nI (5 * j + 3)) 155 := vp_in_nI (by omega) (by decide)
  have e3 : nI (5 * j) + 3 = nI (5 * j + 3) := by rw [show (3 : Int32) = nI 3 from rfl, nI_add]
  have i4 : vp_in (nI (5 * j + 4)) 155 := vp_in_nI (by omega) (by decide)
  have e4 : nI (5 * j) + 4 = nI (5 * j + 4) := by rw [show (4 : Int32) = nI 4 from rfl, nI_add]
  have hcar : ∀ kp ch cd col loads z, f_X11_carries g kp ch 1 cd col loads z t (nI (5 * j)) = wkb5 (f_X11_closeBooks g kp ch 1 cd  ) (fun r7 w8 w9 w10 w11 => some (r7, w8, w9, w10, w11, col, loads, z)) := fun kp ch cd col loads z => by
    unfold f_X11_carries
    rw [e1, e2, gin_t i1, gin_t i2, gin_t i0, nI_clamp (show 5 * j < 2 ^ 31 by omega), hT, if_neg (show ¬ nI 6 = (0 : Int32) by decide), if_neg (show ¬ nI 6 = (1 : Int32) by decide), if_neg (show ¬ nI 6 = (2 : Int32) by decide), if_neg (show ¬ nI 6 = (3 : Int32) by decide), if_neg (show ¬ nI 6 = (4 : Int32) by decide), if_neg (show ¬ nI 6 = (5 : Int32) by decide), if_pos (show nI 6 = (6 : Int32) from rfl)]
  refine ⟨0, ?_, by decide, Or.inr ⟨rfl, (Tc, W, S, Hh, C, F, Ba, B, Bo', 0, D, Cr, A, ni, ne, sh, fa), g', ?_, ⟨_, _, RC_mono (by omega) hB k2⟩, fun kp ch cd col loads z => ⟨b, col, loads, z, ?_⟩⟩⟩
  · unfold f_X7_refusalOf
    rw [gin_t (vp_in_nI (by omega) (by decide)), nI_clamp (by omega), wkb1_t hC, gok_t' (by decide), wkb1_t (show f_Jx29ce0_ordinal_8abf5 6 = some (sOrd 6) from rfl), gin_t (show vp_in (sOrd 6) 8 by unfold vp_in; decide), if_neg (show ¬ sSw (sOrd 6).toNatClampNeg = (1 : Int32) by decide), if_neg (show ¬ sSw (sOrd 6).toNatClampNeg = (2 : Int32) by decide), if_neg (show ¬ sSw (sOrd 6).toNatClampNeg = (3 : Int32) by decide), if_neg (show ¬ sSw (sOrd 6).toNatClampNeg = (4 : Int32) by decide), if_neg (show ¬ sSw (sOrd 6).toNatClampNeg = (5 : Int32) by decide), if_neg (show ¬ sSw (sOrd 6).toNatClampNeg = (6 : Int32) by decide), if_neg (show ¬ sSw (sOrd 6).toNatClampNeg = (7 : Int32) by decide)]
  · unfold f_X7_execute
    rw [gin_t (vp_in_nI (by omega) (by decide)), nI_clamp (by omega), wkb1_t hC, gok_t' (by decide), wkb1_t (show f_Jx29ce0_ordinal_8abf5 6 = some (sOrd 6) from rfl), gin_t (show vp_in (sOrd 6) 8 by unfold vp_in; decide), if_neg (show ¬ sSw (sOrd 6).toNatClampNeg = (1 : Int32) by decide), if_neg (show ¬ sSw (sOrd 6).toNatClampNeg = (2 : Int32) by decide), if_neg (show ¬ sSw (sOrd 6).toNatClampNeg = (3 : Int32) by decide), if_neg (show ¬ sSw (sOrd 6).toNatClampNeg = (4 : Int32) by decide), if_neg (show ¬ sSw (sOrd 6).toNatClampNeg = (5 : Int32) by decide), if_neg (show ¬ sSw (sOrd 6).toNatClampNeg = (6 : Int32) by decide), if_neg (show ¬ sSw (sOrd 6).toNatClampNeg = (7 : Int32) by decide), if_pos (show sSw (sOrd 6).toNatClampNeg = (8 : Int32) by decide), wkb3_t k1]
  · rw [hcar, wkb5_t ((k3 kp ch 1 cd).trans (by rw [kg1]; rfl))]
