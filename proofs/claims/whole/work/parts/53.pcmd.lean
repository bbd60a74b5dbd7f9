/-! PURE LAYER: one command of a script -/
/-- the forms one after another, from the k-th on; x: how far any came -/
def cls (f : Nat → Nat) (p : Nat) : Nat → Nat → Nat → Option (Nat × Nat × List Nat) × Nat
  | 0, _, x => (none, x)
  | d + 1, k, x => if (fm f (form k) p []).1 = true then (some (k, (fm f (form k) p []).2.1, (fm f (form k) p []).2.2), x) else cls f p d (k + 1) (max x (fm f (form k) p []).2.1)
/-- what the class knows after the commands so far -/
def CR (c : Nat) (Cm : Nat → Option Nat) (A : Nat → Int32) (ks : List (Nat × List Nat)) : Prop := ks.length = c ∧ ∀ j, j < c → ∃ k vs, ks[j]? = some (k, vs) ∧ k < 8 ∧ Cm j = some k ∧ ∀ i, i < vs.length → i < 4 → A (4 * j + i) = nI (vs.getD i 0)
theorem nI_max (a b : Nat) (ha : a < 2 ^ 30) (hb : b < 2 ^ 30) : (if nI a < nI b then nI b else nI a) = nI (max a b) := by
  by_cases h : a < b
  · rw [if_pos (nI_lt h (by omega)), Nat.max_eq_right (by omega)]
  · rw [if_neg (Int32.not_lt.mpr (nI_le (by omega) (by omega))), Nat.max_eq_left (by omega)]
theorem fm_le (f : Nat → Nat) : ∀ (l : List Nat) p vs, p ≤ (fm f l p vs).2.1 ∧ (fm f l p vs).2.1 ≤ p + 10 * l.length := by
  intro l
  induction l with
  | nil => intro p vs; exact ⟨Nat.le_refl _, Nat.le_refl _⟩
  | cons c l ih =>
    intro p vs
    have h := pt_le f c p vs
    rw [fm, List.length_cons]
    split
    · have := ih (pt f c p vs).2.1 (pt f c p vs).2.2
      omega
    · show p ≤ (pt f c p vs).2.1 ∧ (pt f c p vs).2.1 ≤ _
      omega
theorem CR_keep {c : Nat} {Cm : Nat → Option Nat} {A A' : Nat → Int32} {ks : List (Nat × List Nat)} (h : ∀ j, j < 4 * c → A' j = A j) (R : CR c Cm A ks) : CR c Cm A' ks := by
  refine ⟨R.1, fun j hj => ?_⟩
  obtain ⟨k, vs, h1, h2, h3, h4⟩ := R.2 j hj
  exact ⟨k, vs, h1, h2, h3, fun i hi h4' => (h _ (by omega)).trans (h4 i hi h4')⟩
theorem q_cmd {Zm L c : Nat} {Zf tx : Nat → Int32} {Cm : Nat → Option Nat} {A : Nat → Int32} {ks : List (Nat × List Nat)} (X : XT Zm L Zf tx) (T : TX L tx) (hc : c < 12) (p0 : Nat) (h0 : p0 < 2 ^ 18) (R : CR c Cm A ks) (z : Int32) :
    ∃ A' z', (((cls (dv L tx) p0 8 0 p0).1 = none ∧ f_X7_readCommand Zm (nI L) Zf (nI p0) (nI c) Cm A z = some (0, nI (cls (dv L tx) p0 8 0 p0).2, nI c, Cm, A', z')) ∨
      ∃ k q vs Cm', (cls (dv L tx) p0 8 0 p0).1 = some (k, q, vs) ∧ k < 8 ∧ q < p0 + 151 ∧ f_X7_readCommand Zm (nI L) Zf (nI p0) (nI c) Cm A z = some (1, nI q, nI (c + 1), Cm', A', z') ∧ CR (c + 1) Cm' A' (ks ++ [(k, vs)])) := by
  have key : ∀ d k x (A : Nat → Int32) (z s : Int32) nn, k + d = 8 → d < nn → x < 2 ^ 20 → CR c Cm A ks → ∃ A' z', (((cls (dv L tx) p0 d k x).1 = none ∧ f_X7_readCommand_L18 Zm (nI L) Zf nn (nI p0) (nI x) 8 (nI k) s (nI c) Cm A z = some (0, nI (cls (dv L tx) p0 d k x).2, nI c, Cm, A', z')) ∨
      ∃ k' q vs Cm', (cls (dv L tx) p0 d k x).1 = some (k', q, vs) ∧ k' < 8 ∧ q < p0 + 151 ∧ f_X7_readCommand_L18 Zm (nI L) Zf nn (nI p0) (nI x) 8 (nI k) s (nI c) Cm A z = some (1, nI q, nI (c + 1), Cm', A', z') ∧ CR (c + 1) Cm' A' (ks ++ [(k', vs)])) := by
    intro d
    induction d with
    | zero =>
      intro k x A z s nn hk hn hx R
      obtain ⟨q, rfl⟩ : ∃ q, nn = q + 1 := ⟨nn - 1, by omega⟩
      obtain rfl : k = 8 := by omega
      refine ⟨A, z, Or.inl ⟨rfl, ?_⟩⟩
      rw [f_X7_readCommand_L18, if_pos (show (8 : Int32) ≤ nI 8 by decide)]
      rfl
    | succ d ih =>
      intro k x A z s nn hk hn hx R
      obtain ⟨q, rfl⟩ : ∃ q, nn = q + 1 := ⟨nn - 1, by omega⟩
      obtain ⟨A', a1, a2, a3⟩ := q_form X T hc (show k < 8 by omega) p0 h0 (A0 := A) (A := A) ⟨fun _ _ => rfl, fun i hi => absurd hi (by simp)⟩
      have hkl := R.1
      have hl := (form_len k (by omega)).2.1
      have hf := fm_le (dv L tx) (form k) p0 []
      rw [f_X7_readCommand_L18, if_neg (show ¬ (8 : Int32) ≤ nI k from nI_ge (b := 8) (by omega) (by decide)), gin_t (vp_in_nI (by omega) (by decide)), nI_clamp (by omega), gok_t' (by omega), wkb4_t a1, cls]
      cases hb : (fm (dv L tx) (form k) p0 []).1 with
      | false =>
        rw [ifb_f, if_neg (by decide), nI_max _ _ (by omega) (by omega), nI_1]
        exact ih (k + 1) _ A' _ _ q (by omega) (by omega) (by omega) (CR_keep a2 R)
      | true =>
        rw [ifb_t, if_pos rfl, gok_t' (by omega), gin_t (vp_in_nI (by omega) (by decide)), wkl_t, wkl_t, nI_clamp (by omega), nI_1]
        refine ⟨A', _, Or.inr ⟨k, _, _, va_up Cm c (some k), rfl, by omega, by omega, rfl, ?_, fun j hj => ?_⟩⟩
        · rw [List.length_append, R.1]
          rfl
        · by_cases e : j = c
          · subst e
            refine ⟨k, _, ?_, by omega, by rw [va_up_at, if_pos rfl], a3⟩
            rw [List.getElem?_append_right (by omega), R.1, Nat.sub_self]
            rfl
          · obtain ⟨k', vs, h1, h2, h3, h4⟩ := R.2 j (by omega)
            refine ⟨k', vs, ?_, h2, by rw [va_up_at, if_neg e]; exact h3, fun i hi h4' => ?_⟩
            · rw [List.getElem?_append_left (by omega)]
              exact h1
            · rw [a2 _ (by omega)]
              exact h4 i hi h4'
  exact key 8 0 p0 A z (nI p0) FU (by decide) (by decide) (by omega) R
/-! the reference's reader -/
theorem q_here {L p : Nat} {tx : Nat → Int32} (T : TX L tx) (hp : p < 2 ^ 30) : f_X11_here tx (nI L) (nI p) = some (if p < L then nI (dv L tx p) else -1) := by
  have hT := T.1
  unfold f_X11_here
  by_cases h : p < L
  · rw [if_neg (nI_ge h (by omega)), gin_t (vp_in_nI (by omega) (by decide)), nI_clamp (by omega), if_pos h, ← (dv_in T h).2.2]
  · rw [if_pos (nI_le (by omega) (by omega)), if_neg h]
theorem q_skips {L p c : Nat} {tx : Nat → Int32} (T : TX L tx) (hp : p < 2 ^ 30) (c1 : 0 < c) (c2 : c < 128) : f_X11_skips tx (nI L) (nI p) (nI c) = if dv L tx p = c then some (1, nI (p + 1)) else some (0, nI p) := by
  have hT := T.1
  unfold f_X11_skips
  rw [wkb1_t (q_here T hp)]
  by_cases h : p < L
  · obtain ⟨d1, d2, d3⟩ := dv_in T h
    rw [if_pos h]
    by_cases e : dv L tx p = c
    · rw [if_pos (by rw [e]), if_pos e, wkl_t, nI_1]
    · rw [if_neg (fun z => e ((nI_eq (by omega) (by omega)).mp z)), if_neg e]
  · rw [if_neg h, dv_out h, if_neg (fun z => oI_m1 (a := c) (by omega) z.symm), if_neg (by omega)]
theorem q_isdig {L p lo : Nat} {tx : Nat → Int32} (T : TX L tx) (hlo : 32 ≤ lo) (hl2 : lo ≤ 60) : f_X11_in (if p < L then nI (dv L tx p) else -1) (nI lo) 57 = some (if lo ≤ dv L tx p ∧ dv L tx p ≤ 57 then 1 else 0) := by
  have hT := T.1
  unfold f_X11_in
  by_cases h : p < L
  · obtain ⟨d1, d2, d3⟩ := dv_in T h
    rw [if_pos h]
    by_cases a1 : lo ≤ dv L tx p
    · rw [if_neg (Int32.not_lt.mpr (nI_le a1 (by omega)))]
      by_cases a2 : dv L tx p ≤ 57
      · rw [if_neg (show ¬ (57 : Int32) < nI (dv L tx p) from Int32.not_lt.mpr (nI_le (b := 57) a2 (by decide))), if_pos ⟨a1, a2⟩]
      · rw [if_pos (show (57 : Int32) < nI (dv L tx p) from nI_lt (a := 57) (by omega) (by omega)), if_neg (fun z => a2 z.2)]
    · rw [if_pos (nI_lt (by omega) (by omega)), if_neg (fun z => a1 z.1)]
  · have tl : (nI lo).toInt = lo := nI_toInt (by omega)
    rw [if_neg h, dv_out h, if_pos (by rw [Int32.lt_iff_toInt_lt, tl]; have : (-1 : Int32).toInt = -1 := rfl; omega), if_neg (by omega)]
theorem upd_upd {t : Nat → Int32} {x : Nat} {a b : Int32} : upd (upd t x a) x b = upd t x b := by
  funext j
  rw [up_at, up_at, up_at]
  split <;> rfl
theorem q_fig34 {L x : Nat} {tx : Nat → Int32} (T : TX L tx) (hx : x < 155) (sp mx : Nat) (hmx : mx ≤ 4) : ∀ j p v nn (t : Nat → Int32), j ≤ mx → p + j < 2 ^ 20 → j < nn → f_X11_figures_L34 tx (nI L) (nI sp) (nI x) (nI mx) nn (nI (mx - j)) (nI p) (upd t x (nI v)) = some (1, nI (nr (dv L tx) j p v).1, upd t x (nI (nr (dv L tx) j p v).2)) := by
  intro j
  induction j with
  | zero =>
    intro p v nn t h1 h2 h3
    obtain ⟨q, rfl⟩ : ∃ q, nn = q + 1 := ⟨nn - 1, by omega⟩
    rw [f_X11_figures_L34, if_pos (nI_le (by omega) (by omega))]
    rfl
  | succ j ih =>
    intro p v nn t h1 h2 h3
    obtain ⟨q, rfl⟩ : ∃ q, nn = q + 1 := ⟨nn - 1, by omega⟩
    have ix : vp_in (nI x) 155 := vp_in_nI (by omega) (by decide)
    rw [f_X11_figures_L34, if_neg (nI_ge (by omega) (by omega)), wkb1_t (q_here T (by omega)), wkb1_t (show f_X11_in _ 48 57 = _ from q_isdig (lo := 48) T (by decide) (by decide)), nr]
    by_cases h : 48 ≤ dv L tx p ∧ dv L tx p ≤ 57
    · have hpL : p < L := by
        rcases Nat.lt_or_ge p L with y | y
        · exact y
        · rw [dv_out (by omega)] at h
          omega
      rw [if_pos h, if_neg one_ne, gin_t ix, wkb1_t (q_here T (by omega)), if_pos hpL, gin_t ix, wkl_t, wkl_t, nI_clamp (by omega), pk_us, upd_upd, nI_1, nI_1, if_pos h, show (10 : Int32) = nI 10 from rfl, pk_mul, nI_add, show (48 : Int32) = nI 48 from rfl, pk_sub (by omega), show mx - (j + 1) + 1 = mx - j by omega, show 10 * v + dv L tx p - 48 = 10 * v + (dv L tx p - 48) by omega]
      exact ih (p + 1) _ q t (by omega) (by omega) (by omega)
    · rw [if_neg h, if_pos rfl, if_neg h]
/-- a separator and a number -/
theorem q_fig {L x p sp mx : Nat} {tx : Nat → Int32} (T : TX L tx) (hx : x < 155) (hmx : mx ≤ 4) (hp : p < 2 ^ 19) (s1 : 0 < sp) (s2 : sp < 128) (t : Nat → Int32) : f_X11_figures tx (nI L) (nI p) t (nI sp) (nI x) (nI mx) = if dv L tx p = sp then (if 48 ≤ dv L tx (p + 1) ∧ dv L tx (p + 1) ≤ 57 then some (1, nI (nr (dv L tx) mx (p + 1) 0).1, upd t x (nI (nr (dv L tx) mx (p + 1) 0).2)) else some (0, nI (p + 1), t)) else some (0, nI p, t) := by
  have hs := q_skips T (p := p) (by omega) s1 s2
  unfold f_X11_figures
  by_cases h : dv L tx p = sp
  · rw [if_pos h] at hs ⊢
    rw [wkb2_t hs, if_neg one_ne, wkb1_t (q_here T (by omega)), wkb1_t (show f_X11_in _ 48 57 = _ from q_isdig (lo := 48) T (by decide) (by decide))]
    by_cases g : 48 ≤ dv L tx (p + 1) ∧ dv L tx (p + 1) ≤ 57
    · rw [if_pos g, if_neg one_ne, gin_t (vp_in_nI (by omega) (by decide)), wkl_t, nI_clamp (by omega), if_pos g]
      have := q_fig34 T hx sp mx hmx mx (p + 1) 0 FU t (Nat.le_refl _) (by omega) (show mx < 5000 by omega)
      rw [Nat.sub_self] at this
      exact this
    · rw [if_neg g, if_pos rfl, if_neg g]
  · rw [if_neg h] at hs ⊢
    rw [wkb2_t hs, if_pos rfl]
theorem q_dig35 {L x : Nat} {tx : Nat → Int32} (T : TX L tx) (hx : x < 155) : ∀ j p m lo nn (t : Nat → Int32), 10 ≤ j + lo → lo ≤ 10 → p + j < 2 ^ 20 → j + 1 < nn → f_X11_digits_L35 tx (nI L) (nI x) nn (nI (47 + lo)) (nI p) (upd t x (nI m)) = some (1, nI (dr (dv L tx) j p m lo).1, upd t x (nI (dr (dv L tx) j p m lo).2)) := by
  intro j
  induction j with
  | zero =>
    intro p m lo nn t h1 h5 h2 h3
    obtain ⟨q, rfl⟩ : ∃ q, nn = q + 1 := ⟨nn - 1, by omega⟩
    rw [f_X11_digits_L35, wkb1_t (q_here T (by omega)), nI_1, wkb1_t (q_isdig (lo := 47 + lo + 1) T (by omega) (by omega)), if_neg (show ¬ (47 + lo + 1 ≤ dv L tx p ∧ dv L tx p ≤ 57) by omega), if_pos rfl]
    rfl
  | succ j ih =>
    intro p m lo nn t h1 h5 h2 h3
    obtain ⟨q, rfl⟩ : ∃ q, nn = q + 1 := ⟨nn - 1, by omega⟩
    have ix : vp_in (nI x) 155 := vp_in_nI (by omega) (by decide)
    rw [f_X11_digits_L35, wkb1_t (q_here T (by omega)), nI_1, wkb1_t (q_isdig (lo := 47 + lo + 1) T (by omega) (by omega)), dr]
    by_cases h : 47 + lo + 1 ≤ dv L tx p ∧ dv L tx p ≤ 57
    · have hpL : p < L := by
        rcases Nat.lt_or_ge p L with y | y
        · exact y
        · rw [dv_out (by omega)] at h
          omega
      rw [if_pos h, if_neg one_ne, wkb1_t (q_here T (by omega)), if_pos hpL, gin_t ix, wkl_t, gin_t ix, wkl_t, wkl_t, nI_clamp (by omega), pk_us, upd_upd, nI_1, show (48 : Int32) = nI 48 from rfl, pk_sub (by omega), shl1 (by omega), nI_or, if_pos (show 48 + lo ≤ dv L tx p ∧ dv L tx p ≤ 57 from ⟨by omega, h.2⟩)]
      have := ih (p + 1) (m ||| 2 ^ (dv L tx p - 48)) (dv L tx p - 48 + 1) q t (by omega) (by omega) (by omega) (by omega)
      rwa [show 47 + (dv L tx p - 48 + 1) = dv L tx p by omega] at this
    · rw [if_neg h, if_pos rfl, if_neg (fun y => h ⟨by omega, y.2⟩)]
theorem q_digs {L x p : Nat} {tx : Nat → Int32} (T : TX L tx) (hx : x < 155) (hp : p < 2 ^ 19) (t : Nat → Int32) : f_X11_digits tx (nI L) (nI p) t (nI x) = if dv L tx p = 32 then (if 48 ≤ dv L tx (p + 1) ∧ dv L tx (p + 1) ≤ 57 then some (1, nI (dr (dv L tx) 10 (p + 1) 0 0).1, upd t x (nI (dr (dv L tx) 10 (p + 1) 0 0).2)) else some (0, nI (p + 1), t)) else some (0, nI p, t) := by
  have hs : f_X11_skips tx (nI L) (nI p) 32 = _ := q_skips (c := 32) T (p := p) (by omega) (by decide) (by decide)
  unfold f_X11_digits
  by_cases h : dv L tx p = 32
  · rw [if_pos h] at hs ⊢
    rw [wkb2_t hs, if_neg one_ne, wkb1_t (q_here T (by omega)), wkb1_t (show f_X11_in _ 48 57 = _ from q_isdig (lo := 48) T (by decide) (by decide))]
    by_cases g : 48 ≤ dv L tx (p + 1) ∧ dv L tx (p + 1) ≤ 57
    · rw [if_pos g, if_neg one_ne, gin_t (vp_in_nI (by omega) (by decide)), wkl_t, nI_clamp (by omega), if_pos g]
      exact q_dig35 T hx 10 (p + 1) 0 0 FU t (by decide) (by decide) (by omega) (by decide)
    · rw [if_neg g, if_pos rfl, if_neg g]
  · rw [if_neg h] at hs ⊢
    rw [wkb2_t hs, if_pos rfl]
/-! the forms by their parts -/
theorem nr_no {f : Nat → Nat} {j p v : Nat} (h : ¬ (48 ≤ f p ∧ f p ≤ 57)) : nr f j p v = (p, v) := by
  cases j with
  | zero => rfl
  | succ j => rw [nr, if_neg h]
theorem nr_yes {f : Nat → Nat} {j p v : Nat} (h : 48 ≤ f p ∧ f p ≤ 57) : p < (nr f (j + 1) p v).1 := by
  rw [nr, if_pos h]
  have := nr_ge' f j (p + 1) (10 * v + (f p - 48))
  omega
/-- a separator and a number, in the forms -/
theorem fm_num {f : Nat → Nat} {s p : Nat} {l vs : List Nat} (hs : s = 32 ∨ s = 62) : fm f (s :: 35 :: l) p vs = if f p = s then (if 48 ≤ f (p + 1) ∧ f (p + 1) ≤ 57 then fm f l (nr f 4 (p + 1) 0).1 (vs ++ [(nr f 4 (p + 1) 0).2]) else (false, p + 1, vs ++ [0])) else (false, p, vs) := by
  have hp : pt f s p vs = if f p = s then (true, p + 1, vs) else (false, p, vs) := by
    unfold pt
    rw [if_neg (by omega), if_neg (by omega), if_neg (by omega), if_neg (by omega)]
  rw [fm, hp]
  by_cases h : f p = s
  · rw [if_pos h, if_pos h, if_pos rfl, fm]
    have h2 : pt f 35 (p + 1) vs = (decide (p + 1 < (nr f 4 (p + 1) 0).1), (nr f 4 (p + 1) 0).1, vs ++ [(nr f 4 (p + 1) 0).2]) := rfl
    show (if (pt f 35 (p + 1) vs).1 = true then _ else _) = _
    rw [h2]
    by_cases g : 48 ≤ f (p + 1) ∧ f (p + 1) ≤ 57
    · rw [if_pos (decide_eq_true (nr_yes g)), if_pos g]
    · rw [nr_no g, if_neg g, if_neg (by simp)]
  · rw [if_neg h, if_neg h, if_neg (by simp)]
theorem fm_dig {f : Nat → Nat} {p : Nat} {l vs : List Nat} : fm f (32 :: 63 :: l) p vs = if f p = 32 then (if 48 ≤ f (p + 1) ∧ f (p + 1) ≤ 57 then fm f l (nr f 1 (p + 1) 0).1 (vs ++ [(nr f 1 (p + 1) 0).2]) else (false, p + 1, vs)) else (false, p, vs) := by
  have hp : pt f 32 p vs = if f p = 32 then (true, p + 1, vs) else (false, p, vs) := rfl
  rw [fm, hp]
  by_cases h : f p = 32
  · rw [if_pos h, if_pos h, if_pos rfl, fm]
    have h2 : pt f 63 (p + 1) vs = if 48 ≤ f (p + 1) ∧ f (p + 1) ≤ 57 then (true, p + 1 + 1, vs ++ [f (p + 1) - 48]) else (false, p + 1, vs) := rfl
    show (if (pt f 63 (p + 1) vs).1 = true then _ else _) = _
    rw [h2]
    by_cases g : 48 ≤ f (p + 1) ∧ f (p + 1) ≤ 57
    · rw [if_pos g, if_pos g, if_pos rfl, nr, if_pos g, nr, Nat.mul_zero, Nat.zero_add]
    · rw [if_neg g, if_neg g, if_neg (by simp)]
  · rw [if_neg h, if_neg h, if_neg (by simp)]
theorem dr_no {f : Nat → Nat} {j p m lo : Nat} (h : ¬ (48 + lo ≤ f p ∧ f p ≤ 57)) : dr f j p m lo = (p, m) := by
  cases j with
  | zero => rfl
  | succ j => rw [dr, if_neg h]
theorem dr_mono (f : Nat → Nat) : ∀ j p m lo, m ≤ (dr f j p m lo).2 := by
  intro j
  induction j with
  | zero => intro p m lo; exact Nat.le_refl _
  | succ j ih =>
    intro p m lo
    rw [dr]
    split
    · exact Nat.le_trans Nat.left_le_or (ih _ _ _)
    · exact Nat.le_refl _
theorem dr_yes {f : Nat → Nat} {j p : Nat} (h : 48 ≤ f p ∧ f p ≤ 57) : (dr f (j + 1) p 0 0).2 ≠ 0 := by
  rw [dr, if_pos ⟨by omega, h.2⟩]
  have := dr_mono f j (p + 1) (0 ||| 2 ^ (f p - 48)) (f p - 48 + 1)
  rw [Nat.zero_or] at this ⊢
  have := Nat.two_pow_pos (f p - 48)
  omega
theorem fm_set {f : Nat → Nat} {p : Nat} {l vs : List Nat} : fm f (32 :: 42 :: l) p vs = if f p = 32 then (if 48 ≤ f (p + 1) ∧ f (p + 1) ≤ 57 then fm f l (dr f 10 (p + 1) 0 0).1 (vs ++ [(dr f 10 (p + 1) 0 0).2]) else (false, p + 1, vs ++ [0])) else (false, p, vs) := by
  have hp : pt f 32 p vs = if f p = 32 then (true, p + 1, vs) else (false, p, vs) := rfl
  rw [fm, hp]
  by_cases h : f p = 32
  · rw [if_pos h, if_pos h, if_pos rfl, fm]
    have h2 : pt f 42 (p + 1) vs = (decide (¬ (dr f 10 (p + 1) 0 0).2 = 0), (dr f 10 (p + 1) 0 0).1, vs ++ [(dr f 10 (p + 1) 0 0).2]) := rfl
    show (if (pt f 42 (p + 1) vs).1 = true then _ else _) = _
    rw [h2]
    by_cases g : 48 ≤ f (p + 1) ∧ f (p + 1) ≤ 57
    · rw [if_pos (decide_eq_true (dr_yes g)), if_pos g]
    · rw [dr_no (lo := 0) g, if_neg g, if_neg (by simp)]
  · rw [if_neg h, if_neg h, if_neg (by simp)]
