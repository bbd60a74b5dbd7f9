/-! PURE LAYER: one command of a script, as the reference reads it -/
def ltr (f : Nat → Nat) : List Nat → Nat → Bool × Nat
  | [], p => (true, p)
  | c :: l, p => if f p = c then ltr f l (p + 1) else (false, p)
theorem ltr_le (f : Nat → Nat) : ∀ (l : List Nat) p, p ≤ (ltr f l p).2 ∧ (ltr f l p).2 ≤ p + l.length := by
  intro l
  induction l with
  | nil => intro p; exact ⟨Nat.le_refl _, Nat.le_refl _⟩
  | cons c l ih =>
    intro p
    rw [ltr, List.length_cons]
    split
    · have := ih (p + 1)
      omega
    · exact ⟨Nat.le_refl _, by show p ≤ _; omega⟩
def lit (c : Nat) : Prop := c ≠ 35 ∧ c ≠ 42 ∧ c ≠ 63 ∧ c ≠ 126
theorem fm_lit {f : Nat → Nat} {c p : Nat} {l vs : List Nat} (h : lit c) : fm f (c :: l) p vs = if f p = c then fm f l (p + 1) vs else (false, p, vs) := by
  have hp : pt f c p vs = if f p = c then (true, p + 1, vs) else (false, p, vs) := by
    unfold pt
    rw [if_neg h.1, if_neg h.2.1, if_neg h.2.2.1, if_neg h.2.2.2]
  rw [fm, hp]
  by_cases e : f p = c
  · rw [if_pos e, if_pos e, if_pos rfl]
  · rw [if_neg e, if_neg e, if_neg (by simp)]
theorem fm_word {f : Nat → Nat} {l : List Nat} : ∀ (w : List Nat), (∀ c, c ∈ w → lit c) → ∀ p vs, fm f (w ++ l) p vs = if (ltr f w p).1 = true then fm f l (ltr f w p).2 vs else (false, (ltr f w p).2, vs) := by
  intro w
  induction w with
  | nil => intro _ p vs; rfl
  | cons c w ih =>
    intro h p vs
    rw [List.cons_append, fm_lit (h c List.mem_cons_self), ltr]
    by_cases e : f p = c
    · rw [if_pos e, if_pos e, ih (fun d hd => h d (List.mem_cons_of_mem _ hd))]
    · rw [if_neg e, if_neg e, if_neg (by simp)]
/-- one form tells all -/
theorem cls_past {f : Nat → Nat} {p q0 : Nat} : ∀ d k x, (∀ j, k ≤ j → j < k + d → (fm f (form j) p []).1 = false ∧ (fm f (form j) p []).2.1 ≤ q0) → x ≤ q0 → (cls f p d k x).1 = none ∧ x ≤ (cls f p d k x).2 ∧ (cls f p d k x).2 ≤ q0 := by
  intro d
  induction d with
  | zero => intro k x _ hx; exact ⟨rfl, Nat.le_refl _, hx⟩
  | succ d ih =>
    intro k x h hx
    obtain ⟨a1, a2⟩ := h k (Nat.le_refl _) (by omega)
    rw [cls, a1, if_neg (by decide)]
    have := ih (k + 1) (max x (fm f (form k) p []).2.1) (fun j h1 h2 => h j (by omega) (by omega)) (Nat.max_le.mpr ⟨hx, a2⟩)
    have m1 : x ≤ max x (fm f (form k) p []).2.1 := Nat.le_max_left _ _
    exact ⟨this.1, Nat.le_trans m1 this.2.1, this.2.2⟩
theorem cls_gen {f : Nat → Nat} {p k0 : Nat} (h0 : k0 < 8) (hp : ∀ k, k < 8 → k ≠ k0 → (fm f (form k) p []).1 = false ∧ (fm f (form k) p []).2.1 ≤ (fm f (form k0) p []).2.1) : ∀ d k x, k + d = 8 → k ≤ k0 → x ≤ (fm f (form k0) p []).2.1 →
    ((fm f (form k0) p []).1 = true → (cls f p d k x).1 = some (k0, (fm f (form k0) p []).2.1, (fm f (form k0) p []).2.2)) ∧ ((fm f (form k0) p []).1 = false → (cls f p d k x).1 = none ∧ (cls f p d k x).2 = (fm f (form k0) p []).2.1) := by
  intro d
  induction d with
  | zero => intro k x h1 h2; omega
  | succ d ih =>
    intro k x h1 h2 hx
    rw [cls]
    by_cases e : k = k0
    · subst e
      constructor
      · intro h
        rw [if_pos h]
      · intro h
        rw [h, if_neg (by decide)]
        have := cls_past (f := f) (p := p) (q0 := (fm f (form k) p []).2.1) d (k + 1) (max x (fm f (form k) p []).2.1) (fun j j1 j2 => hp j (by omega) (by omega)) (Nat.max_le.mpr ⟨hx, Nat.le_refl _⟩)
        have m1 : (fm f (form k) p []).2.1 ≤ max x (fm f (form k) p []).2.1 := Nat.le_max_right _ _
        exact ⟨this.1, Nat.le_antisymm this.2.2 (Nat.le_trans m1 this.2.1)⟩
    · obtain ⟨a1, a2⟩ := hp k (by omega) e
      rw [a1, if_neg (by decide)]
      exact ih (k + 1) _ (by omega) (by omega) (Nat.max_le.mpr ⟨hx, a2⟩)
def Rel (res : Option (Int32 × Int32 × (Nat → Int32))) (F : Bool × Nat × List Nat) (Q : (Nat → Int32) → List Nat → Prop) : Prop := ∃ t', res = some (bI F.1, nI F.2.1, t') ∧ (F.1 = true → Q t' F.2.2)
/-- the row of a command -/
def Row (c k : Nat) (t0 t : Nat → Int32) (vs : List Nat) : Prop := (∀ j, j < 5 * c → t j = t0 j) ∧ t (5 * c) = nI k ∧ ∀ i, i < vs.length → t (5 * c + 1 + i) = nI (vs.getD i 0)
theorem Row_add {c k x : Nat} {t0 t : Nat → Int32} {vs : List Nat} (hx : x = 5 * c + 1 + vs.length) (v : Nat) (R : Row c k t0 t vs) : Row c k t0 (upd t x (nI v)) (vs ++ [v]) := by
  subst hx
  refine ⟨fun j hj => ?_, ?_, fun i hi => ?_⟩
  · rw [pk_un (by omega)]; exact R.1 j hj
  · rw [pk_un (by omega)]; exact R.2.1
  · rw [List.length_append] at hi
    have hi : i < vs.length + 1 := hi
    by_cases e : i = vs.length
    · subst e
      rw [pk_us]
      congr 1
      simp
    · rw [pk_un (by omega), R.2.2 i (by omega), getD_app (by omega)]
theorem Rel_end {p : Nat} {f : Nat → Nat} {t : Nat → Int32} {vs : List Nat} {Q : (Nat → Int32) → List Nat → Prop} (h : Q t vs) : Rel (some (1, nI p, t)) (fm f [] p vs) Q := ⟨t, rfl, fun _ => h⟩
theorem dv_pos {L p s : Nat} {tx : Nat → Int32} (T : TX L tx) (h : dv L tx p = s) (hs : 0 < s) : p < 60 := by
  have hT := T.1
  rcases Nat.lt_or_ge p L with y | y
  · omega
  · rw [dv_out (by omega)] at h
    omega
theorem Rel_num {L c k p s x : Nat} {tx t0 t : Nat → Int32} {l vs : List Nat} {K : Int32 → (Nat → Int32) → Option (Int32 × Int32 × (Nat → Int32))} (T : TX L tx) (hp : p < 1000) (hs : s = 32 ∨ s = 62) (hx : x = 5 * c + 1 + vs.length) (hx2 : x < 155) (R : Row c k t0 t vs)
    (hK : ∀ q v, q < 1000 → Row c k t0 (upd t x (nI v)) (vs ++ [v]) → Rel (K (nI q) (upd t x (nI v))) (fm (dv L tx) l q (vs ++ [v])) (Row c k t0)) :
    Rel (wkb3 (f_X11_figures tx (nI L) (nI p) t (nI s) (nI x) 4) (fun r w t' => if r = 0 then some (0, w, t') else K w t')) (fm (dv L tx) (s :: 35 :: l) p vs) (Row c k t0) := by
  have hf := q_fig (mx := 4) T hx2 (by decide) (show p < 2 ^ 19 by omega) (show 0 < s by omega) (by omega) t
  rw [fm_num hs]
  by_cases h : dv L tx p = s
  · rw [if_pos h] at hf ⊢
    have h60 := dv_pos T h (by omega)
    by_cases g : 48 ≤ dv L tx (p + 1) ∧ dv L tx (p + 1) ≤ 57
    · rw [if_pos g] at hf ⊢
      have hn := nr_ge' (dv L tx) 4 (p + 1) 0
      rw [wkb3_t (show f_X11_figures tx (nI L) (nI p) t (nI s) (nI x) 4 = _ from hf), if_neg one_ne]
      exact hK _ _ (by omega) (Row_add hx _ R)
    · rw [if_neg g] at hf ⊢
      rw [wkb3_t (show f_X11_figures tx (nI L) (nI p) t (nI s) (nI x) 4 = _ from hf)]
      exact ⟨t, rfl, fun z => absurd z (by simp)⟩
  · rw [if_neg h] at hf ⊢
    rw [wkb3_t (show f_X11_figures tx (nI L) (nI p) t (nI s) (nI x) 4 = _ from hf)]
    exact ⟨t, rfl, fun z => absurd z (by simp)⟩
theorem Rel_dig {L c k p x : Nat} {tx t0 t : Nat → Int32} {l vs : List Nat} {K : Int32 → (Nat → Int32) → Option (Int32 × Int32 × (Nat → Int32))} (T : TX L tx) (hp : p < 1000) (hx : x = 5 * c + 1 + vs.length) (hx2 : x < 155) (R : Row c k t0 t vs)
    (hK : ∀ q v, q < 1000 → Row c k t0 (upd t x (nI v)) (vs ++ [v]) → Rel (K (nI q) (upd t x (nI v))) (fm (dv L tx) l q (vs ++ [v])) (Row c k t0)) :
    Rel (wkb3 (f_X11_figures tx (nI L) (nI p) t 32 (nI x) 1) (fun r w t' => if r = 0 then some (0, w, t') else K w t')) (fm (dv L tx) (32 :: 63 :: l) p vs) (Row c k t0) := by
  have hf := q_fig (sp := 32) (mx := 1) T hx2 (by decide) (show p < 2 ^ 19 by omega) (by decide) (by decide) t
  rw [fm_dig]
  by_cases h : dv L tx p = 32
  · rw [if_pos h] at hf ⊢
    have h60 := dv_pos T h (by decide)
    by_cases g : 48 ≤ dv L tx (p + 1) ∧ dv L tx (p + 1) ≤ 57
    · rw [if_pos g] at hf ⊢
      have hn := nr_ge' (dv L tx) 1 (p + 1) 0
      rw [wkb3_t (show f_X11_figures tx (nI L) (nI p) t 32 (nI x) 1 = _ from hf), if_neg one_ne]
      exact hK _ _ (by omega) (Row_add hx _ R)
    · rw [if_neg g] at hf ⊢
      rw [wkb3_t (show f_X11_figures tx (nI L) (nI p) t 32 (nI x) 1 = _ from hf)]
      exact ⟨t, rfl, fun z => absurd z (by simp)⟩
  · rw [if_neg h] at hf ⊢
    rw [wkb3_t (show f_X11_figures tx (nI L) (nI p) t 32 (nI x) 1 = _ from hf)]
    exact ⟨t, rfl, fun z => absurd z (by simp)⟩
theorem Rel_set {L c k p x : Nat} {tx t0 t : Nat → Int32} {l vs : List Nat} {K : Int32 → (Nat → Int32) → Option (Int32 × Int32 × (Nat → Int32))} (T : TX L tx) (hp : p < 1000) (hx : x = 5 * c + 1 + vs.length) (hx2 : x < 155) (R : Row c k t0 t vs)
    (hK : ∀ q v, q < 1000 → Row c k t0 (upd t x (nI v)) (vs ++ [v]) → Rel (K (nI q) (upd t x (nI v))) (fm (dv L tx) l q (vs ++ [v])) (Row c k t0)) :
    Rel (wkb3 (f_X11_digits tx (nI L) (nI p) t (nI x)) (fun r w t' => if r = 0 then some (0, w, t') else K w t')) (fm (dv L tx) (32 :: 42 :: l) p vs) (Row c k t0) := by
  have hf := q_digs T hx2 (show p < 2 ^ 19 by omega) t
  rw [fm_set]
  by_cases h : dv L tx p = 32
  · rw [if_pos h] at hf ⊢
    have h60 := dv_pos T h (by decide)
    by_cases g : 48 ≤ dv L tx (p + 1) ∧ dv L tx (p + 1) ≤ 57
    · rw [if_pos g] at hf ⊢
      have hn := dr_ge (dv L tx) 10 (p + 1) 0 0
      rw [wkb3_t hf, if_neg one_ne]
      exact hK _ _ (by omega) (Row_add hx _ R)
    · rw [if_neg g] at hf ⊢
      rw [wkb3_t hf]
      exact ⟨t, rfl, fun z => absurd z (by simp)⟩
  · rw [if_neg h] at hf ⊢
    rw [wkb3_t hf]
    exact ⟨t, rfl, fun z => absurd z (by simp)⟩
/-! the words -/
theorem word_len : ∀ i, i < 16 → f_J0_length_8abf5 i = some (nI (form i).length) ∧ (form i).length ≤ 15 ∧ ∀ j, j < 15 → j < (form i).length → f_J0_charAt_5068e i (nI j) = some (nI ((form i).getD j 0)) ∧ 0 < (form i).getD j 0 ∧ (form i).getD j 0 < 128 := by decide +kernel
theorem q_isWord {L c k i p : Nat} {tx t : Nat → Int32} (T : TX L tx) (hi : i < 16) (hc : c ≤ 30) (hp : p < 1000) : f_X11_isWord tx (nI L) (nI p) t (nI c) (nI k) i = some (bI (ltr (dv L tx) (form i) p).1, nI (ltr (dv L tx) (form i) p).2, upd t (5 * c) (nI k)) := by
  obtain ⟨l1, l2, l3⟩ := word_len i hi
  unfold f_X11_isWord
  rw [show (5 : Int32) * nI c = nI (5 * c) from by rw [show (5 : Int32) = nI 5 from rfl, pk_mul], gin_t (vp_in_nI (by omega) (by decide)), wkl_t, nI_clamp (by omega)]
  have key : ∀ d j p nn, j + d = (form i).length → d < nn → p < 2000 → p + d < 2000 → f_X11_isWord_L14 tx (nI L) (nI c) (nI k) i nn (nI j) (nI p) (upd t (5 * c) (nI k)) = some (bI (ltr (dv L tx) ((form i).drop j) p).1, nI (ltr (dv L tx) ((form i).drop j) p).2, upd t (5 * c) (nI k)) := by
    intro d
    induction d with
    | zero =>
      intro j p nn h1 h2 h3 h4
      obtain ⟨q, rfl⟩ : ∃ q, nn = q + 1 := ⟨nn - 1, by omega⟩
      rw [f_X11_isWord_L14, gok_t' (by omega), wkb1_t l1, if_pos (nI_le (by omega) (by omega)), List.drop_of_length_le (by omega)]
      rfl
    | succ d ih =>
      intro j p nn h1 h2 h3 h4
      obtain ⟨q, rfl⟩ : ∃ q, nn = q + 1 := ⟨nn - 1, by omega⟩
      obtain ⟨m1, m2, m3⟩ := l3 j (by omega) (by omega)
      have hd : (form i).drop j = (form i).getD j 0 :: (form i).drop (j + 1) := by
        rw [List.drop_eq_getElem_cons (by omega)]
        congr 1
        rw [List.getD_eq_getElem?_getD, List.getElem?_eq_getElem (by omega)]
        rfl
      have hs := q_skips T (p := p) (by omega) m2 m3
      rw [f_X11_isWord_L14, gok_t' (by omega), wkb1_t l1, if_neg (nI_ge (by omega) (by omega)), gok_t' (by omega), wkb1_t m1, hd, ltr]
      by_cases e : dv L tx p = (form i).getD j 0
      · rw [if_pos e] at hs
        rw [wkb2_t hs, if_neg one_ne, if_pos e, nI_1]
        exact ih (j + 1) (p + 1) q (by omega) (by omega) (by omega) (by omega)
      · rw [if_neg e] at hs
        rw [wkb2_t hs, if_pos rfl, if_neg e]
        rfl
  have := key (form i).length 0 p FU (by omega) (by show _ < 5000; omega) (by omega) (by omega)
  rw [List.drop_zero] at this
  exact this
/-- a word and what follows -/
theorem Rel_word {L c k i p : Nat} {tx t : Nat → Int32} {l : List Nat} {K : Int32 → (Nat → Int32) → Option (Int32 × Int32 × (Nat → Int32))} (T : TX L tx) (hi : i < 16) (hl : ∀ x, x ∈ form i → lit x) (hc : c ≤ 30) (hp : p < 200)
    (hK : ∀ q, q < 1000 → Row c k t (upd t (5 * c) (nI k)) [] → Rel (K (nI q) (upd t (5 * c) (nI k))) (fm (dv L tx) l q []) (Row c k t)) :
    Rel (wkb3 (f_X11_isWord tx (nI L) (nI p) t (nI c) (nI k) i) (fun r w t' => if r = 0 then some (0, w, t') else K w t')) (fm (dv L tx) (form i ++ l) p []) (Row c k t) := by
  have hw := ltr_le (dv L tx) (form i) p
  have h15 := (word_len i hi).2.1
  rw [wkb3_t (q_isWord T hi hc (by omega)), fm_word _ hl]
  cases hb : (ltr (dv L tx) (form i) p).1 with
  | false =>
    rw [ifb_f, if_neg (by decide)]
    exact ⟨_, rfl, fun z => absurd z (by simp)⟩
  | true =>
    rw [ifb_t, if_pos rfl]
    exact hK _ (by omega) ⟨fun j hj => pk_un (by omega), pk_us, fun j hj => absurd hj (by simp)⟩

theorem Fm0 : form 0 = 97 :: (form 10 ++ [32, 35, 32, 35, 32, 35, 32, 35]) := rfl
theorem Fm1 : form 1 = 112 :: 111 :: (form 14 ++ [32, 35, 62, 35, 32, 35]) := rfl
theorem Fm2 : form 2 = 112 :: (form 15 ++ [32, 63, 32, 35]) := rfl
theorem Fm3 : form 3 = 115 :: (form 11 ++ [32, 42]) := rfl
theorem Fm4 : form 4 = 110 :: 101 :: (form 8 ++ [32, 63]) := rfl
theorem Fm5 : form 5 = 110 :: (form 9 ++ [126]) := rfl
theorem Fm6 : form 6 = 99 :: 108 :: (form 12 ++ []) := rfl
theorem Fm7 : form 7 = 99 :: (form 13 ++ [32, 35, 32, 35]) := rfl
theorem litF : ∀ i, i < 16 → 8 ≤ i → ∀ x, x ∈ form i → lit x := by
  unfold lit
  decide +kernel
theorem lit_ok {c : Nat} (h : c ≠ 35 ∧ c ≠ 42 ∧ c ≠ 63 ∧ c ≠ 126) : lit c := h
theorem fm_miss {f : Nat → Nat} {p : Nat} (k : Nat) (hk : k < 8) (h : f p ≠ (form k).getD 0 0) : fm f (form k) p [] = (false, p, []) := by
  have key : ∀ (c : Nat) (l : List Nat), lit c → f p ≠ c → fm f (c :: l) p [] = (false, p, []) := fun c l h1 h2 => by
    rw [fm_lit h1, if_neg h2]
  rcases (show k = 0 ∨ k = 1 ∨ k = 2 ∨ k = 3 ∨ k = 4 ∨ k = 5 ∨ k = 6 ∨ k = 7 by omega) with rfl | rfl | rfl | rfl | rfl | rfl | rfl | rfl <;> exact key _ _ (lit_ok (by decide)) h
theorem heads : ∀ k, k < 8 → (form k).getD 0 0 = if k = 0 then 97 else if k = 3 then 115 else if k = 1 ∨ k = 2 then 112 else if k = 4 ∨ k = 5 then 110 else 99 := by decide +kernel
theorem hd97 : ∀ k, k < 8 → k ≠ 0 → 97 ≠ (form k).getD 0 0 := by decide +kernel
theorem hd115 : ∀ k, k < 8 → k ≠ 3 → 115 ≠ (form k).getD 0 0 := by decide +kernel
theorem hd110 : ∀ k, k < 8 → k ≠ 4 → k ≠ 5 → 110 ≠ (form k).getD 0 0 := by decide +kernel
theorem hd99 : ∀ k, k < 8 → k ≠ 6 → k ≠ 7 → 99 ≠ (form k).getD 0 0 := by decide +kernel
theorem hd112 : ∀ k, k < 8 → k ≠ 1 → k ≠ 2 → 112 ≠ (form k).getD 0 0 := by decide +kernel
/-- the reference's command in each case -/
theorem q_cmdM {L c p : Nat} {tx t : Nat → Int32} (T : TX L tx) (hc : c ≤ 29) (hp : p < 190) : ∃ k0, k0 < 8 ∧ (∀ k, k < 8 → k ≠ k0 → (fm (dv L tx) (form k) p []).1 = false ∧ (fm (dv L tx) (form k) p []).2.1 ≤ (fm (dv L tx) (form k0) p []).2.1) ∧
    Rel (f_X11_commandHere tx (nI L) (nI p) t (nI c)) (fm (dv L tx) (form k0) p []) (Row c k0 t) := by
  have S : ∀ (p c : Nat), p < 200 → 0 < c → c < 128 → f_X11_skips tx (nI L) (nI p) (nI c) = if dv L tx p = c then some (1, nI (p + 1)) else some (0, nI p) := fun p c h1 h2 h3 => q_skips T (by omega) h2 h3
  have s97 : f_X11_skips tx (nI L) (nI p) 97 = _ := S p 97 (by omega) (by decide) (by decide)
  have s115 : f_X11_skips tx (nI L) (nI p) 115 = _ := S p 115 (by omega) (by decide) (by decide)
  have s110 : f_X11_skips tx (nI L) (nI p) 110 = _ := S p 110 (by omega) (by decide) (by decide)
  have s99 : f_X11_skips tx (nI L) (nI p) 99 = _ := S p 99 (by omega) (by decide) (by decide)
  have s112 : f_X11_skips tx (nI L) (nI p) 112 = _ := S p 112 (by omega) (by decide) (by decide)
  have s101 : f_X11_skips tx (nI L) (nI (p + 1)) 101 = _ := S (p + 1) 101 (by omega) (by decide) (by decide)
  have s108 : f_X11_skips tx (nI L) (nI (p + 1)) 108 = _ := S (p + 1) 108 (by omega) (by decide) (by decide)
  have s111 : f_X11_skips tx (nI L) (nI (p + 1)) 111 = _ := S (p + 1) 111 (by omega) (by decide) (by decide)
  have e1 : (5 * nI c : Int32) + 1 = nI (5 * c + 1) := by rw [show (5 : Int32) = nI 5 from rfl, pk_mul, nI_1]
  have e2 : nI (5 * c + 1) + 1 = nI (5 * c + 1 + 1) := nI_1 _
  have e3 : nI (5 * c + 1) + 2 = nI (5 * c + 1 + 2) := by rw [show (2 : Int32) = nI 2 from rfl, nI_add]
  have e4 : nI (5 * c + 1) + 3 = nI (5 * c + 1 + 3) := by rw [show (3 : Int32) = nI 3 from rfl, nI_add]
  have miss : ∀ k, k < 8 → dv L tx p ≠ (form k).getD 0 0 → (fm (dv L tx) (form k) p []).1 = false ∧ (fm (dv L tx) (form k) p []).2.1 = p := fun k hk h => by
    rw [fm_miss k hk h]
    exact ⟨rfl, rfl⟩
  have low : ∀ k, p ≤ (fm (dv L tx) (form k) p []).2.1 := fun k => (fm_le (dv L tx) (form k) p []).1
  unfold f_X11_commandHere
  simp only [e1, e2, e3, e4]
  by_cases h97 : dv L tx p = 97
  · refine ⟨0, by decide, fun k hk hne => ?_, ?_⟩
    · obtain ⟨m1, m2⟩ := miss k hk (by rw [h97]; exact hd97 k hk hne)
      exact ⟨m1, by rw [m2]; exact low 0⟩
    · rw [if_pos h97] at s97
      rw [wkb2_t s97, if_neg one_ne, Fm0, fm_lit (lit_ok (by decide)), if_pos h97]
      refine Rel_word (k := 0) T (by decide) (litF 10 (by decide) (by decide)) (by omega) (by omega) (fun q hq R => ?_)
      refine Rel_num (s := 32) T hq (Or.inl rfl) rfl (by omega) R (fun q v hq R => ?_)
      refine Rel_num (s := 32) T hq (Or.inl rfl) rfl (by omega) R (fun q v hq R => ?_)
      refine Rel_num (s := 32) T hq (Or.inl rfl) rfl (by omega) R (fun q v hq R => ?_)
      refine Rel_num (s := 32) T hq (Or.inl rfl) rfl (by omega) R (fun q v hq R => ?_)
      exact Rel_end R
  rw [if_neg h97] at s97
  rw [wkb2_t s97, if_pos rfl]
  by_cases h115 : dv L tx p = 115
  · refine ⟨3, by decide, fun k hk hne => ?_, ?_⟩
    · obtain ⟨m1, m2⟩ := miss k hk (by rw [h115]; exact hd115 k hk hne)
      exact ⟨m1, by rw [m2]; exact low 3⟩
    · rw [if_pos h115] at s115
      rw [wkb2_t s115, if_neg one_ne, Fm3, fm_lit (lit_ok (by decide)), if_pos h115]
      refine Rel_word (k := 3) T (by decide) (litF 11 (by decide) (by decide)) (by omega) (by omega) (fun q hq R => ?_)
      refine Rel_set T hq rfl (by omega) R (fun q v hq R => ?_)
      exact Rel_end R
  rw [if_neg h115] at s115
  rw [wkb2_t s115, if_pos rfl]
  by_cases h110 : dv L tx p = 110
  · rw [if_pos h110] at s110
    rw [wkb2_t s110, if_neg one_ne]
    have oth : ∀ k, k < 8 → k ≠ 4 → k ≠ 5 → (fm (dv L tx) (form k) p []).1 = false ∧ (fm (dv L tx) (form k) p []).2.1 = p := fun k hk h4 h5 =>
      miss k hk (by rw [h110]; exact hd110 k hk h4 h5)
    have g4 : fm (dv L tx) (form 4) p [] = if dv L tx (p + 1) = 101 then fm (dv L tx) (form 8 ++ [32, 63]) (p + 2) [] else (false, p + 1, []) := by
      rw [Fm4, fm_lit (lit_ok (by decide)), if_pos h110, fm_lit (lit_ok (by decide))]
    have g5 : fm (dv L tx) (form 5) p [] = fm (dv L tx) (form 9 ++ [126]) (p + 1) [] := by
      rw [Fm5, fm_lit (lit_ok (by decide)), if_pos h110]
    unfold f_X11_withN
    by_cases h101 : dv L tx (p + 1) = 101
    · rw [if_pos h101] at s101 g4
      refine ⟨4, by decide, fun k hk hne => ?_, ?_⟩
      · by_cases e5 : k = 5
        · subst e5
          have : fm (dv L tx) (form 5) p [] = (false, p + 1, []) := by
            rw [g5, show form 9 ++ [126] = 105 :: [103, 104, 116, 126] from rfl, fm_lit (lit_ok (by decide)), if_neg (by omega)]
          rw [this, g4]
          refine ⟨rfl, ?_⟩
          have := (fm_le (dv L tx) (form 8 ++ [32, 63]) (p + 2) []).1
          show p + 1 ≤ _
          omega
        · obtain ⟨m1, m2⟩ := oth k hk hne e5
          exact ⟨m1, by rw [m2]; exact low 4⟩
      · rw [wkb2_t s101, if_neg one_ne, g4]
        have := Rel_word (K := fun w t' => wkb3 (f_X11_figures tx (nI L) w t' 32 (nI (5 * c + 1)) 1) (fun r w t' => if r = 0 then some (0, w, t') else some (1, w, t'))) (k := 4) (p := p + 2) (l := [32, 63]) (t := t) T (show 8 < 16 by decide) (litF 8 (by decide) (by decide)) (show c ≤ 30 by omega) (by omega) (fun q hq R => by
          refine Rel_dig (K := fun w t' => some (1, w, t')) T hq rfl (by omega) R (fun q v hq R => ?_)
          exact Rel_end R)
        obtain ⟨t', r1, r2⟩ := this
        refine ⟨t', ?_, r2⟩
        have r1' : (wkb3 (f_X11_isWord tx (nI L) (nI (p + 1 + 1)) t (nI c) 4 8) fun r23 w24 w25 => if r23 = 0 then some ((0 : Int32), w24, w25) else wkb3 (f_X11_figures tx (nI L) w24 w25 32 (nI (5 * c + 1)) 1) fun r29 w30 w31 => if r29 = 0 then some (0, w30, w31) else some (1, w30, w31)) = _ := r1
        rw [r1', wkb3_t rfl, bI_gbo]
    · rw [if_neg h101] at s101 g4
      refine ⟨5, by decide, fun k hk hne => ?_, ?_⟩
      · by_cases e4' : k = 4
        · subst e4'
          rw [g4, g5]
          exact ⟨rfl, (fm_le (dv L tx) (form 9 ++ [126]) (p + 1) []).1⟩
        · obtain ⟨m1, m2⟩ := oth k hk e4' hne
          exact ⟨m1, by rw [m2]; exact low 5⟩
      · rw [wkb2_t s101, if_pos rfl, g5]
        have ix : vp_in (nI (5 * c + 1)) 155 := vp_in_nI (by omega) (by decide)
        have := Rel_word (K := fun w7 w8 => gin (nI (5 * c + 1)) 155 (wkl (upd w8 (nI (5 * c + 1)).toNatClampNeg 1) (fun g12 => wkb1 (f_X11_here tx (nI L) w7) (fun r14 => if r14 = 32 then (wkb3 (f_X11_figures tx (nI L) w7 g12 32 (nI (5 * c + 1)) 4) (fun r17 w18 w19 => if r17 = 0 then some (0, w18, w19) else some (1, w18, w19))) else some (1, w7, g12))))) (k := 5) (p := p + 1) (l := [126]) (t := t) T (show 9 < 16 by decide) (litF 9 (by decide) (by decide)) (show c ≤ 30 by omega) (by omega) (fun q hq R => by
          show Rel (gin (nI (5 * c + 1)) 155 _) _ _
          rw [gin_t ix, wkl_t, nI_clamp (by omega), wkb1_t (q_here T (by omega))]
          have hq2 := q_fig (sp := 32) (mx := 4) (x := 5 * c + 1) T (by omega) (by decide) (show q < 2 ^ 19 by omega) (by decide) (by decide) (upd (upd t (5 * c) (nI 5)) (5 * c + 1) 1)
          have hpt : fm (dv L tx) [126] q [] = if dv L tx q = 32 then (if q + 1 < (nr (dv L tx) 4 (q + 1) 0).1 then (true, (nr (dv L tx) 4 (q + 1) 0).1, [(nr (dv L tx) 4 (q + 1) 0).2]) else (false, (nr (dv L tx) 4 (q + 1) 0).1, [(nr (dv L tx) 4 (q + 1) 0).2])) else (true, q, [1]) := by
            have h2 : pt (dv L tx) 126 q [] = if dv L tx q = 32 then (decide (q + 1 < (nr (dv L tx) 4 (q + 1) 0).1), (nr (dv L tx) 4 (q + 1) 0).1, [(nr (dv L tx) 4 (q + 1) 0).2]) else (true, q, [1]) := rfl
            rw [fm, h2]
            by_cases y : dv L tx q = 32
            · rw [if_pos y, if_pos y]
              by_cases y2 : q + 1 < (nr (dv L tx) 4 (q + 1) 0).1
              · rw [if_pos y2, if_pos (decide_eq_true y2)]
                rfl
              · rw [if_neg y2, if_neg (by simp [y2])]
            · rw [if_neg y, if_neg y, if_pos rfl]
              rfl
          rw [hpt]
          by_cases y : dv L tx q = 32
          · have hqL : q < L := by
              rcases Nat.lt_or_ge q L with z | z
              · exact z
              · rw [dv_out (by omega)] at y
                omega
            rw [if_pos hqL, if_pos (by rw [y]; rfl), if_pos y]
            rw [if_pos y] at hq2
            by_cases y2 : 48 ≤ dv L tx (q + 1) ∧ dv L tx (q + 1) ≤ 57
            · rw [if_pos y2] at hq2
              rw [wkb3_t (show f_X11_figures tx (nI L) (nI q) _ 32 (nI (5 * c + 1)) 4 = _ from hq2), if_neg one_ne, if_pos (nr_yes y2), upd_upd]
              exact ⟨_, rfl, fun _ => Row_add (vs := []) rfl _ R⟩
            · rw [if_neg y2] at hq2
              rw [wkb3_t (show f_X11_figures tx (nI L) (nI q) _ 32 (nI (5 * c + 1)) 4 = _ from hq2), if_pos rfl, nr_no y2, if_neg (by simp)]
              exact ⟨_, rfl, fun z => absurd z (by simp)⟩
          · rw [if_neg y, if_neg (fun z => by
              by_cases hqL : q < L
              · rw [if_pos hqL] at z
                have := dv_in T hqL
                exact y ((nI_eq (b := 32) (by omega) (by omega)).mp z)
              · rw [if_neg hqL] at z
                exact absurd z (by decide))]
            exact ⟨_, rfl, fun _ => Row_add (vs := []) rfl 1 R⟩)
        obtain ⟨t', r1, r2⟩ := this
        refine ⟨t', ?_, r2⟩
        have r1' : (wkb3 (f_X11_isWord tx (nI L) (nI (p + 1)) t (nI c) 5 9) fun r6 w7 w8 => if r6 = 0 then some ((0 : Int32), w7, w8) else gin (nI (5 * c + 1)) 155 (wkl (upd w8 (nI (5 * c + 1)).toNatClampNeg 1) (fun g12 => wkb1 (f_X11_here tx (nI L) w7) (fun r14 => if r14 = 32 then (wkb3 (f_X11_figures tx (nI L) w7 g12 32 (nI (5 * c + 1)) 4) (fun r17 w18 w19 => if r17 = 0 then some (0, w18, w19) else some (1, w18, w19))) else some (1, w7, g12))))) = _ := r1
        rw [r1', wkb3_t rfl, bI_gbo]
  rw [if_neg h110] at s110
  rw [wkb2_t s110, if_pos rfl]
  by_cases h99 : dv L tx p = 99
  · rw [if_pos h99] at s99
    rw [wkb2_t s99, if_neg one_ne]
    have oth : ∀ k, k < 8 → k ≠ 6 → k ≠ 7 → (fm (dv L tx) (form k) p []).1 = false ∧ (fm (dv L tx) (form k) p []).2.1 = p := fun k hk h4 h5 =>
      miss k hk (by rw [h99]; exact hd99 k hk h4 h5)
    have g6 : fm (dv L tx) (form 6) p [] = if dv L tx (p + 1) = 108 then fm (dv L tx) (form 12 ++ []) (p + 2) [] else (false, p + 1, []) := by
      rw [Fm6, fm_lit (lit_ok (by decide)), if_pos h99, fm_lit (lit_ok (by decide))]
    have g7 : fm (dv L tx) (form 7) p [] = fm (dv L tx) (form 13 ++ [32, 35, 32, 35]) (p + 1) [] := by
      rw [Fm7, fm_lit (lit_ok (by decide)), if_pos h99]
    by_cases h108 : dv L tx (p + 1) = 108
    · rw [if_pos h108] at s108 g6
      refine ⟨6, by decide, fun k hk hne => ?_, ?_⟩
      · by_cases e7 : k = 7
        · subst e7
          have : fm (dv L tx) (form 7) p [] = (false, p + 1, []) := by
            rw [g7, show form 13 ++ [32, 35, 32, 35] = 97 :: [110, 99, 101, 108, 32, 35, 32, 35] from rfl, fm_lit (lit_ok (by decide)), if_neg (by omega)]
          rw [this, g6]
          refine ⟨rfl, ?_⟩
          have := (fm_le (dv L tx) (form 12 ++ []) (p + 2) []).1
          show p + 1 ≤ _
          omega
        · obtain ⟨m1, m2⟩ := oth k hk hne e7
          exact ⟨m1, by rw [m2]; exact low 6⟩
      · rw [wkb2_t s108, if_neg one_ne, g6, fm_word _ (litF 12 (by decide) (by decide)), wkb3_t (show f_X11_isWord tx (nI L) (nI (p + 1 + 1)) t (nI c) 6 12 = _ from q_isWord (k := 6) (p := p + 2) T (by decide) (by omega) (by omega)), bI_gbo]
        cases hb : (ltr (dv L tx) (form 12) (p + 2)).1 with
        | false =>
          rw [if_neg (by decide)]
          exact ⟨upd t (5 * c) (nI 6), rfl, fun z => absurd z (by simp)⟩
        | true =>
          rw [if_pos rfl]
          exact ⟨upd t (5 * c) (nI 6), rfl, fun _ => ⟨fun j hj => pk_un (by omega), pk_us, fun j hj => absurd hj (by simp [fm])⟩⟩
    · rw [if_neg h108] at s108 g6
      refine ⟨7, by decide, fun k hk hne => ?_, ?_⟩
      · by_cases e6 : k = 6
        · subst e6
          rw [g6, g7]
          exact ⟨rfl, (fm_le (dv L tx) (form 13 ++ [32, 35, 32, 35]) (p + 1) []).1⟩
        · obtain ⟨m1, m2⟩ := oth k hk e6 hne
          exact ⟨m1, by rw [m2]; exact low 7⟩
      · rw [wkb2_t s108, if_pos rfl, g7]
        refine Rel_word (k := 7) T (by decide) (litF 13 (by decide) (by decide)) (by omega) (by omega) (fun q hq R => ?_)
        refine Rel_num (s := 32) T hq (Or.inl rfl) rfl (by omega) R (fun q v hq R => ?_)
        refine Rel_num (s := 32) T hq (Or.inl rfl) rfl (by omega) R (fun q v hq R => ?_)
        exact Rel_end R
  rw [if_neg h99] at s99
  rw [wkb2_t s99, if_pos rfl]
  by_cases h112 : dv L tx p = 112
  · rw [if_pos h112] at s112
    rw [wkb2_t s112, if_neg one_ne]
    have oth : ∀ k, k < 8 → k ≠ 1 → k ≠ 2 → (fm (dv L tx) (form k) p []).1 = false ∧ (fm (dv L tx) (form k) p []).2.1 = p := fun k hk h4 h5 =>
      miss k hk (by rw [h112]; exact hd112 k hk h4 h5)
    have g1 : fm (dv L tx) (form 1) p [] = if dv L tx (p + 1) = 111 then fm (dv L tx) (form 14 ++ [32, 35, 62, 35, 32, 35]) (p + 2) [] else (false, p + 1, []) := by
      rw [Fm1, fm_lit (lit_ok (by decide)), if_pos h112, fm_lit (lit_ok (by decide))]
    have g2 : fm (dv L tx) (form 2) p [] = fm (dv L tx) (form 15 ++ [32, 63, 32, 35]) (p + 1) [] := by
      rw [Fm2, fm_lit (lit_ok (by decide)), if_pos h112]
    by_cases h111 : dv L tx (p + 1) = 111
    · rw [if_pos h111] at s111 g1
      refine ⟨1, by decide, fun k hk hne => ?_, ?_⟩
      · by_cases e7 : k = 2
        · subst e7
          have : fm (dv L tx) (form 2) p [] = (false, p + 1, []) := by
            rw [g2, show form 15 ++ [32, 63, 32, 35] = 97 :: [121, 32, 63, 32, 35] from rfl, fm_lit (lit_ok (by decide)), if_neg (by omega)]
          rw [this, g1]
          refine ⟨rfl, ?_⟩
          have := (fm_le (dv L tx) (form 14 ++ [32, 35, 62, 35, 32, 35]) (p + 2) []).1
          show p + 1 ≤ _
          omega
        · obtain ⟨m1, m2⟩ := oth k hk hne e7
          exact ⟨m1, by rw [m2]; exact low 1⟩
      · rw [wkb2_t s111, if_neg one_ne, g1]
        refine Rel_word (k := 1) (p := p + 2) T (by decide) (litF 14 (by decide) (by decide)) (by omega) (by omega) (fun q hq R => ?_)
        refine Rel_num (s := 32) T hq (Or.inl rfl) rfl (by omega) R (fun q v hq R => ?_)
        refine Rel_num (s := 62) T hq (Or.inr rfl) rfl (by omega) R (fun q v hq R => ?_)
        refine Rel_num (s := 32) T hq (Or.inl rfl) rfl (by omega) R (fun q v hq R => ?_)
        exact Rel_end R
    · rw [if_neg h111] at s111 g1
      refine ⟨2, by decide, fun k hk hne => ?_, ?_⟩
      · by_cases e6 : k = 1
        · subst e6
          rw [g1, g2]
          exact ⟨rfl, (fm_le (dv L tx) (form 15 ++ [32, 63, 32, 35]) (p + 1) []).1⟩
        · obtain ⟨m1, m2⟩ := oth k hk e6 hne
          exact ⟨m1, by rw [m2]; exact low 2⟩
      · rw [wkb2_t s111, if_pos rfl, g2]
        refine Rel_word (k := 2) T (by decide) (litF 15 (by decide) (by decide)) (by omega) (by omega) (fun q hq R => ?_)
        refine Rel_dig T hq rfl (by omega) R (fun q v hq R => ?_)
        refine Rel_num (s := 32) T hq (Or.inl rfl) rfl (by omega) R (fun q v hq R => ?_)
        exact Rel_end R
  rw [if_neg h112] at s112
  rw [wkb2_t s112, if_pos rfl]
  have all : ∀ k, k < 8 → fm (dv L tx) (form k) p [] = (false, p, []) := fun k hk => fm_miss k hk (by
    rw [heads k hk]
    split
    · exact h97
    · split
      · exact h115
      · split
        · exact h112
        · split
          · exact h110
          · exact h99)
  refine ⟨0, by decide, fun k hk hne => ?_, ?_⟩
  · rw [all k hk, all 0 (by decide)]
    exact ⟨rfl, Nat.le_refl _⟩
  · rw [all 0 (by decide)]
    exact ⟨t, rfl, fun z => absurd z (by simp)⟩
