/-! PURE LAYER: a whole script, read by both -/
theorem dv_lt {L p : Nat} {tx : Nat → Int32} (h : dv L tx p ≠ 0) : p < L := by
  rcases Nat.lt_or_ge p L with y | y
  · exact y
  · exact absurd (dv_out (by omega)) h
theorem nr_L {L : Nat} {tx : Nat → Int32} : ∀ j p v, p ≤ L → (nr (dv L tx) j p v).1 ≤ L := by
  intro j
  induction j with
  | zero => intro p v h; exact h
  | succ j ih =>
    intro p v h
    rw [nr]
    split
    · rename_i z
      exact ih _ _ (dv_lt (tx := tx) (by omega))
    · exact h
theorem dr_L {L : Nat} {tx : Nat → Int32} : ∀ j p m lo, p ≤ L → (dr (dv L tx) j p m lo).1 ≤ L := by
  intro j
  induction j with
  | zero => intro p m lo h; exact h
  | succ j ih =>
    intro p m lo h
    rw [dr]
    split
    · rename_i z
      exact ih _ _ _ (dv_lt (tx := tx) (by omega))
    · exact h
theorem pt_L {L : Nat} {tx : Nat → Int32} (x p : Nat) (vs : List Nat) (hx : 0 < x) (h : p ≤ L) : (pt (dv L tx) x p vs).2.1 ≤ L := by
  unfold pt
  split
  · exact nr_L 4 p 0 h
  · split
    · exact dr_L 10 p 0 0 h
    · split
      · split
        · rename_i z
          exact dv_lt (tx := tx) (by omega)
        · exact h
      · split
        · split
          · rename_i z
            exact nr_L 4 (p + 1) 0 (dv_lt (tx := tx) (by omega))
          · exact h
        · split
          · rename_i z
            exact dv_lt (tx := tx) (by omega)
          · exact h
theorem fm_L {L : Nat} {tx : Nat → Int32} : ∀ (l : List Nat), (∀ x, x ∈ l → 0 < x) → ∀ p vs, p ≤ L → (fm (dv L tx) l p vs).2.1 ≤ L := by
  intro l
  induction l with
  | nil => intro _ p vs h; exact h
  | cons c l ih =>
    intro hl p vs h
    have := pt_L (tx := tx) c p vs (hl c List.mem_cons_self) h
    rw [fm]
    split
    · exact ih (fun x hx => hl x (List.mem_cons_of_mem _ hx)) _ _ this
    · exact this
def c126 : List Nat → Nat
  | [] => 0
  | c :: l => (if c = 126 then 1 else 0) + c126 l
theorem pt_adv (f : Nat → Nat) (x p : Nat) (vs : List Nat) (h : (pt f x p vs).1 = true) : p + 1 ≤ (pt f x p vs).2.1 + (if x = 126 then 1 else 0) := by
  revert h
  unfold pt
  by_cases e1 : x = 35
  · rw [if_pos e1]
    intro h
    have := of_decide_eq_true h
    show p + 1 ≤ (nr f 4 p 0).1 + _
    omega
  · rw [if_neg e1]
    by_cases e2 : x = 42
    · rw [if_pos e2]
      intro h
      have hne := of_decide_eq_true h
      show p + 1 ≤ (dr f 10 p 0 0).1 + _
      by_cases g : 48 ≤ f p ∧ f p ≤ 57
      · have := dr_ge f 9 (p + 1) (0 ||| 2 ^ (f p - 48)) (f p - 48 + 1)
        rw [dr, if_pos ⟨by omega, g.2⟩]
        omega
      · rw [dr_no (lo := 0) g] at hne
        exact absurd rfl hne
    · rw [if_neg e2]
      by_cases e3 : x = 63
      · rw [if_pos e3]
        split
        · intro _
          show p + 1 ≤ p + 1 + _
          omega
        · intro h
          exact absurd h (by simp)
      · rw [if_neg e3]
        by_cases e4 : x = 126
        · rw [if_pos e4, if_pos e4]
          split
          · intro _
            have := nr_ge' f 4 (p + 1) 0
            show p + 1 ≤ (nr f 4 (p + 1) 0).1 + 1
            omega
          · intro _
            show p + 1 ≤ p + 1
            omega
        · rw [if_neg e4]
          split
          · intro _
            show p + 1 ≤ p + 1 + _
            omega
          · intro h
            exact absurd h (by simp)
theorem fm_adv (f : Nat → Nat) : ∀ (l : List Nat) p vs, (fm f l p vs).1 = true → p + l.length ≤ (fm f l p vs).2.1 + c126 l := by
  intro l
  induction l with
  | nil => intro p vs _; exact Nat.le_refl _
  | cons c l ih =>
    intro p vs h
    rw [fm] at h ⊢
    by_cases g : (pt f c p vs).1 = true
    · rw [if_pos g] at h ⊢
      have a := pt_adv f c p vs g
      have b := ih _ _ h
      rw [List.length_cons, c126]
      omega
    · rw [if_neg g] at h
      exact absurd h (by simp)
theorem form_adv : ∀ k, k < 8 → 5 + c126 (form k) ≤ (form k).length ∧ ∀ x, x ∈ form k → 0 < x := by decide +kernel
theorem cls_form {f : Nat → Nat} {p : Nat} : ∀ d k x k' q vs, (cls f p d k x).1 = some (k', q, vs) → k ≤ k' ∧ k' < k + d ∧ (fm f (form k') p []).1 = true ∧ q = (fm f (form k') p []).2.1 ∧ vs = (fm f (form k') p []).2.2 := by
  intro d
  induction d with
  | zero => intro k x k' q vs h; exact absurd h (by simp [cls])
  | succ d ih =>
    intro k x k' q vs h
    rw [cls] at h
    by_cases g : (fm f (form k) p []).1 = true
    · rw [if_pos g] at h
      injection h with h
      injection h with h1 h
      injection h with h2 h3
      subst h1 h2 h3
      exact ⟨Nat.le_refl _, by omega, g, rfl, rfl⟩
    · rw [if_neg g] at h
      obtain ⟨h1, h2, h3⟩ := ih _ _ _ _ _ h
      exact ⟨by omega, by omega, h3⟩
theorem cls_q {L p k q : Nat} {tx : Nat → Int32} {vs : List Nat} (hp : p ≤ L) (h : (cls (dv L tx) p 8 0 p).1 = some (k, q, vs)) : k < 8 ∧ p + 5 ≤ q ∧ q ≤ L := by
  obtain ⟨-, h2, h3, h4, -⟩ := cls_form 8 0 p k q vs h
  obtain ⟨a1, a2⟩ := form_adv k (by omega)
  have b1 := fm_adv (dv L tx) (form k) p [] h3
  have b2 := fm_L (L := L) (tx := tx) (form k) a2 p [] hp
  subst h4
  exact ⟨by omega, by omega, b2⟩
/-- the whole script -/
def rdd (f : Nat → Nat) (L : Nat) : Nat → Nat → List (Nat × List Nat) → Option (List (Nat × List Nat)) × Nat
  | 0, p, _ => (none, p)
  | d + 1, p, ks => (cls f p 8 0 p).1.elim (none, (cls f p 8 0 p).2) (fun r => if f r.2.1 = 59 then rdd f L d (r.2.1 + 1) (ks ++ [(r.1, r.2.2)]) else if r.2.1 = L then (some (ks ++ [(r.1, r.2.2)]), r.2.1) else (none, r.2.1))
def MR (c : Nat) (t : Nat → Int32) (ks : List (Nat × List Nat)) : Prop := ks.length = c ∧ ∀ j, j < c → ∃ k vs, ks[j]? = some (k, vs) ∧ k < 8 ∧ t (5 * j) = nI k ∧ ∀ i, i < vs.length → i < 4 → t (5 * j + 1 + i) = nI (vs.getD i 0)
theorem MR_add {c k : Nat} {t t' : Nat → Int32} {vs : List Nat} {ks : List (Nat × List Nat)} (R : MR c t ks) (hk : k < 8) (r : Row c k t t' vs) : MR (c + 1) t' (ks ++ [(k, vs)]) := by
  have hl := R.1
  refine ⟨by rw [List.length_append, R.1]; rfl, fun j hj => ?_⟩
  by_cases e : j = c
  · subst e
    refine ⟨k, vs, ?_, hk, r.2.1, fun i hi _ => r.2.2 i hi⟩
    rw [List.getElem?_append_right (by omega), hl, Nat.sub_self]
    rfl
  · obtain ⟨k', vs', h1, h2, h3, h4⟩ := R.2 j (by omega)
    refine ⟨k', vs', ?_, h2, (r.1 _ (by omega)).trans h3, fun i hi h4' => (r.1 _ (by omega)).trans (h4 i hi h4')⟩
    rw [List.getElem?_append_left (by omega)]
    exact h1
theorem cls_rel {L c p : Nat} {tx t : Nat → Int32} (T : TX L tx) (hc : c ≤ 29) (hp : p < 190) : ∃ t', ((cls (dv L tx) p 8 0 p).1 = none ∧ f_X11_commandHere tx (nI L) (nI p) t (nI c) = some (0, nI (cls (dv L tx) p 8 0 p).2, t')) ∨
    ∃ k q vs, (cls (dv L tx) p 8 0 p).1 = some (k, q, vs) ∧ f_X11_commandHere tx (nI L) (nI p) t (nI c) = some (1, nI q, t') ∧ Row c k t t' vs := by
  obtain ⟨k0, h0, h1, t', h2, h3⟩ := q_cmdM (t := t) T hc hp
  have hg := cls_gen h0 h1 8 0 p (by decide) (Nat.zero_le _) (fm_le (dv L tx) (form k0) p []).1
  refine ⟨t', ?_⟩
  cases hb : (fm (dv L tx) (form k0) p []).1 with
  | false =>
    obtain ⟨a, b⟩ := hg.2 hb
    rw [hb] at h2
    exact Or.inl ⟨a, by rw [b]; exact h2⟩
  | true =>
    rw [hb] at h2
    exact Or.inr ⟨k0, _, _, hg.1 hb, h2, h3 hb⟩
theorem q_readM {L : Nat} {tx : Nat → Int32} (T : TX L tx) : ∀ d p c (t : Nat → Int32) nn ks, c + d = 11 → d < nn → 6 * c ≤ p → p ≤ L → MR c t ks → ∃ t' x c', f_X11_isScript_L10 tx (nI L) nn (nI p) t (nI c) = some (if (rdd (dv L tx) L d p ks).1.isSome then 1 else 0, x, t', nI c') ∧ ((rdd (dv L tx) L d p ks).1 = none → x = nI (rdd (dv L tx) L d p ks).2) ∧ ∀ ks', (rdd (dv L tx) L d p ks).1 = some ks' → c' ≤ 11 ∧ MR c' t' ks' := by
  have hT := T.1
  intro d
  induction d with
  | zero => intro p c t nn ks h1 h2 h3 h4; omega
  | succ d ih =>
    intro p c t nn ks h1 h2 h3 h4 R
    obtain ⟨e, rfl⟩ : ∃ e, nn = e + 1 := ⟨nn - 1, by omega⟩
    rw [f_X11_isScript_L10, rdd]
    obtain ⟨t', hr⟩ := cls_rel (t := t) T (show c ≤ 29 by omega) (show p < 190 by omega)
    rcases hr with ⟨a1, a2⟩ | ⟨k, q, vs, a1, a2, a3⟩
    · rw [wkb3_t a2, if_pos rfl, a1]
      exact ⟨t', _, c, rfl, fun _ => rfl, fun ks' h => absurd h (by simp)⟩
    · obtain ⟨b1, b2, b3⟩ := cls_q h4 a1
      have R' := MR_add R b1 a3
      have hs : f_X11_skips tx (nI L) (nI q) 59 = _ := q_skips (c := 59) T (by omega) (by decide) (by decide)
      rw [wkb3_t a2, if_neg one_ne, wkl_t, nI_1, a1]
      show ∃ t'_1 x c', _ = some (if (if dv L tx q = 59 then rdd (dv L tx) L d (q + 1) (ks ++ [(k, vs)]) else if q = L then (some (ks ++ [(k, vs)]), q) else (none, q)).1.isSome then 1 else 0, x, t'_1, nI c') ∧ ((if dv L tx q = 59 then rdd (dv L tx) L d (q + 1) (ks ++ [(k, vs)]) else if q = L then (some (ks ++ [(k, vs)]), q) else (none, q)).1 = none → x = nI (if dv L tx q = 59 then rdd (dv L tx) L d (q + 1) (ks ++ [(k, vs)]) else if q = L then (some (ks ++ [(k, vs)]), q) else (none, q)).2) ∧ ∀ ks', (if dv L tx q = 59 then rdd (dv L tx) L d (q + 1) (ks ++ [(k, vs)]) else if q = L then (some (ks ++ [(k, vs)]), q) else (none, q)).1 = some ks' → c' ≤ 11 ∧ MR c' t'_1 ks'
      by_cases h59 : dv L tx q = 59
      · rw [if_pos h59] at hs
        rw [wkb2_t hs, if_neg one_ne, if_pos h59]
        exact ih (q + 1) (c + 1) t' e _ (by omega) (by omega) (by omega) (dv_lt (tx := tx) (by omega)) R'
      · rw [if_neg h59] at hs
        rw [wkb2_t hs, if_pos rfl, if_neg h59]
        by_cases hq : q = L
        · rw [if_pos hq, if_pos (by rw [hq])]
          exact ⟨t', _, c + 1, rfl, fun z => absurd z (by simp), fun ks' z => by
            injection z with z
            subst z
            exact ⟨by omega, R'⟩⟩
        · rw [if_neg hq, if_neg (fun z => hq ((nI_eq (by omega) (by omega)).mp z))]
          exact ⟨t', _, c + 1, rfl, fun _ => rfl, fun ks' z => absurd z (by simp)⟩
theorem L17_no (Zm : Nat) (Zn : Int32) (Zf : Nat → Int32) (nn : Nat) (x2 pos cnt : Int32) (Cm : Nat → Option Nat) (A : Nat → Int32) (z : Int32) : f_X7_read_L17 Zm Zn Zf (nn + 1) 0 x2 pos cnt Cm A z = some (pos, pos, cnt, Cm, A, z) := by
  rw [f_X7_read_L17]
  split
  · rfl
  · rfl
theorem q_readC {Zm L : Nat} {Zf tx : Nat → Int32} (X : XT Zm L Zf tx) (T : TX L tx) : ∀ d p c (A : Nat → Int32) (Cm : Nat → Option Nat) (z : Int32) nn ks, c + d = 11 → d < nn → 6 * c ≤ p → p ≤ L → CR c Cm A ks → ∃ A' Cm' z' pos c', (wkb6 (f_X7_readCommand Zm (nI L) Zf (nI p) (nI c) Cm A z) (fun r1 w2 w3 w4 w5 w6 => f_X7_read_L17 Zm (nI L) Zf nn r1 (nI (c + 1)) w2 w3 w4 w5 w6)) = some (if (rdd (dv L tx) L d p ks).1.isSome then -1 else nI (rdd (dv L tx) L d p ks).2, pos, nI c', Cm', A', z') ∧ ((rdd (dv L tx) L d p ks).1 = none → (rdd (dv L tx) L d p ks).2 ≤ 400) ∧ ∀ ks', (rdd (dv L tx) L d p ks).1 = some ks' → c' ≤ 11 ∧ CR c' Cm' A' ks' := by
  have hT := T.1
  intro d
  induction d with
  | zero => intro p c A Cm z nn ks h1 h2 h3 h4; omega
  | succ d ih =>
    intro p c A Cm z nn ks h1 h2 h3 h4 R
    obtain ⟨e, rfl⟩ : ∃ e, nn = e + 1 := ⟨nn - 1, by omega⟩
    rw [rdd]
    obtain ⟨A', z', hr⟩ := q_cmd X T (show c < 12 by omega) p (by omega) R z
    rcases hr with ⟨a1, a2⟩ | ⟨k, q, vs, Cm', a1, a2, -, a3, a4⟩
    · rw [wkb6_t a2, L17_no, a1]
      have hx : (cls (dv L tx) p 8 0 p).2 ≤ 400 := by
        obtain ⟨k0, k1, k2, -⟩ := q_cmdM (t := tx) T (show c ≤ 29 by omega) (show p < 190 by omega)
        have hl := fm_le (dv L tx) (form k0) p []
        have hl2 := (form_len k0 k1).2.1
        have hg := cls_gen k1 k2 8 0 p (by decide) (Nat.zero_le _) hl.1
        cases hb : (fm (dv L tx) (form k0) p []).1 with
        | false =>
          rw [(hg.2 hb).2]
          omega
        | true =>
          rw [hg.1 hb] at a1
          exact absurd a1 (by simp)
      exact ⟨A', Cm, z', _, c, rfl, fun _ => hx, fun ks' h => absurd h (by simp)⟩
    · obtain ⟨b1, b2, b3⟩ := cls_q h4 a1
      have hs : f_X7_readSign Zm (nI L) Zf (nI q) 59 = _ := q_sign (c := 59) X T (by omega) (by decide) (by decide)
      rw [wkb6_t a3, f_X7_read_L17, if_neg (show ¬ (12 : Int32) ≤ nI (c + 1) from nI_ge (b := 12) (by omega) (by decide)), if_neg one_ne, wkb1_t (q_lenJ _), a1]
      show ∃ A' Cm' z' pos c', _ = some (if (if dv L tx q = 59 then rdd (dv L tx) L d (q + 1) (ks ++ [(k, vs)]) else if q = L then (some (ks ++ [(k, vs)]), q) else (none, q)).1.isSome then -1 else nI (if dv L tx q = 59 then rdd (dv L tx) L d (q + 1) (ks ++ [(k, vs)]) else if q = L then (some (ks ++ [(k, vs)]), q) else (none, q)).2, pos, nI c', Cm', A', z') ∧ ((if dv L tx q = 59 then rdd (dv L tx) L d (q + 1) (ks ++ [(k, vs)]) else if q = L then (some (ks ++ [(k, vs)]), q) else (none, q)).1 = none → (if dv L tx q = 59 then rdd (dv L tx) L d (q + 1) (ks ++ [(k, vs)]) else if q = L then (some (ks ++ [(k, vs)]), q) else (none, q)).2 ≤ 400) ∧ ∀ ks', (if dv L tx q = 59 then rdd (dv L tx) L d (q + 1) (ks ++ [(k, vs)]) else if q = L then (some (ks ++ [(k, vs)]), q) else (none, q)).1 = some ks' → c' ≤ 11 ∧ CR c' Cm' A' ks'
      by_cases hq : q = L
      · have h59 : ¬ dv L tx q = 59 := by
          rw [dv_out (by omega)]
          decide
        rw [if_pos (nI_le (by omega) (by omega)), if_neg one_ne, wkb1_t (q_lenJ _), if_pos (by rw [hq]), if_neg h59, if_pos hq]
        exact ⟨A', Cm', z', _, c + 1, rfl, fun z => absurd z (by simp), fun ks' z => by
          injection z with z
          subst z
          exact ⟨by omega, a4⟩⟩
      · rw [if_neg (nI_ge (by omega) (by omega))]
        by_cases h59 : dv L tx q = 59
        · rw [if_pos h59] at hs
          obtain ⟨f, rfl⟩ : ∃ f, e = f + 1 := ⟨e - 1, by omega⟩
          rw [wkb2_t hs, if_neg one_ne, if_pos h59]
          have hcg : (wkb6 (f_X7_readCommand Zm (nI L) Zf (nI (q + 1)) (nI (c + 1)) Cm' A' z') (fun r23 w24 w25 w26 w27 w28 => if r23 = 0 then f_X7_read_L17 Zm (nI L) Zf (f + 1) 0 (nI (c + 1) + 1) w24 w25 w26 w27 w28 else f_X7_read_L17 Zm (nI L) Zf (f + 1) 1 (nI (c + 1) + 1) w24 w25 w26 w27 w28)) = (wkb6 (f_X7_readCommand Zm (nI L) Zf (nI (q + 1)) (nI (c + 1)) Cm' A' z') (fun r1 w2 w3 w4 w5 w6 => f_X7_read_L17 Zm (nI L) Zf (f + 1) r1 (nI (c + 1 + 1)) w2 w3 w4 w5 w6)) := by
            obtain ⟨A2, z2, hr2⟩ := q_cmd X T (show c + 1 < 12 by omega) (q + 1) (by omega) a4 z'
            rcases hr2 with ⟨-, y2⟩ | ⟨_, _, _, _, -, -, -, y2, -⟩
            · rw [wkb6_t y2, wkb6_t y2, if_pos rfl, nI_1]
            · rw [wkb6_t y2, wkb6_t y2, if_neg one_ne, nI_1]
          rw [hcg]
          exact ih (q + 1) (c + 1) A' Cm' z' (f + 1) _ (by omega) (by omega) (by omega) (by omega) a4
        · rw [if_neg h59] at hs
          obtain ⟨f, rfl⟩ : ∃ f, e = f + 1 := ⟨e - 1, by omega⟩
          rw [wkb2_t hs, if_pos rfl, L17_no, if_neg h59, if_neg hq]
          exact ⟨A', Cm', z', _, c + 1, rfl, fun _ => by show q ≤ 400; omega, fun ks' z => absurd z (by simp)⟩
