/-! PURE LAYER: the books -/
theorem up_at {f : Nat → Int32} {k j : Nat} {x : Int32} : upd f k x j = if j = k then x else f j := rfl
def gb (g : Nat → Int32) (k : Nat) : Int := (g (36 + k)).toInt
/-- sums over the journal -/
def js (g : Nat → Int32) (off k : Nat) : Nat → Int32
  | 0 => 0
  | i + 1 => if g (58 + 3 * i + off) = nI k then js g off k i + g (58 + 3 * i + 2) else js g off k i
theorem js_congr {g g' : Nat → Int32} {off k e : Nat} (h : ∀ i, i < e → g' (58 + 3 * i + off) = g (58 + 3 * i + off) ∧ g' (58 + 3 * i + 2) = g (58 + 3 * i + 2)) : js g' off k e = js g off k e := by
  induction e with
  | zero => rfl
  | succ e ih =>
    rw [js, js, ih (fun i hi => h i (by omega)), (h e (by omega)).1, (h e (by omega)).2]
/-- what holds of the books -/
def gB (n e Bd : Nat) (g : Nat → Int32) : Prop :=
  (n ≤ 6 ∧ e ≤ 60 ∧ Bd < 2 ^ 30 ∧ g 3 = nI e) ∧ (0 ≤ gb g 0 ∧ 0 ≤ gb g 1 ∧ sB 11 (gb g) (fun _ => true) = 0 ∧ sab 11 (gb g) ≤ Bd ∧ ∀ k, 5 + n ≤ k → k < 11 → g (36 + k) = 0) ∧
  (∀ k, k < e → (∃ d, d < 5 + n ∧ g (58 + 3 * k) = nI d) ∧ (∃ c, c < 5 + n ∧ g (58 + 3 * k + 1) = nI c) ∧ ∃ a, 0 < a ∧ a < 2 ^ 30 ∧ g (58 + 3 * k + 2) = nI a) ∧
  ∀ k, k < 11 → g (36 + k) = g (47 + k) + js g 0 k e - js g 1 k e
def RB (n e : Nat) (Ba : Int32) (B Bo : Nat → Int32) (Be : Int32) (D C A : Nat → Int32) (g : Nat → Int32) : Prop :=
  Be = nI e ∧ Ba = nI (5 + n) ∧ (∀ k, k < 11 → B k = g (36 + k) ∧ Bo k = g (47 + k)) ∧ ∀ k, k < e → D k = g (58 + 3 * k) ∧ C k = g (58 + 3 * k + 1) ∧ A k = g (58 + 3 * k + 2)
def bkg (g : Nat → Int32) (d c : Nat) (a : Int32) (e : Nat) : Nat → Int32 :=
  upd (upd (upd (upd (upd (upd g (58 + 3 * e) (nI d)) (58 + 3 * e + 1) (nI c)) (58 + 3 * e + 2) a) 3 (nI (e + 1))) (36 + d) (g (36 + d) + a)) (36 + c) (g (36 + c) - a)
theorem bkg_at {g : Nat → Int32} {d c e j : Nat} {a : Int32} : bkg g d c a e j = if j = 36 + c then g (36 + c) - a else if j = 36 + d then g (36 + d) + a else if j = 3 then nI (e + 1) else if j = 58 + 3 * e + 2 then a else if j = 58 + 3 * e + 1 then nI c else if j = 58 + 3 * e then nI d else g j := rfl
theorem bkg_lo {g : Nat → Int32} {d c e j : Nat} {a : Int32} (h : j < 36) (h3 : j ≠ 3) : bkg g d c a e j = g j := by
  rw [bkg_at, if_neg (by omega), if_neg (by omega), if_neg h3, if_neg (by omega), if_neg (by omega), if_neg (by omega)]
theorem bkg_3 {g : Nat → Int32} {d c e : Nat} {a : Int32} : bkg g d c a e 3 = nI (e + 1) := by
  rw [bkg_at, if_neg (by omega), if_neg (by omega), if_pos rfl]
theorem bkg_o {g : Nat → Int32} {d c e k : Nat} {a : Int32} (hd : d < 11) (hc : c < 11) (hk : k < 11) : bkg g d c a e (47 + k) = g (47 + k) := by
  rw [bkg_at, if_neg (by omega), if_neg (by omega), if_neg (by omega), if_neg (by omega), if_neg (by omega), if_neg (by omega)]
theorem bkg_b {g : Nat → Int32} {d c e k : Nat} {a : Int32} (hk : k < 11) : bkg g d c a e (36 + k) = if k = c then g (36 + c) - a else if k = d then g (36 + d) + a else g (36 + k) := by
  rw [bkg_at]
  by_cases h1 : k = c
  · rw [if_pos (by omega), if_pos h1]
  · rw [if_neg (by omega), if_neg h1]
    by_cases h2 : k = d
    · rw [if_pos (by omega), if_pos h2]
    · rw [if_neg (by omega), if_neg h2, if_neg (by omega), if_neg (by omega), if_neg (by omega), if_neg (by omega)]
theorem bkg_j {g : Nat → Int32} {d c e i : Nat} {a : Int32} (o : Nat) (ho : o < 3) (hd : d < 11) (hc : c < 11) (hi : i < e) : bkg g d c a e (58 + 3 * i + o) = g (58 + 3 * i + o) := by
  rw [bkg_at, if_neg (by omega), if_neg (by omega), if_neg (by omega), if_neg (by omega), if_neg (by omega), if_neg (by omega)]
theorem bkg_e0 {g : Nat → Int32} {d c e : Nat} {a : Int32} (hd : d < 11) (hc : c < 11) : bkg g d c a e (58 + 3 * e) = nI d := by
  rw [bkg_at, if_neg (by omega), if_neg (by omega), if_neg (by omega), if_neg (by omega), if_neg (by omega), if_pos rfl]
theorem bkg_e1 {g : Nat → Int32} {d c e : Nat} {a : Int32} (hd : d < 11) (hc : c < 11) : bkg g d c a e (58 + 3 * e + 1) = nI c := by
  rw [bkg_at, if_neg (by omega), if_neg (by omega), if_neg (by omega), if_neg (by omega), if_pos rfl]
theorem bkg_e2 {g : Nat → Int32} {d c e : Nat} {a : Int32} (hd : d < 11) (hc : c < 11) : bkg g d c a e (58 + 3 * e + 2) = a := by
  rw [bkg_at, if_neg (by omega), if_neg (by omega), if_neg (by omega), if_pos rfl]
theorem q_books {g : Nat → Int32} {d c e : Nat} {a : Int32} (hg : g 3 = nI e) (he : e < 60) (hd : d < 11) (hc : c < 11) (hdc : d ≠ c) (ha : ¬ a = 0) : f_X11_books g (nI d) (nI c) a = some (bkg g d c a e) := by
  unfold f_X11_books
  have e0 : ((58 : Int32) + (3 * nI e)) + 0 = nI (58 + 3 * e) := by
    rw [show (3 : Int32) = nI 3 from rfl, show (58 : Int32) = nI 58 from rfl, show (0 : Int32) = nI 0 from rfl, pk_mul, nI_add, nI_add, Nat.add_zero]
  have e1 : ((58 : Int32) + (3 * nI e)) + 1 = nI (58 + 3 * e + 1) := by
    rw [show (3 : Int32) = nI 3 from rfl, show (58 : Int32) = nI 58 from rfl, pk_mul, nI_add, nI_1]
  have e2 : ((58 : Int32) + (3 * nI e)) + 2 = nI (58 + 3 * e + 2) := by
    rw [show (3 : Int32) = nI 3 from rfl, show (58 : Int32) = nI 58 from rfl, show (2 : Int32) = nI 2 from rfl, pk_mul, nI_add, nI_add]
  have ed : (36 : Int32) + nI d = nI (36 + d) := by rw [show (36 : Int32) = nI 36 from rfl, nI_add]
  have ec : (36 : Int32) + nI c = nI (36 + c) := by rw [show (36 : Int32) = nI 36 from rfl, nI_add]
  rw [if_neg ha, hg]
  simp only [e0, e1, e2, ed, ec, gin_t (show vp_in (nI (58 + 3 * e)) 238 from vp_in_nI (by omega) (by decide)), gin_t (show vp_in (nI (58 + 3 * e + 1)) 238 from vp_in_nI (by omega) (by decide)), gin_t (show vp_in (nI (58 + 3 * e + 2)) 238 from vp_in_nI (by omega) (by decide)), gin_t (show vp_in (nI (36 + d)) 238 from vp_in_nI (by omega) (by decide)), gin_t (show vp_in (nI (36 + c)) 238 from vp_in_nI (by omega) (by decide)), wkl_t, nI_clamp (show 58 + 3 * e < 2 ^ 31 by omega), nI_clamp (show 58 + 3 * e + 1 < 2 ^ 31 by omega), nI_clamp (show 58 + 3 * e + 2 < 2 ^ 31 by omega), nI_clamp (show 36 + d < 2 ^ 31 by omega), nI_clamp (show 36 + c < 2 ^ 31 by omega)]
  congr 1
  unfold bkg
  have k3 : upd (upd (upd g (58 + 3 * e) (nI d)) (58 + 3 * e + 1) (nI c)) (58 + 3 * e + 2) a 3 = nI e := by
    rw [pk_un (by omega), pk_un (by omega), pk_un (by omega), hg]
  have kd : ∀ x, upd (upd (upd (upd g (58 + 3 * e) (nI d)) (58 + 3 * e + 1) (nI c)) (58 + 3 * e + 2) a) 3 x (36 + d) = g (36 + d) := fun x => by
    rw [pk_un (by omega), pk_un (by omega), pk_un (by omega), pk_un (by omega)]
  have kc : ∀ x y, upd (upd (upd (upd (upd g (58 + 3 * e) (nI d)) (58 + 3 * e + 1) (nI c)) (58 + 3 * e + 2) a) 3 x) (36 + d) y (36 + c) = g (36 + c) := fun x y => by
    rw [pk_un (by omega), pk_un (by omega), pk_un (by omega), pk_un (by omega), pk_un (by omega)]
  rw [k3, nI_1, kd, kc]
theorem q_bookC {n d c e : Nat} {Ba : Int32} {B Bo D C A g : Nat → Int32} {Be a : Int32} (R : RB n e Ba B Bo Be D C A g) (he : e < 60) (hd : d < 11) (hc : c < 11) (hdc : d ≠ c) :
    ∃ B' D' C' A', f_X2_book B Be D C A (nI d) (nI c) a = some (Be, B', nI (e + 1), D', C', A') ∧ RB n (e + 1) Ba B' Bo (nI (e + 1)) D' C' A' (bkg g d c a e) := by
  obtain ⟨r1, r2, r3, r4⟩ := R
  subst r1
  unfold f_X2_book
  simp only [gin_t (show vp_in (nI e) 60 from vp_in_nI (by omega) (by decide)), gin_t (show vp_in (nI d) 11 from vp_in_nI (by omega) (by decide)), gin_t (show vp_in (nI c) 11 from vp_in_nI (by omega) (by decide)), wkl_t, nI_clamp (show e < 2 ^ 31 by omega), nI_clamp (show d < 2 ^ 31 by omega), nI_clamp (show c < 2 ^ 31 by omega), nI_1]
  refine ⟨_, _, _, _, rfl, rfl, r2, fun k hk => ⟨?_, ?_⟩, fun k hk => ?_⟩
  · rw [bkg_b hk]
    by_cases h1 : k = c
    · subst h1
      rw [pk_us, pk_un (fun e => hdc e.symm), if_pos rfl, (r3 k hk).1]
    · rw [pk_un h1, if_neg h1]
      by_cases h2 : k = d
      · subst h2
        rw [pk_us, if_pos rfl, (r3 k hk).1]
      · rw [pk_un h2, if_neg h2]
        exact (r3 k hk).1
  · rw [bkg_o hd hc hk]
    exact (r3 k hk).2
  · by_cases h : k = e
    · subst h
      rw [pk_us, pk_us, pk_us, bkg_e0 hd hc, bkg_e1 hd hc, bkg_e2 hd hc]
      exact ⟨rfl, rfl, rfl⟩
    · rw [pk_un h, pk_un h, pk_un h]
      have h0 := bkg_j (g := g) (d := d) (c := c) (e := e) (i := k) (a := a) 0 (by decide) hd hc (by omega)
      rw [Nat.add_zero] at h0
      rw [h0, bkg_j 1 (by decide) hd hc (by omega), bkg_j 2 (by decide) hd hc (by omega)]
      exact r4 k (by omega)
theorem sB_off {A : Nat} {b b' : Nat → Int} {a : Nat} (ha : a < A) (h : ∀ k, k < A → k ≠ a → b' k = b k) : sB A b' (fun _ => true) = sB A b (fun _ => true) + (b' a - b a) := by
  induction A with
  | zero => omega
  | succ A ih =>
    rw [sB_s, sB_s]
    simp only [if_true]
    by_cases e : a = A
    · subst e
      have : sB a b' (fun _ => true) = sB a b (fun _ => true) := by
        clear ih ha
        induction a with
        | zero => rfl
        | succ a ih =>
          rw [sB_s, sB_s, ih (fun k hk hne => h k (by omega) (by omega)), h a (by omega) (by omega)]
      omega
    · have := ih (by omega) (fun k hk hne => h k (by omega) hne)
      have := h A (by omega) (by omega)
      omega
theorem add_toInt {x : Int32} {a : Nat} (h : x.toInt.natAbs < 2 ^ 30) (ha : a < 2 ^ 30) : (x + nI a).toInt = x.toInt + a := by
  rw [Int32.toInt_add, nI_toInt (by omega)]
  exact Int.bmod_eq_of_le (by omega) (by omega)
theorem sub_toInt {x : Int32} {a : Nat} (h : x.toInt.natAbs < 2 ^ 30) (ha : a < 2 ^ 30) : (x - nI a).toInt = x.toInt - a := by
  rw [Int32.toInt_sub, nI_toInt (by omega)]
  exact Int.bmod_eq_of_le (by omega) (by omega)
theorem gb_abs {n e Bd : Nat} {g : Nat → Int32} (G : gB n e Bd g) {k : Nat} (hk : k < 11) : (gb g k).natAbs ≤ Bd := by
  have := sm_ge (n := 11) (fun k => (gb g k).natAbs) hk
  have := G.2.1.2.2.2.1
  unfold sab at this
  omega
theorem gb_bkg {n e Bd : Nat} {g : Nat → Int32} (G : gB n e Bd g) {d c a k : Nat} (hd : d < 11) (hc : c < 11) (hdc : d ≠ c) (ha : a < 2 ^ 30) (hk : k < 11) : gb (bkg g d c (nI a) e) k = if k = c then gb g c - a else if k = d then gb g d + a else gb g k := by
  have h1 := gb_abs G hd
  have h2 := gb_abs G hc
  have h3 := G.1.2.2.1
  unfold gb at *
  rw [bkg_b hk]
  split
  · exact sub_toInt (by omega) ha
  · split
    · exact add_toInt (by omega) ha
    · rfl
theorem i32_1 (o jd jc a : Int32) : o + jd - jc + a = o + (jd + a) - jc := by
  rw [Int32.sub_eq_add_neg, Int32.sub_eq_add_neg]
  rw [Int32.add_assoc (o + jd), Int32.add_comm (-jc) a, ← Int32.add_assoc (o + jd), Int32.add_assoc o jd a]
theorem i32_2 (o jd jc a : Int32) : o + jd - jc - a = o + jd - (jc + a) := by
  rw [Int32.sub_sub]
theorem gB_book {n e Bd x : Nat} {g : Nat → Int32} (G : gB n e Bd g) {d c a : Nat} (he : e < 60) (hd : d < 5 + n) (hc : c < 5 + n) (hdc : d ≠ c) (ha0 : 0 < a) (ha : a < 2 ^ 30) (hcov : c = 0 ∨ c = 1 → (a : Int) ≤ gb g c) (hx : Bd + x < 2 ^ 30)
    (hb : (gb g d + a).natAbs + (gb g c - a).natAbs ≤ (gb g d).natAbs + (gb g c).natAbs + x) : gB n (e + 1) (Bd + x) (bkg g d c (nI a) e) := by
  obtain ⟨⟨g1, g2, g3, g4⟩, ⟨g5, g6, g7, g8, g9⟩, g10, g11⟩ := id G
  have hd' : d < 11 := by omega
  have hc' : c < 11 := by omega
  have hgb := fun k hk => gb_bkg G (a := a) (k := k) hd' hc' hdc ha hk
  refine ⟨⟨g1, by omega, hx, bkg_3⟩, ⟨?_, ?_, ?_, ?_, fun k h1 h2 => ?_⟩, fun k hk => ?_, fun k hk => ?_⟩
  · rw [hgb 0 (by decide)]
    by_cases h1 : 0 = c
    · rw [if_pos h1]
      have := hcov (Or.inl h1.symm)
      omega
    · rw [if_neg h1]
      by_cases h2 : 0 = d
      · rw [if_pos h2, ← h2]; omega
      · rw [if_neg h2]; exact g5
  · rw [hgb 1 (by decide)]
    by_cases h1 : 1 = c
    · rw [if_pos h1]
      have := hcov (Or.inr h1.symm)
      omega
    · rw [if_neg h1]
      by_cases h2 : 1 = d
      · rw [if_pos h2, ← h2]; omega
      · rw [if_neg h2]; exact g6
  · have s1 := sB_off (A := 11) (b := gb g) (b' := fun k => if k = d then gb g d + a else gb g k) (a := d) hd' (fun k _ hne => if_neg hne)
    have s2 := sB_off (A := 11) (b := fun k => if k = d then gb g d + a else gb g k) (b' := gb (bkg g d c (nI a) e)) (a := c) hc' (fun k hk hne => by rw [hgb k hk, if_neg hne])
    rw [hgb c hc'] at s2
    simp only [if_true, if_neg (fun e => hdc (Eq.symm e) : ¬ c = d)] at s1 s2
    omega
  · have s1 := sm_off (n := 11) (a := d) (f := fun k => (gb g k).natAbs) (g := fun k => (if k = d then gb g d + a else gb g k).natAbs) hd' (fun k _ hne => by rw [if_neg hne])
    have s2 := sm_off (n := 11) (a := c) (f := fun k => (if k = d then gb g d + a else gb g k).natAbs) (g := fun k => (gb (bkg g d c (nI a) e) k).natAbs) hc' (fun k hk hne => by rw [hgb k hk, if_neg hne])
    simp only [hgb c hc', if_true, if_neg (fun e => hdc (Eq.symm e) : ¬ c = d)] at s1 s2
    unfold sab at *
    omega
  · rw [bkg_b h2, if_neg (by omega), if_neg (by omega)]
    exact g9 k h1 h2
  · by_cases h : k = e
    · subst h
      rw [bkg_e0 hd' hc', bkg_e1 hd' hc', bkg_e2 hd' hc']
      exact ⟨⟨d, hd, rfl⟩, ⟨c, hc, rfl⟩, a, ha0, ha, rfl⟩
    · have h0 := bkg_j (g := g) (d := d) (c := c) (e := e) (i := k) (a := nI a) 0 (by decide) hd' hc' (by omega)
      rw [Nat.add_zero] at h0
      rw [h0, bkg_j 1 (by decide) hd' hc' (by omega), bkg_j 2 (by decide) hd' hc' (by omega)]
      exact g10 k (by omega)
  · have j0 : js (bkg g d c (nI a) e) 0 k e = js g 0 k e := js_congr (fun i hi => ⟨bkg_j 0 (by decide) hd' hc' hi, bkg_j 2 (by decide) hd' hc' hi⟩)
    have j1 : js (bkg g d c (nI a) e) 1 k e = js g 1 k e := js_congr (fun i hi => ⟨bkg_j 1 (by decide) hd' hc' hi, bkg_j 2 (by decide) hd' hc' hi⟩)
    rw [js, js, j0, j1, bkg_o hd' hc' hk, bkg_b hk, Nat.add_zero, bkg_e0 hd' hc', bkg_e1 hd' hc', bkg_e2 hd' hc']
    simp only [nI_eq (show d < 2 ^ 31 by omega) (show k < 2 ^ 31 by omega), nI_eq (show c < 2 ^ 31 by omega) (show k < 2 ^ 31 by omega)]
    have hk0 := g11 k hk
    by_cases h1 : k = c
    · subst h1
      rw [if_pos rfl, if_neg hdc, if_pos rfl, hk0, i32_2]
    · rw [if_neg h1, if_neg (fun z : c = k => h1 z.symm)]
      by_cases h2 : k = d
      · subst h2
        rw [if_pos rfl, if_pos rfl, hk0, i32_1]
      · rw [if_neg h2, if_neg (fun z : d = k => h2 z.symm)]
        exact hk0
theorem gA_bkg {n d c e : Nat} {a : Int32} {g : Nat → Int32} (G : gA n g) : gA n (bkg g d c a e) ∧ gW (bkg g d c a e) = gW g ∧ gS (bkg g d c a e) = gS g ∧ gH (bkg g d c a e) = gH g ∧ gC (bkg g d c a e) = gC g ∧ gF (bkg g d c a e) = gF g := by
  have e1 : gW (bkg g d c a e) = gW g := gW_cg (fun k hk => bkg_lo (by omega) (by omega))
  have e2 : gS (bkg g d c a e) = gS g := gS_cg (fun k hk => bkg_lo (by omega) (by omega))
  have e3 : gH (bkg g d c a e) = gH g := gH_cg (fun k hk => bkg_lo (by omega) (by omega))
  have e4 : gC (bkg g d c a e) = gC g := gC_cg (fun k hk => bkg_lo (by omega) (by omega))
  have e5 : gF (bkg g d c a e) = gF g := gF_cg (fun k hk => bkg_lo (by omega) (by omega))
  refine ⟨⟨G.1, by rw [bkg_lo (by decide) (by decide)]; exact G.2.1, fun k hk => ?_⟩, e1, e2, e3, e4, e5⟩
  have hn := G.1
  rw [e1, e2, e3, e4, e5, bkg_lo (by omega) (by omega), bkg_lo (by omega) (by omega), bkg_lo (by omega) (by omega), bkg_lo (by omega) (by omega), bkg_lo (by omega) (by omega)]
  exact G.2.2 k hk
