/-! PURE LAYER: numbers written as digits -/
def dsl : Nat → Nat → List Nat
  | 0, _ => []
  | d + 1, v => if v ≤ 9 then [48 + v] else dsl d (v / 10) ++ [48 + v % 10]
def put (A : Nat → Int32) (b : Nat) (l : List Nat) : Nat → Int32 := fun j => if b ≤ j ∧ j < b + l.length then nI (l.getD (j - b) 0) else A j
theorem getD_last {l : List Nat} {x : Nat} : (l ++ [x]).getD l.length 0 = x := by simp
theorem put_snoc (A : Nat → Int32) (b : Nat) (l : List Nat) (x : Nat) : put A b (l ++ [x]) = put (upd A (b + l.length) (nI x)) b l := by
  funext j
  unfold put
  rw [List.length_append, up_at]
  show (if b ≤ j ∧ j < b + (l.length + 1) then _ else _) = _
  by_cases h1 : b ≤ j ∧ j < b + l.length
  · rw [if_pos (by omega), if_pos h1, getD_app (by omega)]
  · rw [if_neg h1]
    by_cases h2 : j = b + l.length
    · subst h2
      rw [if_pos (by omega), if_pos rfl, Nat.add_sub_cancel_left, getD_last]
    · rw [if_neg (by omega), if_neg h2]
theorem put_end (A : Nat → Int32) (b : Nat) (l : List Nat) (x : Nat) : upd (put A b l) (b + l.length) (nI x) = put A b (l ++ [x]) := by
  rw [put_snoc]
  funext j
  rw [up_at]
  unfold put
  rw [up_at]
  by_cases h2 : j = b + l.length
  · rw [if_pos h2, if_neg (by omega), if_pos h2]
  · rw [if_neg h2, if_neg h2]
theorem put_nil (A : Nat → Int32) (b : Nat) : put A b [] = A := by
  funext j
  exact if_neg (fun h => by
    have : j < b + 0 := h.2
    omega)
theorem dsl_len : ∀ k d v, v < 10 ^ (k + 1) → (k = 0 ∨ 10 ^ k ≤ v) → k < d → (dsl d v).length = k + 1 := by
  intro k
  induction k with
  | zero =>
    intro d v h1 _ h3
    obtain ⟨e, rfl⟩ : ∃ e, d = e + 1 := ⟨d - 1, by omega⟩
    rw [dsl, if_pos (by omega)]
    rfl
  | succ k ih =>
    intro d v h1 h2 h3
    obtain ⟨e, rfl⟩ : ∃ e, d = e + 1 := ⟨d - 1, by omega⟩
    have h2 : 10 ^ (k + 1) ≤ v := h2.resolve_left (by omega)
    have hp : 0 < 10 ^ k := Nat.pow_pos (by decide)
    rw [Nat.pow_succ] at h1 h2
    have e1 : 10 ^ (k + 1) = 10 ^ k * 10 := Nat.pow_succ _ _
    rw [dsl, if_neg (by omega), List.length_append, ih e (v / 10) (by rw [Nat.pow_succ] at h1 ⊢; omega) (Or.inr (by omega)) (by omega)]
    rfl
theorem neg_nI {v : Nat} (h : v < 2 ^ 31) : (-nI v).toInt = -(v : Int) := by
  rw [Int32.toInt_neg, nI_toInt h]
  exact Int.bmod_eq_of_le (by omega) (by omega)
theorem neg_le {v w : Nat} (h : v < 2 ^ 31) (h2 : w < 2 ^ 31) : -nI v ≤ -nI w ↔ w ≤ v := by
  rw [Int32.le_iff_toInt_le, neg_nI h, neg_nI h2]
  omega
theorem neg_lt {v w : Nat} (h : v < 2 ^ 31) (h2 : w < 2 ^ 31) : -nI v < -nI w ↔ w < v := by
  rw [Int32.lt_iff_toInt_lt, neg_nI h, neg_nI h2]
  omega
theorem ten_neg (a : Nat) : (10 : Int32) * -nI a = -nI (10 * a) := by
  rw [Int32.mul_neg, show (10 : Int32) = nI 10 from rfl, pk_mul]
theorem q_size {v : Nat} (h : v < 2 ^ 31) : f_J6_stringSize_0f7a4 (nI v) = some (nI (dsl 11 v).length) := by
  unfold f_J6_stringSize_0f7a4
  rw [if_neg (nI_pos h)]
  have key : ∀ d k nn, k + d = 10 → 1 ≤ k → d < nn → (k = 1 ∨ 10 ^ (k - 1) ≤ v) → f_J6_stringSize_0f7a4_L16 nn (-nI v) 0 (-nI (10 ^ k)) (nI k) = some (nI (dsl 11 v).length) := by
    intro d
    induction d with
    | zero =>
      intro k nn h1 h2 h3 h4
      obtain ⟨q, rfl⟩ : ∃ q, nn = q + 1 := ⟨nn - 1, by omega⟩
      obtain rfl : k = 10 := by omega
      have h4 : 10 ^ 9 ≤ v := h4.resolve_left (by decide)
      rw [f_J6_stringSize_0f7a4_L16, if_pos (by decide), dsl_len 9 11 v (by omega) (Or.inr h4) (by decide)]
      rfl
    | succ d ih =>
      intro k nn h1 h2 h3 h4
      obtain ⟨q, rfl⟩ : ∃ q, nn = q + 1 := ⟨nn - 1, by omega⟩
      have hk : 10 ^ k ≤ 10 ^ 9 := Nat.pow_le_pow_right (by decide) (by omega)
      rw [f_J6_stringSize_0f7a4_L16, if_neg (show ¬ (10 : Int32) ≤ nI k from nI_ge (b := 10) (by omega) (by decide))]
      by_cases g : 10 ^ k ≤ v
      · rw [if_pos ((neg_le h (by omega)).mpr g), ten_neg, nI_1, show 10 * 10 ^ k = 10 ^ (k + 1) by rw [Nat.pow_succ, Nat.mul_comm]]
        exact ih (k + 1) q (by omega) (by omega) (by omega) (Or.inr g)
      · rw [if_neg (fun z => g ((neg_le h (by omega)).mp z)), Int32.add_zero]
        obtain ⟨j, rfl⟩ : ∃ j, k = j + 1 := ⟨k - 1, by omega⟩
        rw [dsl_len j 11 v (by omega) (by
          rcases h4 with z | z
          · exact Or.inl (by omega)
          · exact Or.inr z) (by omega)]
  exact key 9 1 FU (by decide) (by decide) (by decide) (Or.inl rfl)
theorem i32_div {v : Nat} (h : v < 2 ^ 31) (m : Nat) (h0 : 0 < m) (hm : m < 2 ^ 31) : nI v / nI m = nI (v / m) := by
  apply Int32.toInt_inj.mp
  have hv : v / m ≤ v := Nat.div_le_self _ _
  rw [Int32.toInt_div, nI_toInt h, nI_toInt hm, nI_toInt (by omega), Int.tdiv_eq_ediv_of_nonneg (by omega)]
  have hb : ((v : Int) / (m : Int)) = ((v / m : Nat) : Int) := by omega
  have hz : (0 : Int) ≤ ((v / m : Nat) : Int) := Int.natCast_nonneg _
  rw [hb]
  exact Int.bmod_eq_of_le (by omega) (by omega)
theorem neg_div {v : Nat} (h : v < 2 ^ 31) : (-nI v) / 100 = -nI (v / 100) := by
  apply Int32.toInt_inj.mp
  rw [Int32.toInt_div, neg_nI h, neg_nI (by omega), show (100 : Int32).toInt = 100 from rfl, Int.neg_tdiv, Int.tdiv_eq_ediv_of_nonneg (by omega)]
  exact Int.bmod_eq_of_le (by omega) (by omega)
theorem neg_mod {v : Nat} (h : v < 2 ^ 31) : ((-nI v) / 100 * 100) - (-nI v) = nI (v % 100) := by
  rw [neg_div h, Int32.neg_mul, show (100 : Int32) = nI 100 from rfl, pk_mul, Int32.sub_neg, Int32.add_comm, ← Int32.sub_eq_add_neg, pk_sub (by omega)]
  congr 1
  omega
theorem sOT : ∀ j, j < 100 → vp_nar .byte (sOne j) = nI (48 + j % 10) ∧ vp_nar .byte (sTen j) = nI (48 + j / 10) := by decide +kernel
theorem m1 (e : Nat) (h : 1 ≤ e) : nI e + (-1) = nI (e - 1) := by
  rw [← Int32.sub_eq_add_neg, show (1 : Int32) = nI 1 from rfl, pk_sub h]
theorem q_chars {Am : Nat} {x1 : Int32} (hA : Am ≤ 142) : ∀ d v e nn (A : Nat → Int32), v < 2 ^ 31 → v < 10 ^ d → 0 < d → d < nn → (dsl d v).length ≤ e → e ≤ Am → f_J6_getChars_ba4f3_L22 Am x1 nn (-nI v) (nI e) 0 A = some (nI (e - (dsl d v).length), put A (e - (dsl d v).length) (dsl d v)) := by
  intro d
  induction d using Nat.strongRecOn with
  | _ d ih =>
    intro v e nn A h1 h2 h3 h4 h5 h6
    obtain ⟨q, rfl⟩ : ∃ q, nn = q + 1 := ⟨nn - 1, by omega⟩
    obtain ⟨d1, rfl⟩ : ∃ d1, d = d1 + 1 := ⟨d - 1, by omega⟩
    have h100 : ((-100) : Int32) = -nI 100 := rfl
    have h9 : ((-9) : Int32) = -nI 9 := rfl
    rw [f_J6_getChars_ba4f3_L22]
    by_cases c1 : v < 100
    · obtain ⟨s1, s2⟩ := sOT v c1
      rw [if_pos (by rw [h100, neg_lt (by decide) h1]; exact c1), Int32.neg_neg]
      by_cases c2 : v ≤ 9
      · rw [dsl, if_pos c2] at h5 ⊢
        have h5 : 1 ≤ e := h5
        rw [gin_t (vp_in_nI (by omega) (by decide)), m1 e h5, gin_t (vp_in_nI (by omega) (by omega)), wkl_t, nI_clamp (by omega), nI_clamp (by omega), if_pos (by rw [h9, neg_le (by decide) h1]; exact c2), if_pos rfl, s1]
        show some (nI (e - 1), upd A (e - 1) (nI (48 + v % 10))) = some (nI (e - 1), put A (e - 1) ([] ++ [48 + v]))
        rw [put_snoc, put_nil, Nat.mod_eq_of_lt (by omega)]
        rfl
      · have hd1 : d1 ≠ 0 := fun z => by subst z; omega
        obtain ⟨d2, rfl⟩ : ∃ d2, d1 = d2 + 1 := ⟨d1 - 1, by omega⟩
        have hds : dsl (d2 + 1 + 1) v = [] ++ [48 + v / 10] ++ [48 + v % 10] := by
          rw [dsl, if_neg c2, dsl, if_pos (by omega)]
          rfl
        rw [hds] at h5 ⊢
        have h5 : 2 ≤ e := h5
        rw [gin_t (vp_in_nI (by omega) (by decide)), m1 e (by omega), gin_t (vp_in_nI (by omega) (by omega)), wkl_t, if_neg (by rw [h9, neg_le (by decide) h1]; exact c2), gin_t (vp_in_nI (by omega) (by decide)), m1 (e - 1) (by omega), gin_t (vp_in_nI (by omega) (by omega)), wkl_t, if_pos rfl, nI_clamp (by omega), nI_clamp (by omega), nI_clamp (by omega), s1, s2]
        show some (nI (e - 1 - 1), _) = some (nI (e - 2), put A (e - 2) ([] ++ [48 + v / 10] ++ [48 + v % 10]))
        rw [put_snoc, put_snoc, put_nil, show e - 1 - 1 = e - 2 by omega]
        show some (nI (e - 2), upd (upd A (e - 1) _) (e - 2) _) = some (nI (e - 2), upd (upd A (e - 2 + 1) _) (e - 2 + 0) _)
        rw [show e - 2 + 1 = e - 1 by omega, Nat.add_zero]
    · have hd1 : 2 ≤ d1 := by
        rcases Nat.lt_or_ge d1 2 with z | z
        · have : 10 ^ (d1 + 1) ≤ 10 ^ 2 := Nat.pow_le_pow_right (by decide) (by omega)
          omega
        · exact z
      obtain ⟨d2, rfl⟩ : ∃ d2, d1 = d2 + 1 := ⟨d1 - 1, by omega⟩
      have hds : dsl (d2 + 1 + 1) v = dsl d2 (v / 100) ++ [48 + v / 10 % 10] ++ [48 + v % 10] := by
        rw [dsl, if_neg (by omega), dsl, if_neg (by omega), Nat.div_div_eq_div_mul]
      rw [hds] at h5 ⊢
      have hl : (dsl d2 (v / 100) ++ [48 + v / 10 % 10] ++ [48 + v % 10]).length = (dsl d2 (v / 100)).length + 2 := by
        rw [List.length_append, List.length_append]
        rfl
      rw [hl] at h5 ⊢
      obtain ⟨s1, s2⟩ := sOT (v % 100) (by omega)
      have hp : (10 : Nat) ^ (d2 + 1 + 1) = 10 ^ d2 * 100 := by
        rw [Nat.pow_succ, Nat.pow_succ, Nat.mul_assoc]
      rw [if_neg (by rw [h100, neg_lt (by decide) h1]; exact c1), neg_mod h1, gin_t (vp_in_nI (by omega) (by decide)), m1 e (by omega), gin_t (vp_in_nI (by omega) (by omega)), wkl_t, gin_t (vp_in_nI (by omega) (by decide)), m1 (e - 1) (by omega), gin_t (vp_in_nI (by omega) (by omega)), wkl_t, nI_clamp (by omega), nI_clamp (by omega), nI_clamp (by omega), s1, s2, neg_div h1, ih d2 (by omega) (v / 100) (e - 1 - 1) q _ (by omega) (by rw [hp] at h2; omega) (by omega) (by omega) (by omega) (by omega), put_snoc, put_snoc, List.length_append]
      have e1 : e - 1 - 1 - (dsl d2 (v / 100)).length = e - ((dsl d2 (v / 100)).length + 2) := by omega
      have e2 : e - ((dsl d2 (v / 100)).length + 2) + ((dsl d2 (v / 100)).length + [48 + v / 10 % 10].length) = e - 1 := by
        show e - ((dsl d2 (v / 100)).length + 2) + ((dsl d2 (v / 100)).length + 1) = e - 1
        omega
      have e3 : e - ((dsl d2 (v / 100)).length + 2) + (dsl d2 (v / 100)).length = e - 1 - 1 := by omega
      rw [e1, e2, e3, show v % 100 % 10 = v % 10 by omega, show v % 100 / 10 = v / 10 % 10 by omega]
/-! the reference's signs -/
theorem nar_char : ∀ x, x < 128 → vp_nar .char (((nI x).toUInt32 % 65536).toInt32) = nI x := by decide +kernel
theorem q_writes {n x : Nat} {sg : Nat → Int32} (hn : n < 100) (hx : x < 128) : f_X11_writes sg (nI n) (nI x) = some (upd sg n (nI x), nI (n + 1)) := by
  unfold f_X11_writes
  rw [gin_t (vp_in_nI (by omega) (by decide)), wkl_t, wkl_t, nI_clamp (by omega), nar_char x hx, nI_1]
theorem dsl_pos (d v : Nat) (h : 0 < d) : 1 ≤ (dsl d v).length := by
  obtain ⟨e, rfl⟩ : ∃ e, d = e + 1 := ⟨d - 1, by omega⟩
  rw [dsl]
  split
  · exact Nat.le_refl _
  · rw [List.length_append]
    exact Nat.le_add_left _ _
theorem q_wnum : ∀ d v n (sg : Nat → Int32), v < 2 ^ 31 → v < 10 ^ d → 0 < d → n + (dsl d v).length ≤ 100 → f_X11_writesNumber d (nI v) sg (nI n) = some (put sg n (dsl d v), nI (n + (dsl d v).length)) := by
  intro d
  induction d with
  | zero => intro v n sg _ _ h; omega
  | succ d ih =>
    intro v n sg h1 h2 h3 h4
    have hm : nI v - nI v / 10 * 10 = nI (v % 10) := by
      rw [show (10 : Int32) = nI 10 from rfl, i32_div h1 10 (by decide) (by decide), pk_mul, pk_sub (by omega)]
      congr 1
      omega
    rw [f_X11_writesNumber, f_X11_writesNumberb, hm, show (48 : Int32) + nI (v % 10) = nI (48 + v % 10) from by rw [show (48 : Int32) = nI 48 from rfl, nI_add]]
    by_cases c : v ≤ 9
    · rw [dsl, if_pos c] at h4 ⊢
      have h4 : n + 1 ≤ 100 := h4
      rw [if_pos (show nI v ≤ (9 : Int32) from nI_le (b := 9) c (by decide)), wkb2_t (q_writes (by omega) (by omega))]
      show some (upd sg n (nI (48 + v % 10)), nI (n + 1)) = some (put sg n ([] ++ [48 + v]), nI (n + 1))
      rw [put_snoc, put_nil, Nat.mod_eq_of_lt (by omega)]
      rfl
    · have hd : 0 < d := by
        rcases Nat.eq_zero_or_pos d with z | z
        · subst z
          omega
        · exact z
      rw [dsl, if_neg c, List.length_append] at h4 ⊢
      have h4 : n + ((dsl d (v / 10)).length + 1) ≤ 100 := h4
      have hp : (10 : Nat) ^ (d + 1) = 10 ^ d * 10 := Nat.pow_succ _ _
      rw [if_neg (show ¬ nI v ≤ (9 : Int32) from nI_ge (a := 9) (by omega) h1), show nI v / 10 = nI (v / 10) from i32_div h1 10 (by decide) (by decide), wkb2_t (ih (v / 10) n sg (by omega) (by omega) hd (by omega)), wkb2_t (q_writes (by omega) (by omega)), put_end]
      rfl
