/-! PURE LAYER: the output text -/
def CAP (Zm : Nat) : Prop := Zm = 16 ∨ Zm = 34 ∨ Zm = 70 ∨ Zm = 142
def BY (Zm : Nat) (Zf : Nat → Int32) : Prop := ∀ j, j < Zm → ∃ v, v < 127 ∧ Zf j = nI v
theorem CAP_le {Zm : Nat} (h : CAP Zm) : 16 ≤ Zm ∧ Zm ≤ 142 := by
  unfold CAP at h
  omega
theorem fit1 : ∀ v, v < 127 → fits .byte (.int (nI v)) = true := by decide +kernel
theorem nc16 : ∀ n, n < 101 → 16 < n → n ≤ 28 → f_J5_newCapacity_0f7a4 16 (nI n) = some (nI 34) := by decide +kernel
theorem nc34 : ∀ n, n < 101 → 34 < n → n ≤ 46 → f_J5_newCapacity_0f7a4 34 (nI n) = some (nI 70) := by decide +kernel
theorem nc70 : ∀ n, n < 101 → 70 < n → n ≤ 82 → f_J5_newCapacity_0f7a4 70 (nI n) = some (nI 142) := by decide +kernel
theorem q_cpOf {Zm c2 : Nat} {Zf : Nat → Int32} (hB : BY Zm Zf) (h1 : Zm < c2) (h2 : c2 ≤ 142) : f_J7_copyOf_9075b Zm Zf (nI c2) = some (c2, va_cpy Zf (fun _ => 0) 0 0 Zm) ∧ BY c2 (va_cpy Zf (fun _ => 0) 0 0 Zm) := by
  constructor
  · unfold f_J7_copyOf_9075b
    have e : Int32.ofNat Zm = nI Zm := rfl
    have hm : (if nI c2 < nI Zm then nI c2 else nI Zm) = nI Zm := if_neg (Int32.not_lt.mpr (nI_le (by omega) (by omega)))
    rw [e, if_neg (fun z => by have := (nI_eq (by omega) (by omega)).mp z; omega), hm, nI_clamp (by omega), nI_clamp (by omega), gok_t' ⟨nI_pos (by omega), h2⟩, gok_t' ⟨nI_pos (by omega), Nat.le_refl _, by omega, fun j hj => by
      obtain ⟨v, v1, v2⟩ := hB j hj
      rw [v2]
      exact fit1 v v1⟩, wkl_t]
  · intro j hj
    show ∃ v, v < 127 ∧ (if 0 ≤ j ∧ j < 0 + Zm then Zf (0 + (j - 0)) else 0) = nI v
    by_cases h : j < Zm
    · rw [if_pos (by omega), Nat.zero_add, Nat.sub_zero]
      exact hB j h
    · rw [if_neg (by omega)]
      exact ⟨0, by decide, rfl⟩
theorem q_ens {Zm len need : Nat} {Zf : Nat → Int32} (hC : CAP Zm) (hB : BY Zm Zf) (h1 : len ≤ Zm) (h2 : need ≤ len + 12) (h3 : need ≤ 100) : ∃ Zm' Zf', f_J5_ensureCapacityInternal_d00df Zm Zf (nI need) = some (Zm', Zf') ∧ CAP Zm' ∧ BY Zm' Zf' ∧ need ≤ Zm' ∧ Zm ≤ Zm' ∧ ∀ k, k < len → Zf' k = Zf k := by
  have hle := CAP_le hC
  have hsh : ∀ c, c < 143 → nI c <<< (0 &&& 31) = nI c := by decide +kernel
  unfold f_J5_ensureCapacityInternal_d00df
  rw [sh0 Zm (by omega)]
  have tn : (nI need).toInt = need := nI_toInt (by omega)
  have tz : (nI Zm).toInt = Zm := nI_toInt (by omega)
  have ts : (nI need - nI Zm).toInt = (need : Int) - Zm := by
    rw [Int32.toInt_sub, tn, tz]
    exact Int.bmod_eq_of_le (by omega) (by omega)
  by_cases g : need ≤ Zm
  · rw [if_pos (by rw [Int32.le_iff_toInt_le, ts]; show (need : Int) - Zm ≤ 0; omega)]
    exact ⟨Zm, Zf, rfl, hC, hB, g, Nat.le_refl _, fun _ _ => rfl⟩
  · rw [if_neg (by rw [Int32.le_iff_toInt_le, ts]; show ¬ (need : Int) - Zm ≤ 0; omega)]
    have go : ∀ c2, f_J5_newCapacity_0f7a4 Zm (nI need) = some (nI c2) → Zm < c2 → CAP c2 → need ≤ c2 → ∃ Zm' Zf', (wkb1 (f_J5_newCapacity_0f7a4 Zm (nI need)) (fun r2 => wkb2 (f_J7_copyOf_9075b Zm Zf (r2 <<< (0 &&& 31))) (fun w5 w6 => some (w5, w6)))) = some (Zm', Zf') ∧ CAP Zm' ∧ BY Zm' Zf' ∧ need ≤ Zm' ∧ Zm ≤ Zm' ∧ ∀ k, k < len → Zf' k = Zf k := fun c2 a1 a2 a3 a4 => by
      have hc := CAP_le a3
      obtain ⟨b1, b2⟩ := q_cpOf hB a2 hc.2
      rw [wkb1_t a1, hsh c2 (by omega), wkb2_t b1]
      refine ⟨c2, _, rfl, a3, b2, a4, by omega, fun k hk => ?_⟩
      exact cpy0 (by omega)
    rcases hC with rfl | rfl | rfl | rfl
    · exact go 34 (nc16 need (by omega) (by omega) (by omega)) (by decide) (Or.inr (Or.inl rfl)) (by omega)
    · exact go 70 (nc34 need (by omega) (by omega) (by omega)) (by decide) (Or.inr (Or.inr (Or.inl rfl))) (by omega)
    · exact go 142 (nc70 need (by omega) (by omega) (by omega)) (by decide) (Or.inr (Or.inr (Or.inr rfl))) (by omega)
    · omega
def OUT (Zm len : Nat) (Zf sg : Nat → Int32) : Prop := CAP Zm ∧ BY Zm Zf ∧ len ≤ Zm ∧ len ≤ 100 ∧ ∀ k, k < len → Zf k = sg k
theorem nar_byte : ∀ x, x < 127 → vp_nar .byte ((nI x).toInt8.toInt32) = nI x := by decide +kernel
theorem a_char {Zm len x : Nat} {Zf sg : Nat → Int32} (O : OUT Zm len Zf sg) (hl : len < 100) (hx : x < 127) : ∃ Zm' Zf', f_J4_append_cf468 Zm (nI len) Zf (nI x) = some (Zm', nI (len + 1), Zf') ∧ OUT Zm' (len + 1) Zf' (upd sg len (nI x)) := by
  obtain ⟨o1, o2, o3, o4, o5⟩ := O
  obtain ⟨Zm', Zf', e1, e2, e3, e4, e5, e6⟩ := q_ens (need := len + 1) o1 o2 o3 (by omega) (by omega)
  have hc := CAP_le e2
  refine ⟨Zm', upd Zf' len (nI x), ?_, e2, fun j hj => ?_, e4, by omega, fun k hk => ?_⟩
  · have hj : f_J5_append_3fe6f Zm (nI len) Zf (nI x) = some (Zm', nI (len + 1), upd Zf' len (nI x)) := by
      unfold f_J5_append_3fe6f
      have hce : f_J1_canEncode_fc78d (nI x) = some 1 := by
        unfold f_J1_canEncode_fc78d
        rw [if_neg (show ¬ (255 : Int32) < nI x from Int32.not_lt.mpr (nI_le (b := 255) (by omega) (by decide)))]
      rw [nI_1, wkb2_t e1, wkb1_t (show f_J5_isLatin1_aae02 = some 1 from rfl), if_neg one_ne, wkb1_t hce, if_neg one_ne, wkl_t, gin_t (vp_in_nI (by omega) (by omega)), wkl_t, nI_clamp (by omega), nar_byte x hx]
    unfold f_J4_append_cf468
    rw [wkb3_t hj]
  · rw [up_at]
    by_cases h : j = len
    · rw [if_pos h]
      exact ⟨x, hx, rfl⟩
    · rw [if_neg h]
      exact e3 j hj
  · rw [up_at, up_at]
    by_cases h : k = len
    · rw [if_pos h, if_pos h]
    · rw [if_neg h, if_neg h, e6 k (by omega), o5 k (by omega)]
theorem dsl_b : ∀ d v x, x ∈ dsl d v → x < 127 := by
  intro d
  induction d with
  | zero => intro v x h; exact absurd h (by simp [dsl])
  | succ d ih =>
    intro v x h
    rw [dsl] at h
    by_cases c : v ≤ 9
    · rw [if_pos c, List.mem_singleton] at h
      omega
    · rw [if_neg c] at h
      rcases List.mem_append.mp h with z | z
      · exact ih _ _ z
      · have := List.mem_singleton.mp z
        omega
theorem getD_b {l : List Nat} (h : ∀ x, x ∈ l → x < 127) (i : Nat) : l.getD i 0 < 127 := by
  rw [List.getD_eq_getElem?_getD]
  cases e : l[i]? with
  | none => decide
  | some x => exact h x (List.mem_of_getElem? e)
theorem dsl_le {v : Nat} (h : v < 2 ^ 31) : (dsl 11 v).length ≤ 10 := by
  have key : ∀ d v, v < 10 ^ d → (dsl (d + 1) v).length ≤ max d 1 := by
    intro d
    induction d with
    | zero => intro v h; rw [dsl, if_pos (by omega)]; exact Nat.le_refl _
    | succ d ih =>
      intro v h
      rw [dsl]
      split
      · exact Nat.le_max_right _ _
      · rename_i z
        rw [List.length_append]
        have hp : (10 : Nat) ^ (d + 1) = 10 ^ d * 10 := Nat.pow_succ _ _
        have := ih (v / 10) (by omega)
        have h1 : 1 ≤ d := by
          rcases Nat.eq_zero_or_pos d with y | y
          · subst y; omega
          · exact y
        rw [Nat.max_eq_left h1] at this
        rw [Nat.max_eq_left (by omega)]
        show (dsl (d + 1) (v / 10)).length + 1 ≤ d + 1
        omega
  have := key 10 v (by omega)
  exact this
theorem a_int {Zm len v : Nat} {Zf sg : Nat → Int32} (O : OUT Zm len Zf sg) (hv : v < 2 ^ 31) (hl : len + (dsl 11 v).length ≤ 100) : ∃ Zm' Zf', f_J4_append_bf812 Zm (nI len) Zf (nI v) = some (Zm', nI (len + (dsl 11 v).length), Zf') ∧ OUT Zm' (len + (dsl 11 v).length) Zf' (put sg len (dsl 11 v)) := by
  obtain ⟨o1, o2, o3, o4, o5⟩ := O
  have hd := dsl_le hv
  obtain ⟨Zm', Zf', e1, e2, e3, e4, e5, e6⟩ := q_ens (need := len + (dsl 11 v).length) o1 o2 o3 (by omega) hl
  have hc := CAP_le e2
  refine ⟨Zm', put Zf' len (dsl 11 v), ?_, e2, fun j hj => ?_, e4, hl, fun k hk => ?_⟩
  · have hg : f_J6_getChars_ba4f3 Zm' Zf' (nI v) (nI (len + (dsl 11 v).length)) = some (nI len, put Zf' len (dsl 11 v)) := by
      unfold f_J6_getChars_ba4f3
      rw [if_pos (show (0 : Int32) ≤ nI v from nI_le (a := 0) (by omega) hv), q_chars hc.2 11 v (len + (dsl 11 v).length) FU Zf' hv (by omega) (by decide) (by decide) (by omega) e4, Nat.add_sub_cancel]
    have hj : f_J5_append_c97b9 Zm (nI len) Zf (nI v) = some (Zm', nI (len + (dsl 11 v).length), put Zf' len (dsl 11 v)) := by
      unfold f_J5_append_c97b9
      rw [wkb1_t (q_size hv), nI_add, wkb2_t e1, wkb1_t (show f_J5_isLatin1_aae02 = some 1 from rfl), if_neg one_ne, wkb2_t hg, wkl_t]
    unfold f_J4_append_bf812
    rw [wkb3_t hj]
  · show ∃ v', v' < 127 ∧ (if len ≤ j ∧ j < len + (dsl 11 v).length then nI ((dsl 11 v).getD (j - len) 0) else Zf' j) = nI v'
    by_cases h : len ≤ j ∧ j < len + (dsl 11 v).length
    · rw [if_pos h]
      exact ⟨_, getD_b (dsl_b 11 v) _, rfl⟩
    · rw [if_neg h]
      exact e3 j hj
  · show (if len ≤ k ∧ k < len + (dsl 11 v).length then nI ((dsl 11 v).getD (k - len) 0) else Zf' k) = (if len ≤ k ∧ k < len + (dsl 11 v).length then nI ((dsl 11 v).getD (k - len) 0) else sg k)
    by_cases h : len ≤ k ∧ k < len + (dsl 11 v).length
    · rw [if_pos h, if_pos h]
    · rw [if_neg h, if_neg h, e6 k (by omega), o5 k (by omega)]
/-- a sign before a number -/
theorem q_behind {n x v : Nat} {sg : Nat → Int32} (hx : x < 127) (hv : v < 2 ^ 31) (hl : n + 1 + (dsl 11 v).length ≤ 100) : f_X11_writesBehind sg (nI n) (nI x) (nI v) = some (put (upd sg n (nI x)) (n + 1) (dsl 11 v), nI (n + 1 + (dsl 11 v).length)) := by
  have := dsl_pos 11 v (by decide)
  unfold f_X11_writesBehind
  rw [wkb2_t (q_writes (by omega) (by omega)), wkb2_t (q_wnum 11 v (n + 1) _ hv (by omega) (by decide) hl)]
theorem OUT_0 {Zm len : Nat} {Zf sg : Nat → Int32} (O : OUT Zm len Zf sg) : OUT Zm 0 Zf sg := ⟨O.1, O.2.1, by omega, by omega, fun k hk => absurd hk (by omega)⟩
theorem o_clear {Zm len : Nat} {Zml : Int32} {Zf sg : Nat → Int32} (O : OUT Zm len Zf sg) : ∃ Zml', f_J4_setLength_d00df Zm Zml (nI len) Zf 0 = some (Zm, Zml', 0, Zf) := by
  have hz : ∀ m, m < 143 → (0 : Int32) - nI m ≤ 0 := by decide +kernel
  have hc := CAP_le O.1
  have h100 := O.2.2.2.1
  unfold f_J4_setLength_d00df f_J5_setLength_d00df f_J5_ensureCapacityInternal_d00df
  rw [sh0 Zm (by omega), if_pos (by decide), if_pos (hz Zm (by omega)), wkb2_t rfl, if_pos (show (0 : Int32) ≤ nI len from nI_le (a := 0) (by omega) (by omega))]
  by_cases e : nI len ≤ 0
  · rw [if_pos e]
    exact ⟨_, rfl⟩
  · rw [if_neg e]
    exact ⟨_, rfl⟩
theorem q_charG {Zm len p v : Nat} {Zf : Nat → Int32} (h1 : len ≤ Zm) (h2 : Zm ≤ 142) (h : p < len) (hv : v < 127) (d3 : Zf p = nI v) : f_J4_charAt_5068e Zm (nI len) Zf (nI p) = some (nI v) := by
  obtain ⟨c1, c2⟩ := chr1 v hv
  have hj : f_J5_charAt_5068e Zm (nI len) Zf (nI p) = some (nI v) := by
    unfold f_J5_charAt_5068e
    rw [wkl_t, sh0 Zm (by omega), if_neg (Int32.not_lt.mpr (nI_le h1 (by omega)))]
    have hc : f_J0_checkIndex_df160 (nI p) (nI len) = some () := by
      unfold f_J0_checkIndex_df160 f_J3_checkIndex_8e157_ref
      rw [if_neg (nI_pos (by omega)), if_pos (nI_lt h (by omega))]
      rfl
    rw [wkb1_t hc, gin_t (vp_in_nI (by omega) (by omega)), nI_clamp (by omega), d3, c1, gok_t' c2]
  unfold f_J4_charAt_5068e
  rw [wkb1_t hj, gok_t' c2]
theorem o_outputAt {Zm len : Nat} {Zf sg : Nat → Int32} (O : OUT Zm len Zf sg) (c x : Int32) : ∃ out b c', f_X10_outputAt Zm (nI len) Zf x = some out ∧ f_X11_outputAt c sg (nI len) x = some (b, c') ∧ ((out = .inl b ∧ c' = 0) ∨ (out = .inr xIOOB ∧ c' = 1 ∧ b = 32)) := by
  obtain ⟨o1, o2, o3, o4, o5⟩ := O
  have hc := CAP_le o1
  unfold f_X10_outputAt f_X11_outputAt
  rcases ix3 x len (by omega) with h | ⟨p, hp, rfl⟩
  · rw [wkb1_t (q_in0 (by omega) h), if_pos rfl]
    by_cases h0 : x < 0
    · rw [if_pos h0]
      exact ⟨_, 32, 1, rfl, rfl, Or.inr ⟨rfl, rfl, rfl⟩⟩
    · rw [if_neg h0, wkb1_t (q_lenJ _), if_neg (Int32.not_lt.mpr (h.resolve_left h0))]
      exact ⟨_, 32, 1, rfl, rfl, Or.inr ⟨rfl, rfl, rfl⟩⟩
  · obtain ⟨v, v1, v2⟩ := o2 p (by omega)
    obtain ⟨-, c2⟩ := chr1 v v1
    have hs : sg p = nI v := (o5 p hp).symm.trans v2
    rw [if_neg (nI_pos (by omega)), wkb1_t (q_lenJ _), if_pos (nI_lt hp (by omega)), wkb1_t (q_charG o3 hc.2 hp v1 v2), gok_t' c2, wkb1_t (q_in1 (by omega) hp), if_neg one_ne, wkb2_t (q_fails0 c), if_pos rfl, gin_t (vp_in_nI (by omega) (by decide)), nI_clamp (by omega), hs, gok_t' c2]
    exact ⟨_, _, _, rfl, rfl, Or.inl ⟨rfl, rfl⟩⟩
