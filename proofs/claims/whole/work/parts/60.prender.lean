/-! PURE LAYER: the renderings -/
theorem dsl_k : ∀ k d v, v < 10 ^ k → (dsl d v).length ≤ max k 1 := by
  intro k
  induction k with
  | zero =>
    intro d v h
    cases d with
    | zero => exact Nat.zero_le _
    | succ d => rw [dsl, if_pos (by omega)]; exact Nat.le_refl _
  | succ k ih =>
    intro d v h
    cases d with
    | zero => exact Nat.zero_le _
    | succ d =>
      rw [dsl]
      split
      · exact Nat.le_max_right _ _
      · rename_i z
        rw [List.length_append]
        have hp : (10 : Nat) ^ (k + 1) = 10 ^ k * 10 := Nat.pow_succ _ _
        have := ih d (v / 10) (by omega)
        have h1 : 1 ≤ k := by
          rcases Nat.eq_zero_or_pos k with y | y
          · subst y; omega
          · exact y
        rw [Nat.max_eq_left h1] at this
        rw [Nat.max_eq_left (by omega)]
        show (dsl d (v / 10)).length + 1 ≤ k + 1
        omega
theorem a_member {n m p a Zm len : Nat} {W S Zf sg g col loads : Nat → Int32} (x1 : Int32) (T : tr n W S (gW g) (gS g)) (G : gA n g) (hL : laid n (gW g) (gS g) m col loads) (hm : m < 64) (ha : a < n) (hb : m.testBit a = true) (hp : p < mn n m) (hr : rk n (gW g) (gS g) m a = p) (hc : col p = nI a) (hl : loads p = nI (ld n (gW g) (gS g) m a)) (O : OUT Zm len Zf sg) (h80 : len ≤ 80) :
    ∃ Zm' len' Zf' sg', f_X10_appendMember (nI n) W S Zm (nI len) Zf (nI m) (nI a) = some (Zm', nI len', Zf') ∧ (∀ K cd, f_X11_renderColumn_L35 g x1 K (nI p) cd sg (nI len) col loads (nI (mn n m)) = K (nI (p + 1)) cd sg' (nI len') col loads (nI (mn n m))) ∧ OUT Zm' len' Zf' sg' ∧ len' ≤ len + 11 := by
  have hn := T.1
  have hM := mn_le n m
  have l7 := ld_le T m a
  have s4 := (T.2 a ha).2.2.2
  have d1 : (dsl 11 a).length ≤ 1 := dsl_k 1 11 a (by omega)
  have d2 : (dsl 11 (ld n (gW g) (gS g) m a)).length ≤ 3 := dsl_k 3 11 _ (by omega)
  have d3 : (dsl 11 (gS g a)).length ≤ 3 := dsl_k 3 11 _ (by omega)
  obtain ⟨z1, f1, e1, O1⟩ := a_int (v := a) O (by omega) (by omega)
  obtain ⟨z2, f2, e2, O2⟩ := a_char (x := 40) O1 (by omega) (by decide)
  obtain ⟨z3, f3, e3, O3⟩ := a_int (v := ld n (gW g) (gS g) m a) O2 (by omega) (by omega)
  obtain ⟨z4, f4, e4, O4⟩ := a_char (x := 47) O3 (by omega) (by decide)
  obtain ⟨z5, f5, e5, O5⟩ := a_int (v := gS g a) O4 (by omega) (by omega)
  obtain ⟨z6, f6, e6, O6⟩ := a_char (x := 41) O5 (by omega) (by decide)
  have ip : vp_in (nI p) 6 := vp_in_nI (by omega) (by decide)
  have w1 := q_wnum 11 a len sg (by omega) (by omega) (by decide) (by omega)
  have w2 := q_behind (n := len + (dsl 11 a).length) (x := 40) (v := ld n (gW g) (gS g) m a) (sg := put sg len (dsl 11 a)) (by decide) (by omega) (by omega)
  have w3 := q_behind (n := len + (dsl 11 a).length + 1 + (dsl 11 (ld n (gW g) (gS g) m a)).length) (x := 47) (v := gS g a) (sg := put (upd (put sg len (dsl 11 a)) (len + (dsl 11 a).length) (nI 40)) (len + (dsl 11 a).length + 1) (dsl 11 (ld n (gW g) (gS g) m a))) (by decide) (by omega) (by omega)
  have w4 := q_writes (n := len + (dsl 11 a).length + 1 + (dsl 11 (ld n (gW g) (gS g) m a)).length + 1 + (dsl 11 (gS g a)).length) (x := 41) (sg := put (upd (put (upd (put sg len (dsl 11 a)) (len + (dsl 11 a).length) (nI 40)) (len + (dsl 11 a).length + 1) (dsl 11 (ld n (gW g) (gS g) m a))) (len + (dsl 11 a).length + 1 + (dsl 11 (ld n (gW g) (gS g) m a)).length) (nI 47)) (len + (dsl 11 a).length + 1 + (dsl 11 (ld n (gW g) (gS g) m a)).length + 1) (dsl 11 (gS g a))) (by omega) (by decide)
  have hov : (nI a = oI (ov n (gW g) (gS g) m)) ↔ (nI p = oR n (gW g) (gS g) m) := by
    cases ho : ov n (gW g) (gS g) m with
    | none =>
      rw [oR_neg ho]
      exact ⟨fun z => absurd z (oI_m1 (by omega)), fun z => absurd z (oI_m1 (by omega))⟩
    | some b =>
      obtain ⟨b1, b2, -, -⟩ := ov_some ho
      have hrb := rk_mn (w := gW g) (s := gS g) b1 b2
      rw [oR_pos ho, show oI (some b) = nI b from rfl, nI_eq (by omega) (by omega), nI_eq (by omega) (by omega)]
      constructor
      · intro z
        subst z
        exact hr.symm
      · intro z
        exact rk_inj (w := gW g) (s := gS g) ha b1 hb b2 (hr.trans z)
  have hM1 : ∀ K cd, f_X11_renderColumn_L35 g x1 K (nI p) cd sg (nI len) col loads (nI (mn n m)) = _ := fun K cd => by
    unfold f_X11_renderColumn_L35
    rw [gin_t ip, nI_clamp (by omega), hc, wkb2_t w1, gin_t ip, hl, wkb2_t (show f_X11_writesBehind _ _ 40 _ = _ from w2), gin_t ip, wkb1_t (q_of1 (by omega)), (G.2.2 a ha).2.1.1, wkb2_t (show f_X11_writesBehind _ _ 47 _ = _ from w3), wkb2_t (show f_X11_writes _ _ 41 = _ from w4), wkb1_t (q_breaks G hL), nI_1]
  have hC1 : f_X10_appendMember (nI n) W S Zm (nI len) Zf (nI m) (nI a) = if nI a = oI (ov n (gW g) (gS g) m) then wkb3 (f_J4_append_cf468 z6 (nI (len + (dsl 11 a).length + 1 + (dsl 11 (ld n (gW g) (gS g) m a)).length + 1 + (dsl 11 (gS g a)).length + 1)) f6 33) (fun w45 w46 w47 => some (w45, w46, w47)) else some (z6, nI (len + (dsl 11 a).length + 1 + (dsl 11 (ld n (gW g) (gS g) m a)).length + 1 + (dsl 11 (gS g a)).length + 1), f6) := by
    unfold f_X10_appendMember
    rw [if_neg (oI_m1 (by omega)), wkb3_t e1, wkb3_t (show f_J4_append_cf468 _ _ _ 40 = _ from e2), wkb1_t (q_loadOf T hm ha), wkb3_t e3, wkb3_t (show f_J4_append_cf468 _ _ _ 47 = _ from e4), gin_t (vp_in_nI (by omega) (by decide)), nI_clamp (by omega), (T.2 a ha).2.1, wkb3_t e5, wkb3_t (show f_J4_append_cf468 _ _ _ 41 = _ from e6), wkb1_t (q_overloadedOf T hm)]
  by_cases hv : nI a = oI (ov n (gW g) (gS g) m)
  · obtain ⟨z7, f7, e7, O7⟩ := a_char (x := 33) O6 (by omega) (by decide)
    have w5 := q_writes (n := len + (dsl 11 a).length + 1 + (dsl 11 (ld n (gW g) (gS g) m a)).length + 1 + (dsl 11 (gS g a)).length + 1) (x := 33) (sg := upd (put (upd (put (upd (put sg len (dsl 11 a)) (len + (dsl 11 a).length) (nI 40)) (len + (dsl 11 a).length + 1) (dsl 11 (ld n (gW g) (gS g) m a))) (len + (dsl 11 a).length + 1 + (dsl 11 (ld n (gW g) (gS g) m a)).length) (nI 47)) (len + (dsl 11 a).length + 1 + (dsl 11 (ld n (gW g) (gS g) m a)).length + 1) (dsl 11 (gS g a))) (len + (dsl 11 a).length + 1 + (dsl 11 (ld n (gW g) (gS g) m a)).length + 1 + (dsl 11 (gS g a)).length) (nI 41)) (by omega) (by decide)
    refine ⟨z7, _, f7, _, ?_, fun K cd => ?_, O7, by omega⟩
    · rw [hC1, if_pos hv, wkb3_t (show f_J4_append_cf468 _ _ _ 33 = _ from e7)]
    · rw [hM1, if_pos (hov.mp hv), wkb2_t (show f_X11_writes _ _ 33 = _ from w5)]
  · refine ⟨z6, _, f6, _, ?_, fun K cd => ?_, O6, by omega⟩
    · rw [hC1, if_neg hv]
    · rw [hM1, if_neg (fun z => hv (hov.mpr z))]
/-- the class's loop over the further places -/
def ucl (n m M : Nat) (W S : Nat → Int32) (w5 : Int32) : Nat → Nat → Nat → Int32 → (Nat → Int32) → Option ((Int32 × Nat × Int32 × Int32 × (Nat → Int32)) ⊕ (String × Nat × Int32 × Int32 × (Nat → Int32)))
  | 0, _, _, _, _ => none
  | d + 1, p, Zm, Zn, Zf => if nI M ≤ nI (p + 1) then (wkb1 (f_J4_length_8abf5 Zn) (fun r => some (.inl (r, Zm, w5, Zn, Zf)))) else wkb3 (f_J4_append_cf468 Zm Zn Zf 32) (fun w26 w27 w28 => wkb1 (f_X9_memberAt (nI n) W S (nI m) (nI (p + 1))) (fun r31 => wkb3 (f_X10_appendMember (nI n) W S w26 w27 w28 (nI m) r31) (fun w33 w34 w35 => ucl n m M W S w5 d (p + 1) w33 w34 w35)))
theorem ucl_ok {n m : Nat} {W S g col loads : Nat → Int32} (x1 w5 cd : Int32) (T : tr n W S (gW g) (gS g)) (G : gA n g) (hL : laid n (gW g) (gS g) m col loads) (hm : m < 64) : ∀ r d p nn Zm len (Zf sg : Nat → Int32), p + 1 + r = mn n m → r < d → r < nn → OUT Zm len Zf sg → len ≤ 12 * (p + 1) →
    ∃ Zm' len' Zf' sg', ucl n m (mn n m) W S w5 d p Zm (nI len) Zf = some (.inl (nI len', Zm', w5, nI len', Zf')) ∧ f_X11_renderColumn_L17 g x1 nn (nI (p + 1)) cd sg (nI len) col loads (nI (mn n m)) = some (nI len', cd, sg', nI len', col, loads, nI (mn n m)) ∧ OUT Zm' len' Zf' sg' := by
  have hn := T.1
  have hM := mn_le n m
  intro r
  induction r with
  | zero =>
    intro d p nn Zm len Zf sg h1 h2 h3 O hl
    obtain ⟨d, rfl⟩ : ∃ e, d = e + 1 := ⟨d - 1, by omega⟩
    obtain ⟨q, rfl⟩ : ∃ q, nn = q + 1 := ⟨nn - 1, by omega⟩
    refine ⟨Zm, len, Zf, sg, ?_, ?_, O⟩
    · rw [ucl, if_pos (nI_le (by omega) (by omega))]
      rfl
    · rw [f_X11_renderColumn_L17, if_pos (nI_le (by omega) (by omega))]
  | succ r ih =>
    intro d p nn Zm len Zf sg h1 h2 h3 O hl
    obtain ⟨d, rfl⟩ : ∃ e, d = e + 1 := ⟨d - 1, by omega⟩
    obtain ⟨q, rfl⟩ : ∃ q, nn = q + 1 := ⟨nn - 1, by omega⟩
    obtain ⟨a, k1, k2, k3, k4, k5⟩ := hL (p + 1) (by omega)
    obtain ⟨z1, f1, e1, O1⟩ := a_char (x := 32) O (by omega) (by decide)
    obtain ⟨z2, len2, f2, sg2, e2, e3, O2, hl2⟩ := a_member x1 T G hL hm k1 k2 (by omega) k3 k4 k5 O1 (by omega)
    have hmem := q_memberAt T hm k1 k2
    rw [k3] at hmem
    rw [ucl, if_neg (nI_ge (by omega) (by omega)), wkb3_t (show f_J4_append_cf468 _ _ _ 32 = _ from e1), wkb1_t hmem, wkb3_t e2, f_X11_renderColumn_L17, if_neg (nI_ge (by omega) (by omega)), if_neg (nI_nle (by omega) (by omega)), wkb2_t (show f_X11_writes _ _ 32 = _ from q_writes (x := 32) (n := len) (sg := sg) (by omega) (by decide)), e3]
    exact ih d (p + 1) q z2 len2 f2 sg2 (by omega) (by omega) (by omega) O2 (by omega)
theorem o_renderColumn {n Zm len : Nat} {Tc Zml : Int32} {W S Hh C F g Zf sg : Nat → Int32} (R : RT n Tc W S Hh C F g) (O : OUT Zm len Zf sg) (c x : Int32) (col loads : Nat → Int32) (z : Int32) : ∃ out b c' sg' len' col' loads' z' Zm' Zml' Zf', f_X10_renderColumn Tc W S Zm Zml (nI len) Zf x = some out ∧ f_X11_renderColumn g c sg (nI len) col loads z x = some (b, c', sg', nI len', col', loads', z') ∧ OUT Zm' len' Zf' sg' ∧
    ((c' = 1 ∧ b = 0 ∧ out = .inr (xIAE, Zm', Zml', nI len', Zf')) ∨ (c' = 0 ∧ out = .inl (b, Zm', Zml', nI len', Zf'))) := by
  have T := RT_tr R
  obtain ⟨rfl, G, R1, -⟩ := R
  have hn := G.1
  have h6 := pow64 hn
  unfold f_X10_renderColumn f_X11_renderColumn
  rcases set_or n hn x with h | ⟨m, h0, hm, rfl⟩
  · exact ⟨_, 0, 1, sg, len, col, loads, z, Zm, Zml, Zf, wky_e (q_reqS0 hn h), by rw [wkb5_t (q_isWrong0 G h)]; rfl, O, Or.inl ⟨rfl, rfl, rfl⟩⟩
  · obtain ⟨c1, l1, e1, hL⟩ := q_isWrong1 (c := c) (col := col) (loads := loads) (z := z) G h0 hm
    obtain ⟨Zml', hcl⟩ := o_clear (Zml := Zml) O
    have hM := mn_le n m
    have h1 := mn_pos h0 hm
    obtain ⟨a, k1, k2, k3, k4, k5⟩ := hL 0 (by omega)
    obtain ⟨z2, len2, f2, sg2, a2, a3, O2, hl2⟩ := a_member (nI m) T G hL (by omega) k1 k2 (by omega) k3 k4 k5 (OUT_0 O) (by decide)
    obtain ⟨z3, len3, f3, sg3, b2, b3, O3⟩ := ucl_ok (nI m) Zml' 0 T G hL (by omega) (mn n m - 1) 6 0 4999 z2 len2 f2 sg2 (by omega) (by omega) (by omega) O2 (by omega)
    have hmem := q_memberAt T (show m < 64 by omega) k1 k2
    rw [k3] at hmem
    refine ⟨_, nI len3, 0, sg3, len3, c1, l1, nI (mn n m), z3, Zml', f3, ?_, ?_, O3, Or.inr ⟨rfl, rfl⟩⟩
    · rw [wky_t (q_reqS1 hn h0 hm), wkb4_t hcl, wkb1_t (q_bitCount hn hm), if_neg (nI_nle (by omega) (by omega)), wkb1_t (show f_X9_memberAt (nI n) W S (nI m) 0 = _ from hmem), wkb3_t (show f_X10_appendMember (nI n) W S Zm 0 Zf (nI m) (nI a) = _ from a2)]
      exact b2
    · rw [wkb5_t e1, if_pos rfl]
      show f_X11_renderColumn_L17 g (nI m) (4999 + 1) 0 0 sg 0 c1 l1 (nI (mn n m)) = _
      rw [f_X11_renderColumn_L17, if_neg (nI_nle (by omega) (by omega)), if_pos (by decide), show f_X11_renderColumn_L35 g (nI m) (f_X11_renderColumn_L17 g (nI m) 4999) 0 0 sg 0 c1 l1 (nI (mn n m)) = _ from a3 (f_X11_renderColumn_L17 g (nI m) 4999) 0]
      exact b3
theorem o_renderEntry {n e Bd Zm len : Nat} {Ba Zml : Int32} {B Bo : Nat → Int32} {Be : Int32} {D C A g Zf sg : Nat → Int32} (GB : gB n e Bd g) (R : RB n e Ba B Bo Be D C A g) (O : OUT Zm len Zf sg) (c x : Int32) : ∃ out b c' sg' len' Zm' Zml' Zf', f_X10_renderEntry Be D C A Zm Zml (nI len) Zf x = some out ∧ f_X11_renderEntry g c sg (nI len) x = some (b, c', sg', nI len') ∧ OUT Zm' len' Zf' sg' ∧
    ((c' = 1 ∧ b = 0 ∧ out = .inr (xIOOB, Zm', Zml', nI len', Zf')) ∨ (c' = 0 ∧ out = .inl (b, Zm', Zml', nI len', Zf'))) := by
  obtain ⟨rfl, -, -, R2⟩ := R
  have he := GB.1.2.1
  have hn := GB.1.1
  unfold f_X10_renderEntry f_X11_renderEntry
  rw [GB.1.2.2.2]
  rcases ix3 x e (by omega) with h | ⟨j, hj, rfl⟩
  · exact ⟨_, 0, 1, sg, len, Zm, Zml, Zf, wky_e (q_reqE0 h), by rw [wkb1_t (q_in0 (by omega) h)]; rfl, O, Or.inl ⟨rfl, rfl, rfl⟩⟩
  · obtain ⟨Zml', hcl⟩ := o_clear (Zml := Zml) O
    obtain ⟨⟨d, hd, g1⟩, ⟨cr, hc, g2⟩, a, a0, a1, g3⟩ := GB.2.2.1 j hj
    have d1 : (dsl 11 d).length ≤ 2 := dsl_k 2 11 d (by omega)
    have d2 : (dsl 11 cr).length ≤ 2 := dsl_k 2 11 cr (by omega)
    have d3 : (dsl 11 a).length ≤ 10 := dsl_le (by omega)
    have O0 := OUT_0 O
    obtain ⟨z1, f1, e1, O1⟩ := a_int (v := d) O0 (by omega) (by omega)
    obtain ⟨z2, f2, e2, O2⟩ := a_char (x := 62) O1 (by omega) (by decide)
    obtain ⟨z3, f3, e3, O3⟩ := a_int (v := cr) O2 (by omega) (by omega)
    obtain ⟨z4, f4, e4, O4⟩ := a_char (x := 61) O3 (by omega) (by decide)
    obtain ⟨z5, f5, e5, O5⟩ := a_int (v := a) O4 (by omega) (by omega)
    have w1 := q_wnum 11 d 0 sg (by omega) (by omega) (by decide) (by omega)
    have w2 := q_behind (n := 0 + (dsl 11 d).length) (x := 62) (v := cr) (sg := put sg 0 (dsl 11 d)) (by decide) (by omega) (by omega)
    have w3 := q_behind (n := 0 + (dsl 11 d).length + 1 + (dsl 11 cr).length) (x := 61) (v := a) (sg := put (upd (put sg 0 (dsl 11 d)) (0 + (dsl 11 d).length) (nI 62)) (0 + (dsl 11 d).length + 1) (dsl 11 cr)) (by decide) (by omega) (by omega)
    have ij : vp_in (nI j) 60 := vp_in_nI (by omega) (by decide)
    refine ⟨_, nI (0 + (dsl 11 d).length + 1 + (dsl 11 cr).length + 1 + (dsl 11 a).length), 0, put (upd (put (upd (put sg 0 (dsl 11 d)) (0 + (dsl 11 d).length) (nI 62)) (0 + (dsl 11 d).length + 1) (dsl 11 cr)) (0 + (dsl 11 d).length + 1 + (dsl 11 cr).length) (nI 61)) (0 + (dsl 11 d).length + 1 + (dsl 11 cr).length + 1) (dsl 11 a), 0 + (dsl 11 d).length + 1 + (dsl 11 cr).length + 1 + (dsl 11 a).length, z5, Zml', f5, ?_, ?_, O5, Or.inr ⟨rfl, rfl⟩⟩
    · rw [wky_t (q_reqE1 he hj), wkb4_t hcl, gin_t ij, nI_clamp (by omega), (R2 j hj).1, g1, wkb3_t (show f_J4_append_bf812 Zm 0 Zf (nI d) = _ from e1), wkb3_t (show f_J4_append_cf468 _ _ _ 62 = _ from e2), gin_t ij, (R2 j hj).2.1, g2, wkb3_t e3, wkb3_t (show f_J4_append_cf468 _ _ _ 61 = _ from e4), gin_t ij, (R2 j hj).2.2, g3, wkb3_t e5, wkb1_t (q_lenJ _)]
    · rw [wkb1_t (q_in1 (by omega) hj), if_neg one_ne]
      unfold f_X11_renderEntry_L22
      rw [wkb2_t (q_fails0 c), if_pos rfl, wkb1_t (q_entry (x := 0) 0 (by omega) (by decide) rfl), Nat.add_zero, g1, wkb2_t (show f_X11_writesNumber 11 (nI d) sg 0 = _ from w1), wkb1_t (q_entry (x := 1) 1 (by omega) (by decide) rfl), g2, wkb2_t (show f_X11_writesBehind _ _ 62 _ = _ from w2), wkb1_t (q_entry (x := 2) 2 (by omega) (by decide) rfl), g3, wkb2_t (show f_X11_writesBehind _ _ 61 _ = _ from w3)]
