/-! PURE LAYER: packings of sets of accounts whose balances add up to 0 -/
def sB (A : Nat) (b : Nat → Int) (S : Nat → Bool) : Int := match A with
  | 0 => 0
  | A + 1 => sB A b S + if S A then b A else 0
theorem sB_s (A : Nat) (b : Nat → Int) (S : Nat → Bool) : sB (A + 1) b S = sB A b S + if S A then b A else 0 := rfl
def dl (S : Nat → Bool) (i : Nat) : Nat → Bool := fun j => S j && !decide (j = i)
def df (S U : Nat → Bool) : Nat → Bool := fun j => S j && !U j
theorem dl_df (S U : Nat → Bool) (i : Nat) : df (dl S i) U = dl (df S U) i := by
  funext j
  show ((S j && !decide (j = i)) && !U j) = ((S j && !U j) && !decide (j = i))
  cases S j <;> cases U j <;> cases decide (j = i) <;> rfl
theorem sB_congr {A : Nat} {b : Nat → Int} {S T : Nat → Bool} (h : ∀ j, j < A → S j = T j) : sB A b S = sB A b T := by
  induction A with
  | zero => rfl
  | succ A ih => rw [sB_s, sB_s, ih (fun j hj => h j (by omega)), h A (by omega)]
theorem sB_df {A : Nat} {b : Nat → Int} {S U : Nat → Bool} (h : ∀ j, j < A → U j = true → S j = true) : sB A b (df S U) = sB A b S - sB A b U := by
  induction A with
  | zero => rfl
  | succ A ih =>
    rw [sB_s, sB_s, sB_s, ih (fun j hj => h j (by omega))]
    have := h A (by omega)
    unfold df
    cases hU : U A
    · cases hS : S A <;> simp <;> omega
    · rw [this hU]
      simp
      omega
theorem sB_dl {A : Nat} {b : Nat → Int} {S : Nat → Bool} {i : Nat} (hi : i < A) (hS : S i = true) : sB A b (dl S i) = sB A b S - b i := by
  induction A with
  | zero => omega
  | succ A ih =>
    rw [sB_s, sB_s]
    by_cases e : i = A
    · subst e
      have : sB i b (dl S i) = sB i b S := sB_congr (fun j hj => by
        unfold dl
        have : decide (j = i) = false := by simp; omega
        rw [this]
        simp)
      rw [this, hS]
      have : dl S i i = false := by unfold dl; simp
      rw [this]
      simp
    · rw [ih (by omega)]
      have : dl S i A = S A := by
        unfold dl
        have : decide (A = i) = false := by simp; omega
        rw [this]
        simp
      rw [this]
      omega
def nz (A : Nat) (b : Nat → Int) (U : Nat → Bool) : Prop := ∃ i, i < A ∧ U i = true ∧ b i ≠ 0
def Pk (A : Nat) (b : Nat → Int) : Nat → (Nat → Bool) → Prop
  | 0, _ => True
  | k + 1, S => ∃ U : Nat → Bool, (∀ j, j < A → U j = true → S j = true) ∧ nz A b U ∧ sB A b U = 0 ∧ Pk A b k (df S U)
theorem Pk_mono {A : Nat} {b : Nat → Int} : ∀ {k : Nat} {S T : Nat → Bool}, (∀ j, j < A → S j = true → T j = true) → Pk A b k S → Pk A b k T := by
  intro k
  induction k with
  | zero => intros; trivial
  | succ k ih =>
    intro S T h ⟨U, h1, h2, h3, h4⟩
    refine ⟨U, fun j hj hU => h j hj (h1 j hj hU), h2, h3, ih (fun j hj hd => ?_) h4⟩
    unfold df at hd ⊢
    cases hS : S j
    · rw [hS] at hd; cases hd
    · rw [h j hj hS]
      rw [hS] at hd
      exact hd
theorem df_le {S U : Nat → Bool} {j : Nat} (h : df S U j = true) : S j = true := by
  unfold df at h
  cases hS : S j
  · rw [hS] at h; cases h
  · rfl
theorem dl_le {S : Nat → Bool} {i j : Nat} (h : dl S i j = true) : S j = true := by
  unfold dl at h
  cases hS : S j
  · rw [hS] at h; cases h
  · rfl
theorem Pk_down {A : Nat} {b : Nat → Int} : ∀ {k : Nat} {S : Nat → Bool}, Pk A b (k + 1) S → Pk A b k S := by
  intro k S ⟨U, _, _, _, h4⟩
  exact Pk_mono (fun j _ h => df_le h) h4
theorem Pk_le {A : Nat} {b : Nat → Int} {S : Nat → Bool} {k j : Nat} (h : j ≤ k) (hk : Pk A b k S) : Pk A b j S := by
  induction k with
  | zero => obtain rfl : j = 0 := by omega
            exact hk
  | succ k ih =>
    by_cases e : j = k + 1
    · rw [e]; exact hk
    · exact ih (by omega) (Pk_down hk)
def cn (A : Nat) (S : Nat → Bool) : Nat := sm A (fun j => (S j).toNat)
theorem cn_dl {A : Nat} {S : Nat → Bool} {i : Nat} (hi : i < A) (hS : S i = true) : cn A (dl S i) + 1 = cn A S := by
  have h := sm_off (n := A) (a := i) (f := fun j => (dl S i j).toNat) (g := fun j => (S j).toNat) hi (fun j _ hj => by
    unfold dl
    have : decide (j = i) = false := by simp; omega
    rw [this]
    simp)
  have e : dl S i i = false := by unfold dl; simp
  simp only [e, hS] at h
  exact h
theorem dl_df_le {S U : Nat → Bool} {i j : Nat} (hU : U i = true) (h : df S U j = true) : dl S i j = true := by
  have h1 := df_le h
  unfold dl
  rw [h1]
  by_cases e : j = i
  · subst e
    unfold df at h
    rw [hU] at h
    simp at h
  · simp [e]
theorem Pk_cn {A : Nat} {b : Nat → Int} : ∀ {k : Nat} {S : Nat → Bool}, Pk A b k S → k ≤ cn A S := by
  intro k
  induction k with
  | zero => intros; exact Nat.zero_le _
  | succ k ih =>
    intro S ⟨U, h1, ⟨i, hi, hU, _⟩, _, h4⟩
    have h5 := ih h4
    have h6 : cn A (df S U) ≤ cn A (dl S i) := sm_le (fun j _ => by
      cases q : df S U j
      · exact Nat.zero_le _
      · rw [dl_df_le hU q]
        exact Nat.le_refl _)
    have h7 := cn_dl hi (h1 i hi hU)
    omega
/-- without one account -/
theorem Pk_drop {A : Nat} {b : Nat → Int} : ∀ {k : Nat} {S : Nat → Bool} (i : Nat), Pk A b (k + 1) S → Pk A b k (dl S i) := by
  intro k
  induction k with
  | zero => intros; trivial
  | succ k ih =>
    intro S i ⟨U, h1, h2, h3, h4⟩
    by_cases hU : U i = true
    · exact Pk_mono (fun j _ h => dl_df_le hU h) h4
    · refine ⟨U, fun j hj hj2 => ?_, h2, h3, ?_⟩
      · unfold dl
        rw [h1 j hj hj2]
        have : decide (j = i) = false := by
          simp
          intro e
          rw [e] at hj2
          exact hU hj2
        rw [this]
        rfl
      · rw [dl_df]
        exact ih i h4
/-- all of a sum 0: the rest is one more -/
theorem Pk_more {A : Nat} {b : Nat → Int} : ∀ {k : Nat} {S : Nat → Bool} {i : Nat}, i < A → S i = true → b i ≠ 0 → sB A b S = 0 → Pk A b k (dl S i) → Pk A b (k + 1) S := by
  intro k
  induction k with
  | zero =>
    intro S i hi hS hb h0 _
    exact ⟨S, fun j _ h => h, ⟨i, hi, hS, hb⟩, h0, trivial⟩
  | succ k ih =>
    intro S i hi hS hb h0 ⟨U, h1, h2, h3, h4⟩
    have h1' : ∀ j, j < A → U j = true → S j = true := fun j hj h => dl_le (h1 j hj h)
    have hUi : U i = false := by
      cases q : U i
      · rfl
      · have := h1 i hi q
        unfold dl at this
        simp at this
    rw [dl_df] at h4
    refine ⟨U, h1', h2, h3, ih hi ?_ hb ?_ h4⟩
    · unfold df
      rw [hS, hUi]
      rfl
    · rw [sB_df h1', h0, h3]
      rfl
theorem sB_pos {A : Nat} {b : Nat → Int} {S : Nat → Bool} (h : 0 < sB A b S) : ∃ i, i < A ∧ S i = true ∧ 0 < b i := by
  induction A with
  | zero => exact absurd h (Int.lt_irrefl 0)
  | succ A ih =>
    rw [sB_s] at h
    by_cases q : 0 < sB A b S
    · obtain ⟨i, h1, h2⟩ := ih q
      exact ⟨i, by omega, h2⟩
    · refine ⟨A, by omega, ?_⟩
      cases hS : S A
      · rw [hS] at h
        simp at h
        omega
      · rw [hS] at h
        simp at h
        exact ⟨rfl, by omega⟩
theorem sB_neg {A : Nat} {b : Nat → Int} {S : Nat → Bool} (h : sB A b S < 0) : ∃ i, i < A ∧ S i = true ∧ b i < 0 := by
  induction A with
  | zero => exact absurd h (Int.lt_irrefl 0)
  | succ A ih =>
    rw [sB_s] at h
    by_cases q : sB A b S < 0
    · obtain ⟨i, h1, h2⟩ := ih q
      exact ⟨i, by omega, h2⟩
    · refine ⟨A, by omega, ?_⟩
      cases hS : S A
      · rw [hS] at h
        simp at h
        omega
      · rw [hS] at h
        simp at h
        exact ⟨rfl, by omega⟩
/-- of a sum other than 0: one of its sign is left over -/
theorem Pk_sign {A : Nat} {b : Nat → Int} : ∀ {k : Nat} {S : Nat → Bool}, sB A b S ≠ 0 → Pk A b k S → ∃ i, i < A ∧ S i = true ∧ b i ≠ 0 ∧ (0 < b i ↔ 0 < sB A b S) ∧ Pk A b k (dl S i) := by
  intro k
  induction k with
  | zero =>
    intro S h _
    by_cases q : 0 < sB A b S
    · obtain ⟨i, h1, h2, h3⟩ := sB_pos q
      exact ⟨i, h1, h2, by omega, ⟨fun _ => q, fun _ => h3⟩, trivial⟩
    · obtain ⟨i, h1, h2, h3⟩ := sB_neg (A := A) (b := b) (S := S) (by omega)
      exact ⟨i, h1, h2, by omega, ⟨fun z => by omega, fun z => by omega⟩, trivial⟩
  | succ k ih =>
    intro S h ⟨U, h1, h2, h3, h4⟩
    have e : sB A b (df S U) = sB A b S := by
      rw [sB_df h1, h3]
      omega
    obtain ⟨i, k1, k2, k3, k4, k5⟩ := ih (by rw [e]; exact h) h4
    rw [e] at k4
    have hUi : U i = false := by
      cases q : U i
      · rfl
      · unfold df at k2
        rw [q] at k2
        simp at k2
    refine ⟨i, k1, df_le k2, k3, k4, U, fun j hj hU => ?_, h2, h3, ?_⟩
    · unfold dl
      rw [h1 j hj hU]
      have : decide (j = i) = false := by
        simp
        intro e2
        rw [e2, hUi] at hU
        cases hU
      rw [this]
      rfl
    · rw [dl_df]
      exact k5
theorem pm_ex (A : Nat) (b : Nat → Int) (S : Nat → Bool) : ∃ v, Pk A b v S ∧ ¬ Pk A b (v + 1) S := by
  by_cases q : ∃ v, Pk A b v S ∧ ¬ Pk A b (v + 1) S
  · exact q
  · exfalso
    have all : ∀ v, Pk A b v S := by
      intro v
      induction v with
      | zero => trivial
      | succ v ih =>
        by_cases z : Pk A b (v + 1) S
        · exact z
        · exact absurd ⟨v, ih, z⟩ q
    have := Pk_cn (all (cn A S + 1))
    omega
/-- the most groups -/
noncomputable def pm (A : Nat) (b : Nat → Int) (S : Nat → Bool) : Nat := Classical.choose (pm_ex A b S)
theorem pm_iff {A : Nat} {b : Nat → Int} {S : Nat → Bool} {k : Nat} : Pk A b k S ↔ k ≤ pm A b S := by
  have h := Classical.choose_spec (pm_ex A b S)
  constructor
  · intro q
    by_cases z : k ≤ pm A b S
    · exact z
    · exact absurd (Pk_le (show pm A b S + 1 ≤ k by omega) q) h.2
  · intro q
    exact Pk_le q h.1
theorem pm_eq {A : Nat} {b : Nat → Int} {S T : Nat → Bool} (h : ∀ k, Pk A b k S ↔ Pk A b k T) : pm A b S = pm A b T := by
  have h1 := pm_iff.mp ((h _).mp (pm_iff.mpr (Nat.le_refl (pm A b S))))
  have h2 := pm_iff.mp ((h _).mpr (pm_iff.mpr (Nat.le_refl (pm A b T))))
  omega
theorem pm_congr {A : Nat} {b : Nat → Int} {S T : Nat → Bool} (h : ∀ j, j < A → S j = T j) : pm A b S = pm A b T :=
  pm_eq (fun _ => ⟨Pk_mono (fun j hj q => by rw [← h j hj]; exact q), Pk_mono (fun j hj q => by rw [h j hj]; exact q)⟩)
theorem pm_cn (A : Nat) (b : Nat → Int) (S : Nat → Bool) : pm A b S ≤ cn A S := Pk_cn (pm_iff.mpr (Nat.le_refl _))
theorem pm_dl_le {A : Nat} {b : Nat → Int} {S : Nat → Bool} {i : Nat} : pm A b (dl S i) ≤ pm A b S := pm_iff.mp (Pk_mono (fun _ _ h => dl_le h) (pm_iff.mpr (Nat.le_refl _)))
theorem pm_dl_ge {A : Nat} {b : Nat → Int} {S : Nat → Bool} (i : Nat) : pm A b S ≤ pm A b (dl S i) + 1 := by
  cases h : pm A b S with
  | zero => omega
  | succ k =>
    have h1 := Pk_drop i (pm_iff.mpr (by omega) : Pk A b (k + 1) S)
    have := pm_iff.mp h1
    omega
theorem pm_zero {A : Nat} {b : Nat → Int} {S : Nat → Bool} {i : Nat} (hi : i < A) (hS : S i = true) (hb : b i ≠ 0) (h : sB A b S = 0) : pm A b S = pm A b (dl S i) + 1 := by
  have h1 := pm_iff.mp (Pk_more hi hS hb h (pm_iff.mpr (Nat.le_refl _)))
  have h2 := pm_dl_ge (A := A) (b := b) (S := S) i
  omega
theorem pm_sign {A : Nat} {b : Nat → Int} {S : Nat → Bool} (h : sB A b S ≠ 0) : ∃ i, i < A ∧ S i = true ∧ b i ≠ 0 ∧ (0 < b i ↔ 0 < sB A b S) ∧ pm A b (dl S i) = pm A b S := by
  obtain ⟨i, h1, h2, h3, h4, h5⟩ := Pk_sign h (pm_iff.mpr (Nat.le_refl _))
  refine ⟨i, h1, h2, h3, h4, ?_⟩
  have := pm_iff.mp h5
  have := pm_dl_le (A := A) (b := b) (S := S) (i := i)
  omega
theorem pm_nz {A : Nat} {b : Nat → Int} {S : Nat → Bool} (h : ∀ i, i < A → S i = true → b i = 0) : pm A b S = 0 := by
  cases e : pm A b S with
  | zero => rfl
  | succ k =>
    obtain ⟨U, h1, ⟨i, hi, hU, hb⟩, _⟩ := (pm_iff.mpr (by omega) : Pk A b (k + 1) S)
    exact absurd (h i hi (h1 i hi hU)) hb
/-- accounts without a balance don't count -/
theorem pm_open {A : Nat} {b : Nat → Int} {S : Nat → Bool} : pm A b S = pm A b (fun j => S j && decide (b j ≠ 0)) := by
  have cut : ∀ U : Nat → Bool, sB A b (fun j => U j && decide (b j ≠ 0)) = sB A b U := by
    intro U
    clear S
    induction A with
    | zero => rfl
    | succ A ih =>
      rw [sB_s, sB_s, ih]
      by_cases q : b A = 0
      · rw [q]
        simp
      · simp [q]
  refine pm_eq (fun k => ⟨?_, Pk_mono (fun j _ h => by simp at h; exact h.1)⟩)
  induction k generalizing S with
  | zero => intro _; trivial
  | succ k ih =>
    intro ⟨U, h1, ⟨i, hi, hU, hb⟩, h3, h4⟩
    refine ⟨fun j => U j && decide (b j ≠ 0), fun j hj h => ?_, ⟨i, hi, by simp [hU, hb], hb⟩, by rw [cut]; exact h3, ?_⟩
    · simp at h
      simp [h.2, h1 j hj h.1]
    · refine Pk_mono (fun j _ h => ?_) (ih h4)
      unfold df at *
      simp at h
      simp [h]
