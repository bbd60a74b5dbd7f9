/-! runs of places: each place at most once, and apart from others, seen of the runs alone -/
def wr_sep (r : Nat × Nat) : List (Nat × Nat) → Bool
  | [] => true
  | q :: t => (Nat.ble (r.1 + r.2) q.1 || Nat.ble (q.1 + q.2) r.1) && wr_sep r t
def wr_ok : List (Nat × Nat) → Bool
  | [] => true
  | r :: t => wr_sep r t && wr_ok t
def wr_ap : List (Nat × Nat) → List (Nat × Nat) → Bool
  | [], _ => true
  | r :: t, q => wr_sep r q && wr_ap t q
theorem wr_mr : ∀ (n s i : Nat), i ∈ wr_r s n → s ≤ i ∧ i < s + n
  | 0, _, _, h => by cases h
  | n + 1, s, i, h => by
    have h : i ∈ s :: wr_r (s + 1) n := h
    rcases List.mem_cons.mp h with rfl | h
    · omega
    · have := wr_mr n (s + 1) i h
      omega
theorem wr_sep_mem (r : Nat × Nat) (i : Nat) (hi : r.1 ≤ i ∧ i < r.1 + r.2) : ∀ t : List (Nat × Nat), wr_sep r t = true → i ∉ wr_is t
  | [], _ => fun h => by cases h
  | q :: t, h => by
    have h : ((Nat.ble (r.1 + r.2) q.1 || Nat.ble (q.1 + q.2) r.1) && wr_sep r t) = true := h
    rw [Bool.and_eq_true, Bool.or_eq_true] at h
    intro hm
    have hm : i ∈ wr_r q.1 q.2 ++ wr_is t := hm
    rcases List.mem_append.mp hm with hm | hm
    · have h3 := wr_mr _ _ _ hm
      rcases h.1 with h1 | h1
      · have := Nat.le_of_ble_eq_true h1
        omega
      · have := Nat.le_of_ble_eq_true h1
        omega
    · exact wr_sep_mem r i hi t h.2 hm
theorem wr_ndr (y : List Nat) (hy : va_nd y = true) : ∀ (n s : Nat), (∀ i ∈ y, ¬ (s ≤ i ∧ i < s + n)) → va_nd (wr_r s n ++ y) = true
  | 0, _, _ => hy
  | n + 1, s, h => by
    have e := wr_ndr y hy n (s + 1) (fun i hi h2 => h i hi (by omega))
    show (decide (s ∉ wr_r (s + 1) n ++ y) && va_nd (wr_r (s + 1) n ++ y)) = true
    rw [e, Bool.and_true, decide_eq_true_eq]
    intro hm
    rcases List.mem_append.mp hm with hm | hm
    · have := wr_mr _ _ _ hm
      omega
    · exact h s hm (by omega)
theorem wr_nd : ∀ rs : List (Nat × Nat), wr_ok rs = true → va_nd (wr_is rs) = true
  | [], _ => rfl
  | r :: t, h => by
    have h : (wr_sep r t && wr_ok t) = true := h
    rw [Bool.and_eq_true] at h
    exact wr_ndr (wr_is t) (wr_nd t h.2) r.2 r.1 (fun i hi h2 => wr_sep_mem r i h2 t h.1 hi)
theorem wr_dj (q : List (Nat × Nat)) : ∀ rs : List (Nat × Nat), wr_ap rs q = true → ∀ i ∈ wr_is rs, i ∉ wr_is q
  | [], _, i, hi => by cases hi
  | r :: t, h, i, hi => by
    have h : (wr_sep r q && wr_ap t q) = true := h
    rw [Bool.and_eq_true] at h
    have hi : i ∈ wr_r r.1 r.2 ++ wr_is t := hi
    rcases List.mem_append.mp hi with hi | hi
    · exact wr_sep_mem r i (wr_mr _ _ _ hi) q h.1
    · exact wr_dj q t h.2 i hi
