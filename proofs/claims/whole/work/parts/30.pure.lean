/-! PURE LAYER: small numbers, loops, counting -/
theorem wkb1_t {α γ : Type} {o : Option α} {k : α → Option γ} {a : α} (h : o = some a) : wkb1 o k = k a := by rw [h]; rfl
theorem wkb2_t {α β γ : Type} {o : Option (α × β)} {k : α → β → Option γ} {a : α} {b : β} (h : o = some (a, b)) : wkb2 o k = k a b := by rw [h]; rfl
theorem wkb3_t {α β δ γ : Type} {o : Option (α × β × δ)} {k : α → β → δ → Option γ} {a : α} {b : β} {c : δ} (h : o = some (a, b, c)) : wkb3 o k = k a b c := by rw [h]; rfl
theorem wkb4_t {α β δ ε γ : Type} {o : Option (α × β × δ × ε)} {k : α → β → δ → ε → Option γ} {a : α} {b : β} {c : δ} {d : ε} (h : o = some (a, b, c, d)) : wkb4 o k = k a b c d := by rw [h]; rfl
theorem wkb5_t {α β δ ε ζ γ : Type} {o : Option (α × β × δ × ε × ζ)} {k : α → β → δ → ε → ζ → Option γ} {a : α} {b : β} {c : δ} {d : ε} {e : ζ} (h : o = some (a, b, c, d, e)) : wkb5 o k = k a b c d e := by rw [h]; rfl
theorem wkb6_t {α β δ ε ζ η γ : Type} {o : Option (α × β × δ × ε × ζ × η)} {k : α → β → δ → ε → ζ → η → Option γ} {a : α} {b : β} {c : δ} {d : ε} {e : ζ} {f : η} (h : o = some (a, b, c, d, e, f)) : wkb6 o k = k a b c d e f := by rw [h]; rfl
theorem wkl_t {α β : Type} (e : α) (k : α → Option β) : wkl e k = k e := rfl
/-- an ascending loop -/
theorem lup {α β : Type} (L : Nat → α → Int32 → Option β) (n : Nat) (acc : Nat → α) (res : Option β)
    (hex : ∀ nn, L (nn + 1) (acc n) (nI n) = res)
    (hst : ∀ nn k, k < n → L (nn + 1) (acc k) (nI k) = L nn (acc (k + 1)) (nI (k + 1))) :
    ∀ d k nn : Nat, k + d = n → d < nn → L nn (acc k) (nI k) = res := by
  intro d
  induction d with
  | zero =>
    intro k nn hk hn
    cases nn with
    | zero => omega
    | succ nn =>
      obtain rfl : k = n := by omega
      exact hex nn
  | succ d ih =>
    intro k nn hk hn
    cases nn with
    | zero => omega
    | succ nn =>
      rw [hst nn k (by omega)]
      exact ih (k + 1) nn (by omega) (by omega)
/-- from k0 to n, with fuel FU -/
theorem lupF {α β : Type} (L : Nat → α → Int32 → Option β) (k0 n : Nat) (acc : Nat → α) (res : Option β) (h0 : k0 ≤ n) (hn : n < 5000)
    (hex : ∀ nn, L (nn + 1) (acc n) (nI n) = res)
    (hst : ∀ nn k, k0 ≤ k → k < n → L (nn + 1) (acc k) (nI k) = L nn (acc (k + 1)) (nI (k + 1))) : L FU (acc k0) (nI k0) = res := by
  have hst' : ∀ nn k, k < n - k0 → L (nn + 1) (acc (k0 + k)) (nI (k0 + k)) = L nn (acc (k0 + (k + 1))) (nI (k0 + (k + 1))) := fun nn k hk => hst nn (k0 + k) (by omega) (by omega)
  have key : ∀ d k nn : Nat, k0 ≤ k → k + d = n → d < nn → L nn (acc k) (nI k) = res := by
    intro d
    induction d with
    | zero =>
      intro k nn h1 hk hn
      cases nn with
      | zero => omega
      | succ nn =>
        obtain rfl : k = n := by omega
        exact hex nn
    | succ d ih =>
      intro k nn h1 hk hn
      cases nn with
      | zero => omega
      | succ nn =>
        rw [hst nn k h1 (by omega)]
        exact ih (k + 1) nn (by omega) (by omega) (by omega)
  exact key (n - k0) k0 FU (Nat.le_refl _) (by omega) (by unfold FU; omega)
/-- a truth value as the machine has it -/
def bI (b : Bool) : Int32 := if b then 1 else 0
theorem bI_t : bI true = 1 := rfl
theorem bI_f : bI false = 0 := rfl
theorem bI_gbo {α : Type} (b : Bool) (x : Option α) : gbo (bI b) x = x := by
  cases b
  · exact if_pos (Or.inl rfl)
  · exact if_pos (Or.inr rfl)
theorem one_ne : ¬ ((1 : Int32) = 0) := by decide
/-- sums -/
def sm : Nat → (Nat → Nat) → Nat
  | 0, _ => 0
  | n + 1, f => sm n f + f n
theorem sm_congr {n : Nat} {f g : Nat → Nat} (h : ∀ k, k < n → f k = g k) : sm n f = sm n g := by
  induction n with
  | zero => rfl
  | succ n ih =>
    show sm n f + f n = sm n g + g n
    rw [ih (fun k hk => h k (by omega)), h n (by omega)]
theorem sm_le {n : Nat} {f g : Nat → Nat} (h : ∀ k, k < n → f k ≤ g k) : sm n f ≤ sm n g := by
  induction n with
  | zero => exact Nat.le_refl _
  | succ n ih =>
    show sm n f + f n ≤ sm n g + g n
    have h1 := ih (fun k hk => h k (by omega))
    have h2 := h n (by omega)
    omega
theorem sm_lt {n : Nat} {f g : Nat → Nat} (h : ∀ k, k < n → f k ≤ g k) {a : Nat} (ha : a < n) (hlt : f a < g a) : sm n f < sm n g := by
  induction n with
  | zero => omega
  | succ n ih =>
    show sm n f + f n < sm n g + g n
    have h2 := h n (by omega)
    by_cases e : a = n
    · subst e
      have h1 := sm_le (n := a) (f := f) (g := g) (fun k hk => h k (by omega))
      omega
    · have h1 := ih (fun k hk => h k (by omega)) (by omega)
      omega
theorem sm_bound {n c : Nat} {f : Nat → Nat} (h : ∀ k, k < n → f k ≤ c) : sm n f ≤ n * c := by
  induction n with
  | zero => exact Nat.zero_le _
  | succ n ih =>
    show sm n f + f n ≤ (n + 1) * c
    have h1 := ih (fun k hk => h k (by omega))
    have h2 := h n (by omega)
    rw [Nat.succ_mul]
    omega
theorem sm_add (n : Nat) (f g : Nat → Nat) : sm n (fun k => f k + g k) = sm n f + sm n g := by
  induction n with
  | zero => rfl
  | succ n ih =>
    show sm n (fun k => f k + g k) + (f n + g n) = (sm n f + f n) + (sm n g + g n)
    rw [ih]
    omega
theorem sm_zero {n : Nat} {f : Nat → Nat} (h : ∀ k, k < n → f k = 0) : sm n f = 0 := by
  have := sm_bound (n := n) (c := 0) (f := f) (fun k hk => by rw [h k hk]; exact Nat.le_refl _)
  omega
theorem sm_ge {n a : Nat} (f : Nat → Nat) (ha : a < n) : f a ≤ sm n f := by
  induction n with
  | zero => omega
  | succ n ih =>
    show f a ≤ sm n f + f n
    by_cases e : a = n
    · subst e; omega
    · have := ih (by omega)
      omega
theorem sm_mono {n m : Nat} (f : Nat → Nat) (h : n ≤ m) : sm n f ≤ sm m f := by
  induction m with
  | zero => obtain rfl : n = 0 := by omega
            exact Nat.le_refl _
  | succ m ih =>
    by_cases e : n = m + 1
    · subst e; exact Nat.le_refl _
    · have := ih (by omega)
      show _ ≤ sm m f + f m
      omega
/-- one place apart -/
theorem sm_off {n a : Nat} {f g : Nat → Nat} (ha : a < n) (h : ∀ k, k < n → k ≠ a → f k = g k) : sm n f + g a = sm n g + f a := by
  induction n with
  | zero => omega
  | succ n ih =>
    show sm n f + f n + g a = sm n g + g n + f a
    by_cases e : a = n
    · subst e
      have := sm_congr (n := a) (f := f) (g := g) (fun k hk => h k (by omega) (by omega))
      omega
    · have h1 := ih (by omega) (fun k hk hne => h k (by omega) hne)
      have h2 := h n (by omega) (by omega)
      omega
/-- shifts and members of a set -/
theorem sh31 : ∀ k, k < 32 → ((nI k &&& 31).toBitVec.smod 32).toNat = k := by decide +kernel
theorem pw_31 {k : Nat} (h : k < 31) : 2 ^ k < 2 ^ 31 := Nat.pow_lt_pow_right (by decide) h
theorem shl1 {k : Nat} (h : k < 31) : (1 : Int32) <<< (nI k &&& 31) = nI (2 ^ k) := by
  have h1 := pw_31 h
  have h2 := pk_shlN (n := 1) (nI k &&& 31) k (sh31 k (by omega)) (by omega)
  rw [Nat.one_mul] at h2
  exact h2
theorem bit1 {m k : Nat} (hm : m < 2 ^ 31) (hk : k < 32) : (nI m >>> (nI k &&& 31)) &&& 1 = bI (m.testBit k) := by
  rw [pk_shrN hm (nI k &&& 31) k (sh31 k hk), pk_andN (Nat.lt_of_le_of_lt (Nat.div_le_self _ _) (by omega)) 1 rfl, Nat.testBit_eq_decide_div_mod_eq]
  by_cases h : m / 2 ^ k % 2 = 1
  · rw [h]
    simp [bI]
    rfl
  · have h0 : m / 2 ^ k % 2 = 0 := by omega
    rw [Nat.pow_one, h0]
    rfl
