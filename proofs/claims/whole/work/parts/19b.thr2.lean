/-! methods that change their cells, and answer or throw -/
def wky {α β γ : Type} (o : Option (α ⊕ String)) (x : String → γ) (k : α → Option (β ⊕ γ)) : Option (β ⊕ γ) := match o with | none => none | some (.inr E) => some (.inr (x E)) | some (.inl a) => k a
theorem wky_s {α β γ : Type} {o : Option (α ⊕ String)} {x : String → γ} {k : α → Option (β ⊕ γ)} {r : β ⊕ γ} (h : wky o x k = some r) : (∃ a, o = some (.inl a) ∧ k a = some r) ∨ (∃ E, o = some (.inr E) ∧ r = .inr (x E)) := by
  cases o with
  | none => cases h
  | some a =>
    cases a with
    | inl a => exact Or.inl ⟨a, rfl, h⟩
    | inr E => exact Or.inr ⟨E, rfl, (Option.some.inj h).symm⟩
theorem wy_k {D : va_G} {Y : Nat → ClassId} {w : va_W} {A : Nat → Prop} {s t : State} {H H1 : Heap} (hP : va_P D vwCl w H) (hK : va_K D vwCl (vTy Y) s) (hD : va_D A w) (hq : ∀ q : Nat, q < H.size → H1[q]? = H[q]?) (ht : t.heap = H1) (hvm : s.vm.Alike t.vm) : wk_X D Y w A t := ⟨by rw [ht]; exact hP.kept (fun k q hk => hq _ (vx_lt hP hk)), va_K.moved hvm hK, hD⟩
theorem wy_F {A : Nat → Prop} {s t : State} {H H1 : Heap} {locs : List Loc} (hS : va_S A s.heap H locs) (hz : H.size ≤ H1.size) (hq : ∀ q : Nat, q < H.size → H1[q]? = H[q]?) (ht : t.heap = H1) : va_F A s t := ⟨by rw [ht]; exact Nat.le_trans hS.1 hz, fun q h1 h2 => by rw [ht, hq q (Nat.lt_of_lt_of_le h1 hS.1)]; exact hS.2.1 q h1 h2⟩
abbrev wyN {α β : Type} (out : α ⊕ β) (k : α → Array Value → State → Outcome → State → Prop) : Array Value → State → Outcome → State → Prop := fun a st o t => out.elim (fun x => k x a st o t) (fun _ => False)
abbrev wyX {α β : Type} (out : α ⊕ β) (k : β → String → State → Prop) (A : Nat → Prop) : String → State → State → Prop := fun E st t => out.elim (fun _ => False) (fun y => k y E t) ∧ va_F A st t
