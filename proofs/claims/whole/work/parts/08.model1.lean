def f_X11_copies_238_1904_L3 (A_from : Nat → Int32) (x1 : Int32) (x3 : Int32) : Nat → Int32 → (Nat → Int32) → Option ((Nat → Int32))
  | 0, _, _ => none
  | nn + 1, x4, A_to =>
    if (238 : Int32) ≤ x4 then
      (some (A_to))
    else
      (gin (x1 + x4) 238 (gin (x3 + x4) 1904 (wkl (upd A_to ((x3 + x4).toNatClampNeg) (A_from (x1 + x4).toNatClampNeg)) (fun g3 =>
      f_X11_copies_238_1904_L3 A_from x1 x3 nn (x4 + 1) g3))))
def f_X11_copies_238_1904 (A_from : Nat → Int32) (A_to : Nat → Int32) (x1 : Int32) (x3 : Int32) : Option ((Nat → Int32)) :=
  f_X11_copies_238_1904_L3 A_from x1 x3 FU 0 A_to
set_option maxHeartbeats 4000000 in
set_option maxRecDepth 100000 in
theorem wl_X11_copies_238_1904_L3 {p : Program} {l : Launch} {e : Env} {s : State} {m : MethodId} {args : Array Value} {below : List Frame} {meth : Method} {c : Code} {dC : Nat → ClassId} {dI : Nat → Nat → Nat} {Y : Nat → ClassId} {a : Nat → Nat} {b : Nat → Nat} {A_from : Nat → Int32} {x1 : Int32} {x3 : Int32} {zA_to : Nat → Int32}  (C0 : wk_C p s m args meth c cX11_copies 5 none wsX11_copies RX11) {A : Nat → Prop} (hK : va_K (dC, dI) vwCl (vTy Y) s) (hA : ∀ q, s.heap.size ≤ q → A q) : ∀ (nn : Nat) (x4 : Int32)  (A_to : Nat → Int32), f_X11_copies_238_1904_L3 A_from x1 x3 nn x4 A_to = some (zA_to) → ∀ (H : Heap) (locs : List Loc), va_P (dC, dI) vwCl ([(a 0, .inl (Y 0, 238, .inl A_from))] ++ [(b 0, .inl (Y 0, 1904, .inl A_to))]) H → va_D A ([(a 0, .inl (Y 0, 238, .inl A_from))] ++ [(b 0, .inl (Y 0, 1904, .inl A_to))]) → va_S A s.heap H locs → ∀ (ls : Array Slot), lv_has ls 5 [(0, .ref (a 0)), (1, .int x1), (2, .ref (b 0)), (3, .int x3), (4, .int x4)] → W p l e (headSpec wsX11_copies ({ frames := 0, cells := 0, slots := 0, locals := 0 } : Room)).room s m args below meth c H locs 0 0 (MQ below (va_Qv (fun (_ : Unit) => True) (fun _ t => wk_X (dC, dI) Y ([(a 0, .inl (Y 0, 238, .inl A_from))] ++ [(b 0, .inl (Y 0, 1904, .inl zA_to))]) A t) A) args s 0 0 A) (F0 m 3 ls []) := by
  have C0 := C0
  obtain ⟨hx, hb, hml, hr, hlocks, hown, hts⟩ := id C0
  intro nn
  induction nn with
  | zero =>
    intro x4 A_to hf
    rw [f_X11_copies_238_1904_L3] at hf
    cases hf
  | succ nn ih =>
    intro x4 A_to hf H locs hP hD hS ls hl
    rw [f_X11_copies_238_1904_L3] at hf
    have hP : va_P (dC, dI) vwCl [(a 0, .inl (Y 0, 238, .inl A_from)), (b 0, .inl (Y 0, 1904, .inl A_to))] H := hP
    have hD : va_D A [(a 0, .inl (Y 0, 238, .inl A_from)), (b 0, .inl (Y 0, 1904, .inl A_to))] := hD
    refine lv_iload hx hb dX11_copies_3 (lv_at hl 4 rfl) ?_
    refine lv_sipush (v := 238) hx hb dX11_copies_5 (by decide) ?_
    refine lv_icmp_ge (tgt := 29) hx hb dX11_copies_8 (by decide) (fun q1 => ?_) (fun q1 => ?_)
    · have hf := wk_t hf q1
      have e0 := wke1 hf
      subst e0
      have hP9 := hP.sub (ws' := ([(a 0, .inl (Y 0, 238, .inl A_from))] ++ [(b 0, .inl (Y 0, 1904, .inl A_to))])) [0, 1] rfl
      have hD9 := hD.sub (ws' := ([(a 0, .inl (Y 0, 238, .inl A_from))] ++ [(b 0, .inl (Y 0, 1904, .inl A_to))])) [0, 1] (by decide) rfl
      exact W.vret hx hb hr (fun t ht hW => ⟨⟨(), rfl, trivial, by rw [ht]; exact hP9, va_K.moved hW.alike hK, hD9⟩, hS.F ht⟩) hS.2.2 dX11_copies_29
    · have hf := wk_f hf q1
      refine lv_aload_n hx hb dX11_copies_11 rfl (lv_at hl 2 rfl) ?_
      refine lv_iload_n hx hb dX11_copies_12 rfl (lv_at hl 3 rfl) ?_
      refine lv_iload hx hb dX11_copies_13 (lv_at hl 4 rfl) ?_
      refine lv_iadd hx hb dX11_copies_15 ?_
      refine lv_aload_n hx hb dX11_copies_16 rfl (lv_at hl 0 rfl) ?_
      refine lv_iload_n hx hb dX11_copies_17 rfl (lv_at hl 1 rfl) ?_
      refine lv_iload hx hb dX11_copies_18 (lv_at hl 4 rfl) ?_
      refine lv_iadd hx hb dX11_copies_20 ?_
      obtain ⟨h2, hf⟩ := gin_s hf
      refine wk_iald hx hb hK hP 0 0 rfl rfl h2 rfl dX11_copies_21 ?_
      obtain ⟨h4, hf⟩ := gin_s hf
      refine wk_iast hx hb hK hP hD hS 1 0 (k := (x3 + x4).toNatClampNeg) rfl rfl h4 rfl dX11_copies_22 (fun g3 H locs eg3 hP hD hS => ?_)
      have hP : va_P (dC, dI) vwCl [(a 0, .inl (Y 0, 238, .inl A_from)), (b 0, .inl (Y 0, 1904, .inl g3))] H := hP
      have hD : va_D A [(a 0, .inl (Y 0, 238, .inl A_from)), (b 0, .inl (Y 0, 1904, .inl g3))] := hD
      have hf := wkl_s hf eg3
      refine lv_iinc (v := (x4 + 1)) (lv' := [(4, .int (x4 + 1)), (0, .ref (a 0)), (1, .int x1), (2, .ref (b 0)), (3, .int x3)]) hx hb dX11_copies_23 hl (k := 4) rfl rfl (by decide) rfl (fun ls hl => ?_)
      refine lv_goto (tgt := 3) hx hb dX11_copies_26 (by decide) ?_
      exact ih (x4 + 1) g3 hf H locs hP hD hS ls (lv_sub hl [1, 2, 3, 4, 0] rfl)
set_option maxHeartbeats 4000000 in
set_option maxRecDepth 100000 in
theorem c_X11_copies_238_1904 (l : Launch) (dC : Nat → ClassId) (dI : Nat → Nat → Nat) (Y : Nat → ClassId) (a : Nat → Nat) (b : Nat → Nat) (A_from : Nat → Int32) (A_to : Nat → Int32) (x1 : Int32) (x3 : Int32) (sz : Nat) (zA_to : Nat → Int32) (hf : f_X11_copies_238_1904 A_from A_to x1 x3 = some (zA_to)) : Met l yX11_copies wsX11_copies ({ frames := 0, cells := 0, slots := 0, locals := 0 } : Room) (va_Pc [.ref (a 0), .int x1, .ref (b 0), .int x3] (wk_E (dC, dI) Y ([(a 0, .inl (Y 0, 238, .inl A_from))] ++ [(b 0, .inl (Y 0, 1904, .inl A_to))]) sz)) (va_Qv (fun (_ : Unit) => True) (fun _ t => wk_X (dC, dI) Y ([(a 0, .inl (Y 0, 238, .inl A_from))] ++ [(b 0, .inl (Y 0, 1904, .inl zA_to))]) (va_A ([(a 0, .inl (Y 0, 238, .inl A_from))] ++ [(b 0, .inl (Y 0, 1904, .inl A_to))]) sz) t) (va_A ([(a 0, .inl (Y 0, 238, .inl A_from))] ++ [(b 0, .inl (Y 0, 1904, .inl A_to))]) sz)) 0 0 (va_A ([(a 0, .inl (Y 0, 238, .inl A_from))] ++ [(b 0, .inl (Y 0, 1904, .inl A_to))]) sz) := by
  refine Met.ofW (cc := cX11_copies) (maxL := 5) (ret := none) (by decide) rfl ?_
  intro p e s m args below meth c s₁ B hml hv
  obtain ⟨rfl, hsz, hP, hK, hD0⟩ := hv
  have hx := B.exec
  have hb := B.bytes
  have hr := B.returns
  have hts := atoms_spec (ws := wsX11_copies) B.pre
  have hown : s.vm.findClass RX11 = some m.cls := findClass_of_methodNamed B.named
  have hlocks := B.notSynchronized
  have C0 : wk_C p s m _ meth c cX11_copies 5 none wsX11_copies RX11 := ⟨hx, hb, hml, hr, hlocks, hown, hts⟩
  subst hsz
  have hD := hD0.self (sz := s.heap.size)
  generalize hAe : va_A ([(a 0, .inl (Y 0, 238, .inl A_from))] ++ [(b 0, .inl (Y 0, 1904, .inl A_to))]) s.heap.size = A at hD ⊢
  have hA : ∀ q : Nat, s.heap.size ≤ q → A q := fun q h => by rw [← hAe]; exact Or.inr h
  have hS : va_S A s.heap s.heap [] := va_S.rf
  obtain ⟨H, hHe⟩ : ∃ H, H = s.heap := ⟨_, rfl⟩
  have hS : va_S A s.heap H [] := by rw [hHe]; exact hS
  have hP : va_P (dC, dI) vwCl [(a 0, .inl (Y 0, 238, .inl A_from)), (b 0, .inl (Y 0, 1904, .inl A_to))] H := by rw [hHe]; exact hP
  have hD : va_D A [(a 0, .inl (Y 0, 238, .inl A_from)), (b 0, .inl (Y 0, 1904, .inl A_to))] := hD
  obtain ⟨locs, hlo⟩ : ∃ locs : List Loc, locs = [] := ⟨_, rfl⟩
  have hS : va_S A s.heap H locs := by rw [hlo]; exact hS
  have hl := lv_entry ([.ref (a 0), .int x1, .ref (b 0), .int x3]) (n := 5) (Nat.le_of_ble_eq_true rfl)
  rw [lg_entry_eq]
  generalize (lg_sl ([.ref (a 0), .int x1, .ref (b 0), .int x3]) ++ List.replicate (5 - (lg_sl ([.ref (a 0), .int x1, .ref (b 0), .int x3])).length) Slot.unset).toArray = ls at hl ⊢
  have hl : lv_has ls 5 [(0, .ref (a 0)), (1, .int x1), (2, .ref (b 0)), (3, .int x3)] := hl
  refine wk_start hHe hlo ?_
  rw [f_X11_copies_238_1904] at hf
  refine lv_iconst (v := 0) hx hb dX11_copies_0 (by decide) ?_
  refine lv_istore (lv' := [(4, .int 0), (0, .ref (a 0)), (1, .int x1), (2, .ref (b 0)), (3, .int x3)]) hx hb dX11_copies_1 hl (by decide) rfl (fun ls hl => ?_)
  exact wl_X11_copies_238_1904_L3 C0 hK hA FU 0 A_to hf H locs hP hD hS ls (lv_sub hl [1, 2, 3, 4, 0] rfl)
def f_X11_copies_1904_238_L3 (A_from : Nat → Int32) (x1 : Int32) (x3 : Int32) : Nat → Int32 → (Nat → Int32) → Option ((Nat → Int32))
  | 0, _, _ => none
  | nn + 1, x4, A_to =>
    if (238 : Int32) ≤ x4 then
      (some (A_to))
    else
      (gin (x1 + x4) 1904 (gin (x3 + x4) 238 (wkl (upd A_to ((x3 + x4).toNatClampNeg) (A_from (x1 + x4).toNatClampNeg)) (fun g3 =>
      f_X11_copies_1904_238_L3 A_from x1 x3 nn (x4 + 1) g3))))
def f_X11_copies_1904_238 (A_from : Nat → Int32) (A_to : Nat → Int32) (x1 : Int32) (x3 : Int32) : Option ((Nat → Int32)) :=
  f_X11_copies_1904_238_L3 A_from x1 x3 FU 0 A_to
set_option maxHeartbeats 4000000 in
set_option maxRecDepth 100000 in
theorem wl_X11_copies_1904_238_L3 {p : Program} {l : Launch} {e : Env} {s : State} {m : MethodId} {args : Array Value} {below : List Frame} {meth : Method} {c : Code} {dC : Nat → ClassId} {dI : Nat → Nat → Nat} {Y : Nat → ClassId} {a : Nat → Nat} {b : Nat → Nat} {A_from : Nat → Int32} {x1 : Int32} {x3 : Int32} {zA_to : Nat → Int32}  (C0 : wk_C p s m args meth c cX11_copies 5 none wsX11_copies RX11) {A : Nat → Prop} (hK : va_K (dC, dI) vwCl (vTy Y) s) (hA : ∀ q, s.heap.size ≤ q → A q) : ∀ (nn : Nat) (x4 : Int32)  (A_to : Nat → Int32), f_X11_copies_1904_238_L3 A_from x1 x3 nn x4 A_to = some (zA_to) → ∀ (H : Heap) (locs : List Loc), va_P (dC, dI) vwCl ([(a 0, .inl (Y 0, 1904, .inl A_from))] ++ [(b 0, .inl (Y 0, 238, .inl A_to))]) H → va_D A ([(a 0, .inl (Y 0, 1904, .inl A_from))] ++ [(b 0, .inl (Y 0, 238, .inl A_to))]) → va_S A s.heap H locs → ∀ (ls : Array Slot), lv_has ls 5 [(0, .ref (a 0)), (1, .int x1), (2, .ref (b 0)), (3, .int x3), (4, .int x4)] → W p l e (headSpec wsX11_copies ({ frames := 0, cells := 0, slots := 0, locals := 0 } : Room)).room s m args below meth c H locs 0 0 (MQ below (va_Qv (fun (_ : Unit) => True) (fun _ t => wk_X (dC, dI) Y ([(a 0, .inl (Y 0, 1904, .inl A_from))] ++ [(b 0, .inl (Y 0, 238, .inl zA_to))]) A t) A) args s 0 0 A) (F0 m 3 ls []) := by
  have C0 := C0
  obtain ⟨hx, hb, hml, hr, hlocks, hown, hts⟩ := id C0
  intro nn
  induction nn with
  | zero =>
    intro x4 A_to hf
    rw [f_X11_copies_1904_238_L3] at hf
    cases hf
  | succ nn ih =>
    intro x4 A_to hf H locs hP hD hS ls hl
    rw [f_X11_copies_1904_238_L3] at hf
    have hP : va_P (dC, dI) vwCl [(a 0, .inl (Y 0, 1904, .inl A_from)), (b 0, .inl (Y 0, 238, .inl A_to))] H := hP
    have hD : va_D A [(a 0, .inl (Y 0, 1904, .inl A_from)), (b 0, .inl (Y 0, 238, .inl A_to))] := hD
    refine lv_iload hx hb dX11_copies_3 (lv_at hl 4 rfl) ?_
    refine lv_sipush (v := 238) hx hb dX11_copies_5 (by decide) ?_
    refine lv_icmp_ge (tgt := 29) hx hb dX11_copies_8 (by decide) (fun q1 => ?_) (fun q1 => ?_)
    · have hf := wk_t hf q1
      have e0 := wke1 hf
      subst e0
      have hP9 := hP.sub (ws' := ([(a 0, .inl (Y 0, 1904, .inl A_from))] ++ [(b 0, .inl (Y 0, 238, .inl A_to))])) [0, 1] rfl
      have hD9 := hD.sub (ws' := ([(a 0, .inl (Y 0, 1904, .inl A_from))] ++ [(b 0, .inl (Y 0, 238, .inl A_to))])) [0, 1] (by decide) rfl
      exact W.vret hx hb hr (fun t ht hW => ⟨⟨(), rfl, trivial, by rw [ht]; exact hP9, va_K.moved hW.alike hK, hD9⟩, hS.F ht⟩) hS.2.2 dX11_copies_29
    · have hf := wk_f hf q1
      refine lv_aload_n hx hb dX11_copies_11 rfl (lv_at hl 2 rfl) ?_
      refine lv_iload_n hx hb dX11_copies_12 rfl (lv_at hl 3 rfl) ?_
      refine lv_iload hx hb dX11_copies_13 (lv_at hl 4 rfl) ?_
      refine lv_iadd hx hb dX11_copies_15 ?_
      refine lv_aload_n hx hb dX11_copies_16 rfl (lv_at hl 0 rfl) ?_
      refine lv_iload_n hx hb dX11_copies_17 rfl (lv_at hl 1 rfl) ?_
      refine lv_iload hx hb dX11_copies_18 (lv_at hl 4 rfl) ?_
      refine lv_iadd hx hb dX11_copies_20 ?_
      obtain ⟨h2, hf⟩ := gin_s hf
      refine wk_iald hx hb hK hP 0 0 rfl rfl h2 rfl dX11_copies_21 ?_
      obtain ⟨h4, hf⟩ := gin_s hf
      refine wk_iast hx hb hK hP hD hS 1 0 (k := (x3 + x4).toNatClampNeg) rfl rfl h4 rfl dX11_copies_22 (fun g3 H locs eg3 hP hD hS => ?_)
      have hP : va_P (dC, dI) vwCl [(a 0, .inl (Y 0, 1904, .inl A_from)), (b 0, .inl (Y 0, 238, .inl g3))] H := hP
      have hD : va_D A [(a 0, .inl (Y 0, 1904, .inl A_from)), (b 0, .inl (Y 0, 238, .inl g3))] := hD
      have hf := wkl_s hf eg3
      refine lv_iinc (v := (x4 + 1)) (lv' := [(4, .int (x4 + 1)), (0, .ref (a 0)), (1, .int x1), (2, .ref (b 0)), (3, .int x3)]) hx hb dX11_copies_23 hl (k := 4) rfl rfl (by decide) rfl (fun ls hl => ?_)
      refine lv_goto (tgt := 3) hx hb dX11_copies_26 (by decide) ?_
      exact ih (x4 + 1) g3 hf H locs hP hD hS ls (lv_sub hl [1, 2, 3, 4, 0] rfl)
set_option maxHeartbeats 4000000 in
set_option maxRecDepth 100000 in
theorem c_X11_copies_1904_238 (l : Launch) (dC : Nat → ClassId) (dI : Nat → Nat → Nat) (Y : Nat → ClassId) (a : Nat → Nat) (b : Nat → Nat) (A_from : Nat → Int32) (A_to : Nat → Int32) (x1 : Int32) (x3 : Int32) (sz : Nat) (zA_to : Nat → Int32) (hf : f_X11_copies_1904_238 A_from A_to x1 x3 = some (zA_to)) : Met l yX11_copies wsX11_copies ({ frames := 0, cells := 0, slots := 0, locals := 0 } : Room) (va_Pc [.ref (a 0), .int x1, .ref (b 0), .int x3] (wk_E (dC, dI) Y ([(a 0, .inl (Y 0, 1904, .inl A_from))] ++ [(b 0, .inl (Y 0, 238, .inl A_to))]) sz)) (va_Qv (fun (_ : Unit) => True) (fun _ t => wk_X (dC, dI) Y ([(a 0, .inl (Y 0, 1904, .inl A_from))] ++ [(b 0, .inl (Y 0, 238, .inl zA_to))]) (va_A ([(a 0, .inl (Y 0, 1904, .inl A_from))] ++ [(b 0, .inl (Y 0, 238, .inl A_to))]) sz) t) (va_A ([(a 0, .inl (Y 0, 1904, .inl A_from))] ++ [(b 0, .inl (Y 0, 238, .inl A_to))]) sz)) 0 0 (va_A ([(a 0, .inl (Y 0, 1904, .inl A_from))] ++ [(b 0, .inl (Y 0, 238, .inl A_to))]) sz) := by
  refine Met.ofW (cc := cX11_copies) (maxL := 5) (ret := none) (by decide) rfl ?_
  intro p e s m args below meth c s₁ B hml hv
  obtain ⟨rfl, hsz, hP, hK, hD0⟩ := hv
  have hx := B.exec
  have hb := B.bytes
  have hr := B.returns
  have hts := atoms_spec (ws := wsX11_copies) B.pre
  have hown : s.vm.findClass RX11 = some m.cls := findClass_of_methodNamed B.named
  have hlocks := B.notSynchronized
  have C0 : wk_C p s m _ meth c cX11_copies 5 none wsX11_copies RX11 := ⟨hx, hb, hml, hr, hlocks, hown, hts⟩
  subst hsz
  have hD := hD0.self (sz := s.heap.size)
  generalize hAe : va_A ([(a 0, .inl (Y 0, 1904, .inl A_from))] ++ [(b 0, .inl (Y 0, 238, .inl A_to))]) s.heap.size = A at hD ⊢
  have hA : ∀ q : Nat, s.heap.size ≤ q → A q := fun q h => by rw [← hAe]; exact Or.inr h
  have hS : va_S A s.heap s.heap [] := va_S.rf
  obtain ⟨H, hHe⟩ : ∃ H, H = s.heap := ⟨_, rfl⟩
  have hS : va_S A s.heap H [] := by rw [hHe]; exact hS
  have hP : va_P (dC, dI) vwCl [(a 0, .inl (Y 0, 1904, .inl A_from)), (b 0, .inl (Y 0, 238, .inl A_to))] H := by rw [hHe]; exact hP
  have hD : va_D A [(a 0, .inl (Y 0, 1904, .inl A_from)), (b 0, .inl (Y 0, 238, .inl A_to))] := hD
  obtain ⟨locs, hlo⟩ : ∃ locs : List Loc, locs = [] := ⟨_, rfl⟩
  have hS : va_S A s.heap H locs := by rw [hlo]; exact hS
  have hl := lv_entry ([.ref (a 0), .int x1, .ref (b 0), .int x3]) (n := 5) (Nat.le_of_ble_eq_true rfl)
  rw [lg_entry_eq]
  generalize (lg_sl ([.ref (a 0), .int x1, .ref (b 0), .int x3]) ++ List.replicate (5 - (lg_sl ([.ref (a 0), .int x1, .ref (b 0), .int x3])).length) Slot.unset).toArray = ls at hl ⊢
  have hl : lv_has ls 5 [(0, .ref (a 0)), (1, .int x1), (2, .ref (b 0)), (3, .int x3)] := hl
  refine wk_start hHe hlo ?_
  rw [f_X11_copies_1904_238] at hf
  refine lv_iconst (v := 0) hx hb dX11_copies_0 (by decide) ?_
  refine lv_istore (lv' := [(4, .int 0), (0, .ref (a 0)), (1, .int x1), (2, .ref (b 0)), (3, .int x3)]) hx hb dX11_copies_1 hl (by decide) rfl (fun ls hl => ?_)
  exact wl_X11_copies_1904_238_L3 C0 hK hA FU 0 A_to hf H locs hP hD hS ls (lv_sub hl [1, 2, 3, 4, 0] rfl)
def f_X11_copies_238_238_L3 (A_from : Nat → Int32) (x1 : Int32) (x3 : Int32) : Nat → Int32 → (Nat → Int32) → Option ((Nat → Int32))
  | 0, _, _ => none
  | nn + 1, x4, A_to =>
    if (238 : Int32) ≤ x4 then
      (some (A_to))
    else
      (gin (x1 + x4) 238 (gin (x3 + x4) 238 (wkl (upd A_to ((x3 + x4).toNatClampNeg) (A_from (x1 + x4).toNatClampNeg)) (fun g3 =>
      f_X11_copies_238_238_L3 A_from x1 x3 nn (x4 + 1) g3))))
def f_X11_copies_238_238 (A_from : Nat → Int32) (A_to : Nat → Int32) (x1 : Int32) (x3 : Int32) : Option ((Nat → Int32)) :=
  f_X11_copies_238_238_L3 A_from x1 x3 FU 0 A_to
set_option maxHeartbeats 4000000 in
set_option maxRecDepth 100000 in
theorem wl_X11_copies_238_238_L3 {p : Program} {l : Launch} {e : Env} {s : State} {m : MethodId} {args : Array Value} {below : List Frame} {meth : Method} {c : Code} {dC : Nat → ClassId} {dI : Nat → Nat → Nat} {Y : Nat → ClassId} {a : Nat → Nat} {b : Nat → Nat} {A_from : Nat → Int32} {x1 : Int32} {x3 : Int32} {zA_to : Nat → Int32}  (C0 : wk_C p s m args meth c cX11_copies 5 none wsX11_copies RX11) {A : Nat → Prop} (hK : va_K (dC, dI) vwCl (vTy Y) s) (hA : ∀ q, s.heap.size ≤ q → A q) : ∀ (nn : Nat) (x4 : Int32)  (A_to : Nat → Int32), f_X11_copies_238_238_L3 A_from x1 x3 nn x4 A_to = some (zA_to) → ∀ (H : Heap) (locs : List Loc), va_P (dC, dI) vwCl ([(a 0, .inl (Y 0, 238, .inl A_from))] ++ [(b 0, .inl (Y 0, 238, .inl A_to))]) H → va_D A ([(a 0, .inl (Y 0, 238, .inl A_from))] ++ [(b 0, .inl (Y 0, 238, .inl A_to))]) → va_S A s.heap H locs → ∀ (ls : Array Slot), lv_has ls 5 [(0, .ref (a 0)), (1, .int x1), (2, .ref (b 0)), (3, .int x3), (4, .int x4)] → W p l e (headSpec wsX11_copies ({ frames := 0, cells := 0, slots := 0, locals := 0 } : Room)).room s m args below meth c H locs 0 0 (MQ below (va_Qv (fun (_ : Unit) => True) (fun _ t => wk_X (dC, dI) Y ([(a 0, .inl (Y 0, 238, .inl A_from))] ++ [(b 0, .inl (Y 0, 238, .inl zA_to))]) A t) A) args s 0 0 A) (F0 m 3 ls []) := by
  have C0 := C0
  obtain ⟨hx, hb, hml, hr, hlocks, hown, hts⟩ := id C0
  intro nn
  induction nn with
  | zero =>
    intro x4 A_to hf
    rw [f_X11_copies_238_238_L3] at hf
    cases hf
  | succ nn ih =>
    intro x4 A_to hf H locs hP hD hS ls hl
    rw [f_X11_copies_238_238_L3] at hf
    have hP : va_P (dC, dI) vwCl [(a 0, .inl (Y 0, 238, .inl A_from)), (b 0, .inl (Y 0, 238, .inl A_to))] H := hP
    have hD : va_D A [(a 0, .inl (Y 0, 238, .inl A_from)), (b 0, .inl (Y 0, 238, .inl A_to))] := hD
    refine lv_iload hx hb dX11_copies_3 (lv_at hl 4 rfl) ?_
    refine lv_sipush (v := 238) hx hb dX11_copies_5 (by decide) ?_
    refine lv_icmp_ge (tgt := 29) hx hb dX11_copies_8 (by decide) (fun q1 => ?_) (fun q1 => ?_)
    · have hf := wk_t hf q1
      have e0 := wke1 hf
      subst e0
      have hP9 := hP.sub (ws' := ([(a 0, .inl (Y 0, 238, .inl A_from))] ++ [(b 0, .inl (Y 0, 238, .inl A_to))])) [0, 1] rfl
      have hD9 := hD.sub (ws' := ([(a 0, .inl (Y 0, 238, .inl A_from))] ++ [(b 0, .inl (Y 0, 238, .inl A_to))])) [0, 1] (by decide) rfl
      exact W.vret hx hb hr (fun t ht hW => ⟨⟨(), rfl, trivial, by rw [ht]; exact hP9, va_K.moved hW.alike hK, hD9⟩, hS.F ht⟩) hS.2.2 dX11_copies_29
    · have hf := wk_f hf q1
      refine lv_aload_n hx hb dX11_copies_11 rfl (lv_at hl 2 rfl) ?_
      refine lv_iload_n hx hb dX11_copies_12 rfl (lv_at hl 3 rfl) ?_
      refine lv_iload hx hb dX11_copies_13 (lv_at hl 4 rfl) ?_
      refine lv_iadd hx hb dX11_copies_15 ?_
      refine lv_aload_n hx hb dX11_copies_16 rfl (lv_at hl 0 rfl) ?_
      refine lv_iload_n hx hb dX11_copies_17 rfl (lv_at hl 1 rfl) ?_
      refine lv_iload hx hb dX11_copies_18 (lv_at hl 4 rfl) ?_
      refine lv_iadd hx hb dX11_copies_20 ?_
      obtain ⟨h2, hf⟩ := gin_s hf
      refine wk_iald hx hb hK hP 0 0 rfl rfl h2 rfl dX11_copies_21 ?_
      obtain ⟨h4, hf⟩ := gin_s hf
      refine wk_iast hx hb hK hP hD hS 1 0 (k := (x3 + x4).toNatClampNeg) rfl rfl h4 rfl dX11_copies_22 (fun g3 H locs eg3 hP hD hS => ?_)
      have hP : va_P (dC, dI) vwCl [(a 0, .inl (Y 0, 238, .inl A_from)), (b 0, .inl (Y 0, 238, .inl g3))] H := hP
      have hD : va_D A [(a 0, .inl (Y 0, 238, .inl A_from)), (b 0, .inl (Y 0, 238, .inl g3))] := hD
      have hf := wkl_s hf eg3
      refine lv_iinc (v := (x4 + 1)) (lv' := [(4, .int (x4 + 1)), (0, .ref (a 0)), (1, .int x1), (2, .ref (b 0)), (3, .int x3)]) hx hb dX11_copies_23 hl (k := 4) rfl rfl (by decide) rfl (fun ls hl => ?_)
      refine lv_goto (tgt := 3) hx hb dX11_copies_26 (by decide) ?_
      exact ih (x4 + 1) g3 hf H locs hP hD hS ls (lv_sub hl [1, 2, 3, 4, 0] rfl)
set_option maxHeartbeats 4000000 in
set_option maxRecDepth 100000 in
theorem c_X11_copies_238_238 (l : Launch) (dC : Nat → ClassId) (dI : Nat → Nat → Nat) (Y : Nat → ClassId) (a : Nat → Nat) (b : Nat → Nat) (A_from : Nat → Int32) (A_to : Nat → Int32) (x1 : Int32) (x3 : Int32) (sz : Nat) (zA_to : Nat → Int32) (hf : f_X11_copies_238_238 A_from A_to x1 x3 = some (zA_to)) : Met l yX11_copies wsX11_copies ({ frames := 0, cells := 0, slots := 0, locals := 0 } : Room) (va_Pc [.ref (a 0), .int x1, .ref (b 0), .int x3] (wk_E (dC, dI) Y ([(a 0, .inl (Y 0, 238, .inl A_from))] ++ [(b 0, .inl (Y 0, 238, .inl A_to))]) sz)) (va_Qv (fun (_ : Unit) => True) (fun _ t => wk_X (dC, dI) Y ([(a 0, .inl (Y 0, 238, .inl A_from))] ++ [(b 0, .inl (Y 0, 238, .inl zA_to))]) (va_A ([(a 0, .inl (Y 0, 238, .inl A_from))] ++ [(b 0, .inl (Y 0, 238, .inl A_to))]) sz) t) (va_A ([(a 0, .inl (Y 0, 238, .inl A_from))] ++ [(b 0, .inl (Y 0, 238, .inl A_to))]) sz)) 0 0 (va_A ([(a 0, .inl (Y 0, 238, .inl A_from))] ++ [(b 0, .inl (Y 0, 238, .inl A_to))]) sz) := by
  refine Met.ofW (cc := cX11_copies) (maxL := 5) (ret := none) (by decide) rfl ?_
  intro p e s m args below meth c s₁ B hml hv
  obtain ⟨rfl, hsz, hP, hK, hD0⟩ := hv
  have hx := B.exec
  have hb := B.bytes
  have hr := B.returns
  have hts := atoms_spec (ws := wsX11_copies) B.pre
  have hown : s.vm.findClass RX11 = some m.cls := findClass_of_methodNamed B.named
  have hlocks := B.notSynchronized
  have C0 : wk_C p s m _ meth c cX11_copies 5 none wsX11_copies RX11 := ⟨hx, hb, hml, hr, hlocks, hown, hts⟩
  subst hsz
  have hD := hD0.self (sz := s.heap.size)
  generalize hAe : va_A ([(a 0, .inl (Y 0, 238, .inl A_from))] ++ [(b 0, .inl (Y 0, 238, .inl A_to))]) s.heap.size = A at hD ⊢
  have hA : ∀ q : Nat, s.heap.size ≤ q → A q := fun q h => by rw [← hAe]; exact Or.inr h
  have hS : va_S A s.heap s.heap [] := va_S.rf
  obtain ⟨H, hHe⟩ : ∃ H, H = s.heap := ⟨_, rfl⟩
  have hS : va_S A s.heap H [] := by rw [hHe]; exact hS
  have hP : va_P (dC, dI) vwCl [(a 0, .inl (Y 0, 238, .inl A_from)), (b 0, .inl (Y 0, 238, .inl A_to))] H := by rw [hHe]; exact hP
  have hD : va_D A [(a 0, .inl (Y 0, 238, .inl A_from)), (b 0, .inl (Y 0, 238, .inl A_to))] := hD
  obtain ⟨locs, hlo⟩ : ∃ locs : List Loc, locs = [] := ⟨_, rfl⟩
  have hS : va_S A s.heap H locs := by rw [hlo]; exact hS
  have hl := lv_entry ([.ref (a 0), .int x1, .ref (b 0), .int x3]) (n := 5) (Nat.le_of_ble_eq_true rfl)
  rw [lg_entry_eq]
  generalize (lg_sl ([.ref (a 0), .int x1, .ref (b 0), .int x3]) ++ List.replicate (5 - (lg_sl ([.ref (a 0), .int x1, .ref (b 0), .int x3])).length) Slot.unset).toArray = ls at hl ⊢
  have hl : lv_has ls 5 [(0, .ref (a 0)), (1, .int x1), (2, .ref (b 0)), (3, .int x3)] := hl
  refine wk_start hHe hlo ?_
  rw [f_X11_copies_238_238] at hf
  refine lv_iconst (v := 0) hx hb dX11_copies_0 (by decide) ?_
  refine lv_istore (lv' := [(4, .int 0), (0, .ref (a 0)), (1, .int x1), (2, .ref (b 0)), (3, .int x3)]) hx hb dX11_copies_1 hl (by decide) rfl (fun ls hl => ?_)
  exact wl_X11_copies_238_238_L3 C0 hK hA FU 0 A_to hf H locs hP hD hS ls (lv_sub hl [1, 2, 3, 4, 0] rfl)
theorem lk_X11_thrown_RX11_51 : Cond.fieldLink RX11 51 "CircusLedgerModel" "code" "I" ∈ wsX11_thrown := by decide +kernel
theorem in_X11_thrown_X11 : ∀ w ∈ u_ws RX11 TX11 22, w ∈ wsX11_thrown := by decide +kernel
def f_X11_thrown (M_code : Int32) : Option (Int32) :=
  some (M_code)
set_option maxHeartbeats 4000000 in
set_option maxRecDepth 100000 in
theorem c_X11_thrown (l : Launch) (dC : Nat → ClassId) (dI : Nat → Nat → Nat) (Y : Nat → ClassId) (a : Nat → Nat) (M_g : Nat → Int32) (M_kept : Nat → Int32) (M_saved : Nat → Int32) (M_before : Nat → Int32) (M_isSaved : Int32) (M_changes : Int32) (M_isWithin : Int32) (M_code : Int32) (M_input : Nat → Int32) (M_length : Int32) (M_fault : Int32) (M_failed : Int32) (M_signs : Nat → Int32) (M_signMany : Int32) (M_column : Nat → Int32) (M_loads : Nat → Int32) (M_many : Int32) (M_sums : Nat → Int32) (M_groups : Nat → Int32) (M_at : Int32) (M_told : Nat → Int32) (M_toldMany : Int32)  (r : Int32) (hf : f_X11_thrown M_code = some (r)) : Met l yX11_thrown wsX11_thrown ({ frames := 0, cells := 0, slots := 0, locals := 0 } : Room) (va_Pc [.ref (a 0)] (wk_B (dC, dI) Y (wX11 Y a M_g M_kept M_saved M_before M_isSaved M_changes M_isWithin M_code M_input M_length M_fault M_failed M_signs M_signMany M_column M_loads M_many M_sums M_groups M_at M_told M_toldMany))) (vp_Si (fun r2 => r2 = r)) 0 0 (fun _ => False) := by
  refine Met.ofW (cc := cX11_thrown) (maxL := 1) (ret := (some .int)) (by decide) rfl ?_
  intro p e s m args below meth c s₁ B hml hv
  obtain ⟨rfl, hP, hK⟩ := hv
  have hx := B.exec
  have hb := B.bytes
  have hr := B.returns
  have hts := atoms_spec (ws := wsX11_thrown) B.pre
  have hown : s.vm.findClass RX11 = some m.cls := findClass_of_methodNamed B.named
  have hlocks := B.notSynchronized
  have C0 : wk_C p s m _ meth c cX11_thrown 1 (some .int) wsX11_thrown RX11 := ⟨hx, hb, hml, hr, hlocks, hown, hts⟩
  have hP : va_P (dC, dI) vwCl [(a 0, .inr (11, [.ref (a 1), .ref (a 2), .ref (a 3), .ref (a 4), .int M_isSaved, .int M_changes, .int M_isWithin, .int M_code, .ref (a 5), .int M_length, .int M_fault, .int M_failed, .ref (a 6), .int M_signMany, .ref (a 7), .ref (a 8), .int M_many, .ref (a 9), .ref (a 10), .int M_at, .ref (a 11), .int M_toldMany])), (a 1, .inl (Y 0, 238, .inl M_g)), (a 2, .inl (Y 0, 1904, .inl M_kept)), (a 3, .inl (Y 0, 238, .inl M_saved)), (a 4, .inl (Y 0, 238, .inl M_before)), (a 5, .inl (Y 0, 60, .inl M_input)), (a 6, .inl (Y 2, 100, .inl M_signs)), (a 7, .inl (Y 0, 6, .inl M_column)), (a 8, .inl (Y 0, 6, .inl M_loads)), (a 9, .inl (Y 0, 2048, .inl M_sums)), (a 10, .inl (Y 0, 2048, .inl M_groups)), (a 11, .inl (Y 0, 155, .inl M_told))] s.heap := hP
  have hl := lv_entry ([.ref (a 0)]) (n := 1) (Nat.le_of_ble_eq_true rfl)
  rw [lg_entry_eq]
  generalize (lg_sl ([.ref (a 0)]) ++ List.replicate (1 - (lg_sl ([.ref (a 0)])).length) Slot.unset).toArray = ls at hl ⊢
  have hl : lv_has ls 1 [(0, .ref (a 0))] := hl
  rw [f_X11_thrown] at hf
  refine lv_aload_n hx hb dX11_thrown_0 rfl (lv_at hl 0 rfl) ?_
  refine va_get (D := (dC, dI)) (ci := 11) (v := .int M_code) (C := RX11) (T := TX11) (N := 22) hx hb hts in_X11_thrown_X11 hown hK hP 0 rfl rfl 7 (by decide) (hts _ lk_X11_thrown_RX11_51) (fun _ h9 => h9) rfl dX11_thrown_1 ?_
  have e0 := wke1 hf
  subst e0
  exact W.iret (v := M_code) hx hb hr (fun t ht hW => ⟨M_code, rfl, rfl, ht⟩) (fun q h => absurd h List.not_mem_nil) dX11_thrown_4
theorem lk_X11_fails_RX11_51 : Cond.fieldLink RX11 51 "CircusLedgerModel" "code" "I" ∈ wsX11_fails := by decide +kernel
theorem in_X11_fails_X11 : ∀ w ∈ u_ws RX11 TX11 22, w ∈ wsX11_fails := by decide +kernel
def f_X11_fails (M_code : Int32) (x1 : Int32) : Option (Int32 × Int32) :=
  if x1 ≤ 0 then
    (some (0, x1))
  else
    (some (1, x1))
set_option maxHeartbeats 4000000 in
set_option maxRecDepth 100000 in
theorem c_X11_fails (l : Launch) (dC : Nat → ClassId) (dI : Nat → Nat → Nat) (Y : Nat → ClassId) (a : Nat → Nat) (M_g : Nat → Int32) (M_kept : Nat → Int32) (M_saved : Nat → Int32) (M_before : Nat → Int32) (M_isSaved : Int32) (M_changes : Int32) (M_isWithin : Int32) (M_code : Int32) (M_input : Nat → Int32) (M_length : Int32) (M_fault : Int32) (M_failed : Int32) (M_signs : Nat → Int32) (M_signMany : Int32) (M_column : Nat → Int32) (M_loads : Nat → Int32) (M_many : Int32) (M_sums : Nat → Int32) (M_groups : Nat → Int32) (M_at : Int32) (M_told : Nat → Int32) (M_toldMany : Int32) (x1 : Int32) (sz : Nat) (r : Int32) (zM_code : Int32) (hf : f_X11_fails M_code x1 = some (r, zM_code)) : Met l yX11_fails wsX11_fails ({ frames := 0, cells := 0, slots := 0, locals := 0 } : Room) (va_Pc [.ref (a 0), .int x1] (wk_E (dC, dI) Y (wX11 Y a M_g M_kept M_saved M_before M_isSaved M_changes M_isWithin M_code M_input M_length M_fault M_failed M_signs M_signMany M_column M_loads M_many M_sums M_groups M_at M_told M_toldMany) sz)) (va_Qi (fun r2 (_ : Unit) => r2 = r) (fun _ t => wk_X (dC, dI) Y (wX11 Y a M_g M_kept M_saved M_before M_isSaved M_changes M_isWithin zM_code M_input M_length M_fault M_failed M_signs M_signMany M_column M_loads M_many M_sums M_groups M_at M_told M_toldMany) (va_A (wX11 Y a M_g M_kept M_saved M_before M_isSaved M_changes M_isWithin M_code M_input M_length M_fault M_failed M_signs M_signMany M_column M_loads M_many M_sums M_groups M_at M_told M_toldMany) sz) t) (va_A (wX11 Y a M_g M_kept M_saved M_before M_isSaved M_changes M_isWithin M_code M_input M_length M_fault M_failed M_signs M_signMany M_column M_loads M_many M_sums M_groups M_at M_told M_toldMany) sz)) 0 0 (va_A (wX11 Y a M_g M_kept M_saved M_before M_isSaved M_changes M_isWithin M_code M_input M_length M_fault M_failed M_signs M_signMany M_column M_loads M_many M_sums M_groups M_at M_told M_toldMany) sz) := by
  refine Met.ofW (cc := cX11_fails) (maxL := 2) (ret := (some .boolean)) (by decide) rfl ?_
  intro p e s m args below meth c s₁ B hml hv
  obtain ⟨rfl, hsz, hP, hK, hD0⟩ := hv
  have hx := B.exec
  have hb := B.bytes
  have hr := B.returns
  have hts := atoms_spec (ws := wsX11_fails) B.pre
  have hown : s.vm.findClass RX11 = some m.cls := findClass_of_methodNamed B.named
  have hlocks := B.notSynchronized
  have C0 : wk_C p s m _ meth c cX11_fails 2 (some .boolean) wsX11_fails RX11 := ⟨hx, hb, hml, hr, hlocks, hown, hts⟩
  subst hsz
  have hD := hD0.self (sz := s.heap.size)
  generalize hAe : va_A (wX11 Y a M_g M_kept M_saved M_before M_isSaved M_changes M_isWithin M_code M_input M_length M_fault M_failed M_signs M_signMany M_column M_loads M_many M_sums M_groups M_at M_told M_toldMany) s.heap.size = A at hD ⊢
  have hA : ∀ q : Nat, s.heap.size ≤ q → A q := fun q h => by rw [← hAe]; exact Or.inr h
  have hS : va_S A s.heap s.heap [] := va_S.rf
  obtain ⟨H, hHe⟩ : ∃ H, H = s.heap := ⟨_, rfl⟩
  have hS : va_S A s.heap H [] := by rw [hHe]; exact hS
  have hP : va_P (dC, dI) vwCl [(a 0, .inr (11, [.ref (a 1), .ref (a 2), .ref (a 3), .ref (a 4), .int M_isSaved, .int M_changes, .int M_isWithin, .int M_code, .ref (a 5), .int M_length, .int M_fault, .int M_failed, .ref (a 6), .int M_signMany, .ref (a 7), .ref (a 8), .int M_many, .ref (a 9), .ref (a 10), .int M_at, .ref (a 11), .int M_toldMany])), (a 1, .inl (Y 0, 238, .inl M_g)), (a 2, .inl (Y 0, 1904, .inl M_kept)), (a 3, .inl (Y 0, 238, .inl M_saved)), (a 4, .inl (Y 0, 238, .inl M_before)), (a 5, .inl (Y 0, 60, .inl M_input)), (a 6, .inl (Y 2, 100, .inl M_signs)), (a 7, .inl (Y 0, 6, .inl M_column)), (a 8, .inl (Y 0, 6, .inl M_loads)), (a 9, .inl (Y 0, 2048, .inl M_sums)), (a 10, .inl (Y 0, 2048, .inl M_groups)), (a 11, .inl (Y 0, 155, .inl M_told))] H := by rw [hHe]; exact hP
  have hD : va_D A [(a 0, .inr (11, [.ref (a 1), .ref (a 2), .ref (a 3), .ref (a 4), .int M_isSaved, .int M_changes, .int M_isWithin, .int M_code, .ref (a 5), .int M_length, .int M_fault, .int M_failed, .ref (a 6), .int M_signMany, .ref (a 7), .ref (a 8), .int M_many, .ref (a 9), .ref (a 10), .int M_at, .ref (a 11), .int M_toldMany])), (a 1, .inl (Y 0, 238, .inl M_g)), (a 2, .inl (Y 0, 1904, .inl M_kept)), (a 3, .inl (Y 0, 238, .inl M_saved)), (a 4, .inl (Y 0, 238, .inl M_before)), (a 5, .inl (Y 0, 60, .inl M_input)), (a 6, .inl (Y 2, 100, .inl M_signs)), (a 7, .inl (Y 0, 6, .inl M_column)), (a 8, .inl (Y 0, 6, .inl M_loads)), (a 9, .inl (Y 0, 2048, .inl M_sums)), (a 10, .inl (Y 0, 2048, .inl M_groups)), (a 11, .inl (Y 0, 155, .inl M_told))] := hD
  obtain ⟨locs, hlo⟩ : ∃ locs : List Loc, locs = [] := ⟨_, rfl⟩
  have hS : va_S A s.heap H locs := by rw [hlo]; exact hS
  have hl := lv_entry ([.ref (a 0), .int x1]) (n := 2) (Nat.le_of_ble_eq_true rfl)
  rw [lg_entry_eq]
  generalize (lg_sl ([.ref (a 0), .int x1]) ++ List.replicate (2 - (lg_sl ([.ref (a 0), .int x1])).length) Slot.unset).toArray = ls at hl ⊢
  have hl : lv_has ls 2 [(0, .ref (a 0)), (1, .int x1)] := hl
  refine wk_start hHe hlo ?_
  rw [f_X11_fails] at hf
  refine lv_aload_n hx hb dX11_fails_0 rfl (lv_at hl 0 rfl) ?_
  refine lv_iload_n hx hb dX11_fails_1 rfl (lv_at hl 1 rfl) ?_
  refine va_put (D := (dC, dI)) (ci := 11) (v := .int x1) (ty := .int) (C := RX11) (T := TX11) (N := 22) hx hb hts in_X11_fails_X11 tyX11 tyX11_ok nmX11 hown hK hP hD hS 0 rfl rfl 7 (by decide) (hts _ lk_X11_fails_RX11_51) (fun _ h9 => h9) rfl (by decide +kernel) rfl rfl (Nat.le_of_ble_eq_true rfl) dX11_fails_2 (fun H locs hP hD hS => ?_)
  have hP : va_P (dC, dI) vwCl [(a 0, .inr (11, [.ref (a 1), .ref (a 2), .ref (a 3), .ref (a 4), .int M_isSaved, .int M_changes, .int M_isWithin, .int x1, .ref (a 5), .int M_length, .int M_fault, .int M_failed, .ref (a 6), .int M_signMany, .ref (a 7), .ref (a 8), .int M_many, .ref (a 9), .ref (a 10), .int M_at, .ref (a 11), .int M_toldMany])), (a 1, .inl (Y 0, 238, .inl M_g)), (a 2, .inl (Y 0, 1904, .inl M_kept)), (a 3, .inl (Y 0, 238, .inl M_saved)), (a 4, .inl (Y 0, 238, .inl M_before)), (a 5, .inl (Y 0, 60, .inl M_input)), (a 6, .inl (Y 2, 100, .inl M_signs)), (a 7, .inl (Y 0, 6, .inl M_column)), (a 8, .inl (Y 0, 6, .inl M_loads)), (a 9, .inl (Y 0, 2048, .inl M_sums)), (a 10, .inl (Y 0, 2048, .inl M_groups)), (a 11, .inl (Y 0, 155, .inl M_told))] H := hP
  have hD : va_D A [(a 0, .inr (11, [.ref (a 1), .ref (a 2), .ref (a 3), .ref (a 4), .int M_isSaved, .int M_changes, .int M_isWithin, .int x1, .ref (a 5), .int M_length, .int M_fault, .int M_failed, .ref (a 6), .int M_signMany, .ref (a 7), .ref (a 8), .int M_many, .ref (a 9), .ref (a 10), .int M_at, .ref (a 11), .int M_toldMany])), (a 1, .inl (Y 0, 238, .inl M_g)), (a 2, .inl (Y 0, 1904, .inl M_kept)), (a 3, .inl (Y 0, 238, .inl M_saved)), (a 4, .inl (Y 0, 238, .inl M_before)), (a 5, .inl (Y 0, 60, .inl M_input)), (a 6, .inl (Y 2, 100, .inl M_signs)), (a 7, .inl (Y 0, 6, .inl M_column)), (a 8, .inl (Y 0, 6, .inl M_loads)), (a 9, .inl (Y 0, 2048, .inl M_sums)), (a 10, .inl (Y 0, 2048, .inl M_groups)), (a 11, .inl (Y 0, 155, .inl M_told))] := hD
  refine lv_iload_n hx hb dX11_fails_5 rfl (lv_at hl 1 rfl) ?_
  refine lv_if_le (tgt := 13) hx hb dX11_fails_6 (by decide) (fun q1 => ?_) (fun q1 => ?_)
  · have hf := wk_t hf q1
    refine lv_iconst (v := 0) hx hb dX11_fails_13 (by decide) ?_
    obtain ⟨e0, e1⟩ := wke2 hf
    subst e0
    subst e1
    have hP9 := hP.sub (ws' := (wX11 Y a M_g M_kept M_saved M_before M_isSaved M_changes M_isWithin x1 M_input M_length M_fault M_failed M_signs M_signMany M_column M_loads M_many M_sums M_groups M_at M_told M_toldMany)) [0, 1, 2, 3, 4, 5, 6, 7, 8, 9, 10, 11] rfl
    have hD9 := hD.sub (ws' := (wX11 Y a M_g M_kept M_saved M_before M_isSaved M_changes M_isWithin x1 M_input M_length M_fault M_failed M_signs M_signMany M_column M_loads M_many M_sums M_groups M_at M_told M_toldMany)) [0, 1, 2, 3, 4, 5, 6, 7, 8, 9, 10, 11] (by decide) rfl
    exact W.zret (v := 0) (ty := .boolean) hx hb hr rfl (fun t ht hW => ⟨⟨0, (), rfl, rfl, by rw [ht]; exact hP9, va_K.moved hW.alike hK, hD9⟩, hS.F ht⟩) hS.2.2 dX11_fails_14
  · have hf := wk_f hf q1
    refine lv_iconst (v := 1) hx hb dX11_fails_9 (by decide) ?_
    refine lv_goto (tgt := 14) hx hb dX11_fails_10 (by decide) ?_
    obtain ⟨e0, e1⟩ := wke2 hf
    subst e0
    subst e1
    have hP9 := hP.sub (ws' := (wX11 Y a M_g M_kept M_saved M_before M_isSaved M_changes M_isWithin x1 M_input M_length M_fault M_failed M_signs M_signMany M_column M_loads M_many M_sums M_groups M_at M_told M_toldMany)) [0, 1, 2, 3, 4, 5, 6, 7, 8, 9, 10, 11] rfl
    have hD9 := hD.sub (ws' := (wX11 Y a M_g M_kept M_saved M_before M_isSaved M_changes M_isWithin x1 M_input M_length M_fault M_failed M_signs M_signMany M_column M_loads M_many M_sums M_groups M_at M_told M_toldMany)) [0, 1, 2, 3, 4, 5, 6, 7, 8, 9, 10, 11] (by decide) rfl
    exact W.zret (v := 1) (ty := .boolean) hx hb hr rfl (fun t ht hW => ⟨⟨1, (), rfl, rfl, by rw [ht]; exact hP9, va_K.moved hW.alike hK, hD9⟩, hS.F ht⟩) hS.2.2 dX11_fails_14
def f_X11_in (x0 : Int32) (x1 : Int32) (x2 : Int32) : Option (Int32) :=
  if x0 < x1 then
    (some (0))
  else
    (if x2 < x0 then
      (some (0))
    else
      (some (1)))
set_option maxHeartbeats 4000000 in
set_option maxRecDepth 100000 in
theorem c_X11_in (l : Launch) (dC : Nat → ClassId) (dI : Nat → Nat → Nat) (Y : Nat → ClassId)   (x0 : Int32) (x1 : Int32) (x2 : Int32) (r : Int32) (hf : f_X11_in x0 x1 x2 = some (r)) : Met l yX11_in wsX11_in ({ frames := 0, cells := 0, slots := 0, locals := 0 } : Room) (va_Pc [.int x0, .int x1, .int x2] (wk_B (dC, dI) Y ([] : va_W))) (vp_Si (fun r2 => r2 = r)) 0 0 (fun _ => False) := by
  refine Met.ofW (cc := cX11_in) (maxL := 3) (ret := (some .boolean)) (by decide) rfl ?_
  intro p e s m args below meth c s₁ B hml hv
  obtain ⟨rfl, hP, hK⟩ := hv
  have hx := B.exec
  have hb := B.bytes
  have hr := B.returns
  have hts := atoms_spec (ws := wsX11_in) B.pre
  have hown : s.vm.findClass RX11 = some m.cls := findClass_of_methodNamed B.named
  have hlocks := B.notSynchronized
  have C0 : wk_C p s m _ meth c cX11_in 3 (some .boolean) wsX11_in RX11 := ⟨hx, hb, hml, hr, hlocks, hown, hts⟩
  have hP : va_P (dC, dI) vwCl [] s.heap := hP
  have hl := lv_entry ([.int x0, .int x1, .int x2]) (n := 3) (Nat.le_of_ble_eq_true rfl)
  rw [lg_entry_eq]
  generalize (lg_sl ([.int x0, .int x1, .int x2]) ++ List.replicate (3 - (lg_sl ([.int x0, .int x1, .int x2])).length) Slot.unset).toArray = ls at hl ⊢
  have hl : lv_has ls 3 [(0, .int x0), (1, .int x1), (2, .int x2)] := hl
  rw [f_X11_in] at hf
  refine lv_iload_n hx hb dX11_in_0 rfl (lv_at hl 0 rfl) ?_
  refine lv_iload_n hx hb dX11_in_1 rfl (lv_at hl 1 rfl) ?_
  refine lv_icmp_lt (tgt := 14) hx hb dX11_in_2 (by decide) (fun q1 => ?_) (fun q1 => ?_)
  · have hf := wk_t hf q1
    refine lv_iconst (v := 0) hx hb dX11_in_14 (by decide) ?_
    have e0 := wke1 hf
    subst e0
    exact W.zret (v := 0) (ty := .boolean) hx hb hr rfl (fun t ht hW => ⟨0, rfl, rfl, ht⟩) (fun q h => absurd h List.not_mem_nil) dX11_in_15
  · have hf := wk_f hf q1
    refine lv_iload_n hx hb dX11_in_5 rfl (lv_at hl 0 rfl) ?_
    refine lv_iload_n hx hb dX11_in_6 rfl (lv_at hl 2 rfl) ?_
    refine lv_icmp_gt (tgt := 14) hx hb dX11_in_7 (by decide) (fun q2 => ?_) (fun q2 => ?_)
    · have hf := wk_t hf q2
      refine lv_iconst (v := 0) hx hb dX11_in_14 (by decide) ?_
      have e0 := wke1 hf
      subst e0
      exact W.zret (v := 0) (ty := .boolean) hx hb hr rfl (fun t ht hW => ⟨0, rfl, rfl, ht⟩) (fun q h => absurd h List.not_mem_nil) dX11_in_15
    · have hf := wk_f hf q2
      refine lv_iconst (v := 1) hx hb dX11_in_10 (by decide) ?_
      refine lv_goto (tgt := 15) hx hb dX11_in_11 (by decide) ?_
      have e0 := wke1 hf
      subst e0
      exact W.zret (v := 1) (ty := .boolean) hx hb hr rfl (fun t ht hW => ⟨1, rfl, rfl, ht⟩) (fun q h => absurd h List.not_mem_nil) dX11_in_15
def f_X11_least (x0 : Int32) (x1 : Int32) : Option (Int32) :=
  if x1 ≤ x0 then
    (some (x1))
  else
    (some (x0))
set_option maxHeartbeats 4000000 in
set_option maxRecDepth 100000 in
theorem c_X11_least (l : Launch) (dC : Nat → ClassId) (dI : Nat → Nat → Nat) (Y : Nat → ClassId)   (x0 : Int32) (x1 : Int32) (r : Int32) (hf : f_X11_least x0 x1 = some (r)) : Met l yX11_least wsX11_least ({ frames := 0, cells := 0, slots := 0, locals := 0 } : Room) (va_Pc [.int x0, .int x1] (wk_B (dC, dI) Y ([] : va_W))) (vp_Si (fun r2 => r2 = r)) 0 0 (fun _ => False) := by
  refine Met.ofW (cc := cX11_least) (maxL := 2) (ret := (some .int)) (by decide) rfl ?_
  intro p e s m args below meth c s₁ B hml hv
  obtain ⟨rfl, hP, hK⟩ := hv
  have hx := B.exec
  have hb := B.bytes
  have hr := B.returns
  have hts := atoms_spec (ws := wsX11_least) B.pre
  have hown : s.vm.findClass RX11 = some m.cls := findClass_of_methodNamed B.named
  have hlocks := B.notSynchronized
  have C0 : wk_C p s m _ meth c cX11_least 2 (some .int) wsX11_least RX11 := ⟨hx, hb, hml, hr, hlocks, hown, hts⟩
  have hP : va_P (dC, dI) vwCl [] s.heap := hP
  have hl := lv_entry ([.int x0, .int x1]) (n := 2) (Nat.le_of_ble_eq_true rfl)
  rw [lg_entry_eq]
  generalize (lg_sl ([.int x0, .int x1]) ++ List.replicate (2 - (lg_sl ([.int x0, .int x1])).length) Slot.unset).toArray = ls at hl ⊢
  have hl : lv_has ls 2 [(0, .int x0), (1, .int x1)] := hl
  rw [f_X11_least] at hf
  refine lv_iload_n hx hb dX11_least_0 rfl (lv_at hl 0 rfl) ?_
  refine lv_iload_n hx hb dX11_least_1 rfl (lv_at hl 1 rfl) ?_
  refine lv_icmp_ge (tgt := 9) hx hb dX11_least_2 (by decide) (fun q1 => ?_) (fun q1 => ?_)
  · have hf := wk_t hf q1
    refine lv_iload_n hx hb dX11_least_9 rfl (lv_at hl 1 rfl) ?_
    have e0 := wke1 hf
    subst e0
    exact W.iret (v := x1) hx hb hr (fun t ht hW => ⟨x1, rfl, rfl, ht⟩) (fun q h => absurd h List.not_mem_nil) dX11_least_10
  · have hf := wk_f hf q1
    refine lv_iload_n hx hb dX11_least_5 rfl (lv_at hl 0 rfl) ?_
    refine lv_goto (tgt := 10) hx hb dX11_least_6 (by decide) ?_
    have e0 := wke1 hf
    subst e0
    exact W.iret (v := x0) hx hb hr (fun t ht hW => ⟨x0, rfl, rfl, ht⟩) (fun q h => absurd h List.not_mem_nil) dX11_least_10
theorem lk_X11_keeps_g_RX11_13 : Cond.fieldLink RX11 13 "CircusLedgerModel" "kept" "[I" ∈ wsX11_keeps := by decide +kernel
theorem lk_X11_keeps_g_RX11_51 : Cond.fieldLink RX11 51 "CircusLedgerModel" "code" "I" ∈ wsX11_keeps := by decide +kernel
theorem lk_X11_keeps_g_RX11_54 : Cond.fieldLink RX11 54 "CircusLedgerModel" "isWithin" "Z" ∈ wsX11_keeps := by decide +kernel
theorem lk_X11_keeps_g_RX11_58 : Cond.fieldLink RX11 58 "CircusLedgerModel" "changes" "I" ∈ wsX11_keeps := by decide +kernel
theorem in_X11_keeps_g_X11 : ∀ w ∈ u_ws RX11 TX11 22, w ∈ wsX11_keeps := by decide +kernel
def f_X11_keeps_g_L63 (M_g : Nat → Int32) (M_isWithin : Int32) (M_kept : (Nat → Int32)) (M_changes : Int32) (M_code : Int32) : Option ((Nat → Int32) × Int32 × Int32) :=
    wkb1 (f_X11_copies_238_1904 M_g M_kept 0 (238 * M_changes)) (fun w1 =>
    wkl ((M_changes + 1)) (fun v3 =>
    some (w1, v3, M_code)))
def f_X11_keeps_g_L24 (M_g : Nat → Int32) (M_isWithin : Int32) : Nat → Int32 → (Nat → Int32) → Int32 → Int32 → Option ((Nat → Int32) × Int32 × Int32)
  | 0, _, _, _, _ => none
  | nn + 1, x2, M_kept, M_changes, M_code =>
    if (1666 : Int32) ≤ x2 then
      (wkl ((M_changes - 1)) (fun v2 =>
      f_X11_keeps_g_L63 M_g M_isWithin M_kept v2 M_code))
    else
      (gin (x2 + 238) 1904 (gin x2 1904 (wkl (upd M_kept x2.toNatClampNeg (M_kept (x2 + 238).toNatClampNeg)) (fun g4 =>
      f_X11_keeps_g_L24 M_g M_isWithin nn (x2 + 1) g4 M_changes M_code))))
def f_X11_keeps_g (M_g : Nat → Int32) (M_kept : Nat → Int32) (M_changes : Int32) (M_isWithin : Int32) (M_code : Int32) : Option ((Nat → Int32) × Int32 × Int32) :=
  if M_isWithin = 0 then
    (if M_changes = 8 then
      (f_X11_keeps_g_L24 M_g M_isWithin FU 0 M_kept M_changes 0)
    else
      (f_X11_keeps_g_L63 M_g M_isWithin M_kept M_changes 0))
  else
    (some (M_kept, M_changes, 0))
set_option maxHeartbeats 4000000 in
set_option maxRecDepth 100000 in
theorem wl_X11_keeps_g_L63 {p : Program} {l : Launch} {e : Env} {s : State} {m : MethodId} {args : Array Value} {below : List Frame} {meth : Method} {c : Code} {dC : Nat → ClassId} {dI : Nat → Nat → Nat} {Y : Nat → ClassId} {a : Nat → Nat} {M_g : Nat → Int32} {M_saved : Nat → Int32} {M_before : Nat → Int32} {M_isSaved : Int32} {M_isWithin : Int32} {M_input : Nat → Int32} {M_length : Int32} {M_fault : Int32} {M_failed : Int32} {M_signs : Nat → Int32} {M_signMany : Int32} {M_column : Nat → Int32} {M_loads : Nat → Int32} {M_many : Int32} {M_sums : Nat → Int32} {M_groups : Nat → Int32} {M_at : Int32} {M_told : Nat → Int32} {M_toldMany : Int32}  {zM_kept : Nat → Int32} {zM_changes : Int32} {zM_code : Int32}  (C0 : wk_C p s m args meth c cX11_keeps 3 none wsX11_keeps RX11) {A : Nat → Prop} (hK : va_K (dC, dI) vwCl (vTy Y) s) (hA : ∀ q, s.heap.size ≤ q → A q) : ∀   (M_kept : Nat → Int32) (M_changes : Int32) (M_code : Int32), f_X11_keeps_g_L63 M_g M_isWithin M_kept M_changes M_code = some (zM_kept, zM_changes, zM_code) → ∀ (H : Heap) (locs : List Loc), va_P (dC, dI) vwCl (wX11 Y a M_g M_kept M_saved M_before M_isSaved M_changes M_isWithin M_code M_input M_length M_fault M_failed M_signs M_signMany M_column M_loads M_many M_sums M_groups M_at M_told M_toldMany) H → va_D A (wX11 Y a M_g M_kept M_saved M_before M_isSaved M_changes M_isWithin M_code M_input M_length M_fault M_failed M_signs M_signMany M_column M_loads M_many M_sums M_groups M_at M_told M_toldMany) → va_S A s.heap H locs → ∀ (ls : Array Slot), lv_has ls 3 [(0, .ref (a 0)), (1, .ref (a 1))] → W p l e (headSpec wsX11_keeps ({ frames := 1, cells := 0, slots := 0, locals := 24 } : Room)).room s m args below meth c H locs 0 0 (MQ below (va_Qv (fun (_ : Unit) => True) (fun _ t => wk_X (dC, dI) Y (wX11 Y a M_g zM_kept M_saved M_before M_isSaved zM_changes M_isWithin zM_code M_input M_length M_fault M_failed M_signs M_signMany M_column M_loads M_many M_sums M_groups M_at M_told M_toldMany) A t) A) args s 0 0 A) (F0 m 63 ls []) := by
  obtain ⟨hx, hb, hml, hr, hlocks, hown, hts⟩ := id C0
  intro M_kept M_changes M_code hf H locs hP hD hS ls hl
  rw [f_X11_keeps_g_L63] at hf
  have hP : va_P (dC, dI) vwCl [(a 0, .inr (11, [.ref (a 1), .ref (a 2), .ref (a 3), .ref (a 4), .int M_isSaved, .int M_changes, .int M_isWithin, .int M_code, .ref (a 5), .int M_length, .int M_fault, .int M_failed, .ref (a 6), .int M_signMany, .ref (a 7), .ref (a 8), .int M_many, .ref (a 9), .ref (a 10), .int M_at, .ref (a 11), .int M_toldMany])), (a 1, .inl (Y 0, 238, .inl M_g)), (a 2, .inl (Y 0, 1904, .inl M_kept)), (a 3, .inl (Y 0, 238, .inl M_saved)), (a 4, .inl (Y 0, 238, .inl M_before)), (a 5, .inl (Y 0, 60, .inl M_input)), (a 6, .inl (Y 2, 100, .inl M_signs)), (a 7, .inl (Y 0, 6, .inl M_column)), (a 8, .inl (Y 0, 6, .inl M_loads)), (a 9, .inl (Y 0, 2048, .inl M_sums)), (a 10, .inl (Y 0, 2048, .inl M_groups)), (a 11, .inl (Y 0, 155, .inl M_told))] H := hP
  have hD : va_D A [(a 0, .inr (11, [.ref (a 1), .ref (a 2), .ref (a 3), .ref (a 4), .int M_isSaved, .int M_changes, .int M_isWithin, .int M_code, .ref (a 5), .int M_length, .int M_fault, .int M_failed, .ref (a 6), .int M_signMany, .ref (a 7), .ref (a 8), .int M_many, .ref (a 9), .ref (a 10), .int M_at, .ref (a 11), .int M_toldMany])), (a 1, .inl (Y 0, 238, .inl M_g)), (a 2, .inl (Y 0, 1904, .inl M_kept)), (a 3, .inl (Y 0, 238, .inl M_saved)), (a 4, .inl (Y 0, 238, .inl M_before)), (a 5, .inl (Y 0, 60, .inl M_input)), (a 6, .inl (Y 2, 100, .inl M_signs)), (a 7, .inl (Y 0, 6, .inl M_column)), (a 8, .inl (Y 0, 6, .inl M_loads)), (a 9, .inl (Y 0, 2048, .inl M_sums)), (a 10, .inl (Y 0, 2048, .inl M_groups)), (a 11, .inl (Y 0, 155, .inl M_told))] := hD
  refine lv_aload_n hx hb dX11_keeps_63 rfl (lv_at hl 1 rfl) ?_
  refine lv_iconst (v := 0) hx hb dX11_keeps_64 (by decide) ?_
  refine lv_aload_n hx hb dX11_keeps_65 rfl (lv_at hl 0 rfl) ?_
  refine va_get (D := (dC, dI)) (ci := 11) (v := .ref (a 2)) (C := RX11) (T := TX11) (N := 22) hx hb hts in_X11_keeps_g_X11 hown hK hP 0 rfl rfl 1 (by decide) (hts _ lk_X11_keeps_g_RX11_13) (fun _ h9 => h9) rfl dX11_keeps_66 ?_
  refine lv_sipush (v := 238) hx hb dX11_keeps_69 (by decide) ?_
  refine lv_aload_n hx hb dX11_keeps_72 rfl (lv_at hl 0 rfl) ?_
  refine va_get (D := (dC, dI)) (ci := 11) (v := .int M_changes) (C := RX11) (T := TX11) (N := 22) hx hb hts in_X11_keeps_g_X11 hown hK hP 0 rfl rfl 5 (by decide) (hts _ lk_X11_keeps_g_RX11_58) (fun _ h9 => h9) rfl dX11_keeps_73 ?_
  refine lv_imul hx hb dX11_keeps_76 ?_
  obtain ⟨w1, hr2, hf⟩ := wkb1_s hf
  refine wk_esv (As := [.ref (a 1), .int 0, .ref (a 2), .int (238 * M_changes)]) (rest := []) (wc := ([((fun k => a (k + 1)) 0, .inl (Y 0, 238, .inl M_g))] ++ [((fun k => a (k + 2)) 0, .inl (Y 0, 1904, .inl M_kept))])) (w1 := ([((fun k => a (k + 1)) 0, .inl (Y 0, 238, .inl M_g))] ++ [((fun k => a (k + 2)) 0, .inl (Y 0, 1904, .inl w1))])) (wr := [(a 0, .inr (11, [.ref (a 1), .ref (a 2), .ref (a 3), .ref (a 4), .int M_isSaved, .int M_changes, .int M_isWithin, .int M_code, .ref (a 5), .int M_length, .int M_fault, .int M_failed, .ref (a 6), .int M_signMany, .ref (a 7), .ref (a 8), .int M_many, .ref (a 9), .ref (a 10), .int M_at, .ref (a 11), .int M_toldMany])), (a 3, .inl (Y 0, 238, .inl M_saved)), (a 4, .inl (Y 0, 238, .inl M_before)), (a 5, .inl (Y 0, 60, .inl M_input)), (a 6, .inl (Y 2, 100, .inl M_signs)), (a 7, .inl (Y 0, 6, .inl M_column)), (a 8, .inl (Y 0, 6, .inl M_loads)), (a 9, .inl (Y 0, 2048, .inl M_sums)), (a 10, .inl (Y 0, 2048, .inl M_groups)), (a 11, .inl (Y 0, 155, .inl M_told))]) ⟨hx, hb, hml, hown, hts⟩ (c_X11_copies_238_1904 l dC dI Y (fun k => a (k + 1)) (fun k => a (k + 2)) M_g M_kept 0 (238 * M_changes) H.size w1 hr2) (va_cwS 4 hts gX11_keeps_X11_copies rfl rfl rfl (by decide +kernel) ⟨Nat.le_of_ble_eq_true rfl, Nat.le_of_ble_eq_true rfl⟩) hK hP hD hS hA [1, 2] [0, 3, 4, 5, 6, 7, 8, 9, 10, 11] rfl rfl (by decide) (by decide) (by decide) rfl hl.1 rfl (Nat.le_of_ble_eq_true rfl) dX11_keeps_77 ⟨Nat.le_of_ble_eq_true rfl, Nat.le_of_ble_eq_true rfl⟩ (fun H locs hP hD hS => ?_)
  have hP : va_P (dC, dI) vwCl [(a 0, .inr (11, [.ref (a 1), .ref (a 2), .ref (a 3), .ref (a 4), .int M_isSaved, .int M_changes, .int M_isWithin, .int M_code, .ref (a 5), .int M_length, .int M_fault, .int M_failed, .ref (a 6), .int M_signMany, .ref (a 7), .ref (a 8), .int M_many, .ref (a 9), .ref (a 10), .int M_at, .ref (a 11), .int M_toldMany])), (a 3, .inl (Y 0, 238, .inl M_saved)), (a 4, .inl (Y 0, 238, .inl M_before)), (a 5, .inl (Y 0, 60, .inl M_input)), (a 6, .inl (Y 2, 100, .inl M_signs)), (a 7, .inl (Y 0, 6, .inl M_column)), (a 8, .inl (Y 0, 6, .inl M_loads)), (a 9, .inl (Y 0, 2048, .inl M_sums)), (a 10, .inl (Y 0, 2048, .inl M_groups)), (a 11, .inl (Y 0, 155, .inl M_told)), (a 1, .inl (Y 0, 238, .inl M_g)), (a 2, .inl (Y 0, 1904, .inl w1))] H := hP
  have hD : va_D A [(a 0, .inr (11, [.ref (a 1), .ref (a 2), .ref (a 3), .ref (a 4), .int M_isSaved, .int M_changes, .int M_isWithin, .int M_code, .ref (a 5), .int M_length, .int M_fault, .int M_failed, .ref (a 6), .int M_signMany, .ref (a 7), .ref (a 8), .int M_many, .ref (a 9), .ref (a 10), .int M_at, .ref (a 11), .int M_toldMany])), (a 3, .inl (Y 0, 238, .inl M_saved)), (a 4, .inl (Y 0, 238, .inl M_before)), (a 5, .inl (Y 0, 60, .inl M_input)), (a 6, .inl (Y 2, 100, .inl M_signs)), (a 7, .inl (Y 0, 6, .inl M_column)), (a 8, .inl (Y 0, 6, .inl M_loads)), (a 9, .inl (Y 0, 2048, .inl M_sums)), (a 10, .inl (Y 0, 2048, .inl M_groups)), (a 11, .inl (Y 0, 155, .inl M_told)), (a 1, .inl (Y 0, 238, .inl M_g)), (a 2, .inl (Y 0, 1904, .inl w1))] := hD
  refine lv_aload_n hx hb dX11_keeps_80 rfl (lv_at hl 0 rfl) ?_
  refine lv_dup hx hb dX11_keeps_81 rfl ?_
  refine va_get (D := (dC, dI)) (ci := 11) (v := .int M_changes) (C := RX11) (T := TX11) (N := 22) hx hb hts in_X11_keeps_g_X11 hown hK hP 0 rfl rfl 5 (by decide) (hts _ lk_X11_keeps_g_RX11_58) (fun _ h9 => h9) rfl dX11_keeps_82 ?_
  refine lv_iconst (v := 1) hx hb dX11_keeps_85 (by decide) ?_
  refine lv_iadd hx hb dX11_keeps_86 ?_
  refine lv_topi (fun v3 ev3 => ?_)
  have hf := wkl_s hf ev3
  refine va_put (D := (dC, dI)) (ci := 11) (v := .int v3) (ty := .int) (C := RX11) (T := TX11) (N := 22) hx hb hts in_X11_keeps_g_X11 tyX11 tyX11_ok nmX11 hown hK hP hD hS 0 rfl rfl 5 (by decide) (hts _ lk_X11_keeps_g_RX11_58) (fun _ h9 => h9) rfl (by decide +kernel) rfl rfl (Nat.le_of_ble_eq_true rfl) dX11_keeps_87 (fun H locs hP hD hS => ?_)
  have hP : va_P (dC, dI) vwCl [(a 0, .inr (11, [.ref (a 1), .ref (a 2), .ref (a 3), .ref (a 4), .int M_isSaved, .int v3, .int M_isWithin, .int M_code, .ref (a 5), .int M_length, .int M_fault, .int M_failed, .ref (a 6), .int M_signMany, .ref (a 7), .ref (a 8), .int M_many, .ref (a 9), .ref (a 10), .int M_at, .ref (a 11), .int M_toldMany])), (a 3, .inl (Y 0, 238, .inl M_saved)), (a 4, .inl (Y 0, 238, .inl M_before)), (a 5, .inl (Y 0, 60, .inl M_input)), (a 6, .inl (Y 2, 100, .inl M_signs)), (a 7, .inl (Y 0, 6, .inl M_column)), (a 8, .inl (Y 0, 6, .inl M_loads)), (a 9, .inl (Y 0, 2048, .inl M_sums)), (a 10, .inl (Y 0, 2048, .inl M_groups)), (a 11, .inl (Y 0, 155, .inl M_told)), (a 1, .inl (Y 0, 238, .inl M_g)), (a 2, .inl (Y 0, 1904, .inl w1))] H := hP
  have hD : va_D A [(a 0, .inr (11, [.ref (a 1), .ref (a 2), .ref (a 3), .ref (a 4), .int M_isSaved, .int v3, .int M_isWithin, .int M_code, .ref (a 5), .int M_length, .int M_fault, .int M_failed, .ref (a 6), .int M_signMany, .ref (a 7), .ref (a 8), .int M_many, .ref (a 9), .ref (a 10), .int M_at, .ref (a 11), .int M_toldMany])), (a 3, .inl (Y 0, 238, .inl M_saved)), (a 4, .inl (Y 0, 238, .inl M_before)), (a 5, .inl (Y 0, 60, .inl M_input)), (a 6, .inl (Y 2, 100, .inl M_signs)), (a 7, .inl (Y 0, 6, .inl M_column)), (a 8, .inl (Y 0, 6, .inl M_loads)), (a 9, .inl (Y 0, 2048, .inl M_sums)), (a 10, .inl (Y 0, 2048, .inl M_groups)), (a 11, .inl (Y 0, 155, .inl M_told)), (a 1, .inl (Y 0, 238, .inl M_g)), (a 2, .inl (Y 0, 1904, .inl w1))] := hD
  obtain ⟨e0, e1, e2⟩ := wke3 hf
  subst e0
  subst e1
  subst e2
  have hP9 := hP.sub (ws' := (wX11 Y a M_g w1 M_saved M_before M_isSaved v3 M_isWithin M_code M_input M_length M_fault M_failed M_signs M_signMany M_column M_loads M_many M_sums M_groups M_at M_told M_toldMany)) [0, 10, 11, 1, 2, 3, 4, 5, 6, 7, 8, 9] rfl
  have hD9 := hD.sub (ws' := (wX11 Y a M_g w1 M_saved M_before M_isSaved v3 M_isWithin M_code M_input M_length M_fault M_failed M_signs M_signMany M_column M_loads M_many M_sums M_groups M_at M_told M_toldMany)) [0, 10, 11, 1, 2, 3, 4, 5, 6, 7, 8, 9] (by decide) rfl
  exact W.vret hx hb hr (fun t ht hW => ⟨⟨(), rfl, trivial, by rw [ht]; exact hP9, va_K.moved hW.alike hK, hD9⟩, hS.F ht⟩) hS.2.2 dX11_keeps_90
set_option maxHeartbeats 4000000 in
set_option maxRecDepth 100000 in
theorem wl_X11_keeps_g_L24 {p : Program} {l : Launch} {e : Env} {s : State} {m : MethodId} {args : Array Value} {below : List Frame} {meth : Method} {c : Code} {dC : Nat → ClassId} {dI : Nat → Nat → Nat} {Y : Nat → ClassId} {a : Nat → Nat} {M_g : Nat → Int32} {M_saved : Nat → Int32} {M_before : Nat → Int32} {M_isSaved : Int32} {M_isWithin : Int32} {M_input : Nat → Int32} {M_length : Int32} {M_fault : Int32} {M_failed : Int32} {M_signs : Nat → Int32} {M_signMany : Int32} {M_column : Nat → Int32} {M_loads : Nat → Int32} {M_many : Int32} {M_sums : Nat → Int32} {M_groups : Nat → Int32} {M_at : Int32} {M_told : Nat → Int32} {M_toldMany : Int32}  {zM_kept : Nat → Int32} {zM_changes : Int32} {zM_code : Int32}  (C0 : wk_C p s m args meth c cX11_keeps 3 none wsX11_keeps RX11) {A : Nat → Prop} (hK : va_K (dC, dI) vwCl (vTy Y) s) (hA : ∀ q, s.heap.size ≤ q → A q) : ∀ (nn : Nat) (x2 : Int32)  (M_kept : Nat → Int32) (M_changes : Int32) (M_code : Int32), f_X11_keeps_g_L24 M_g M_isWithin nn x2 M_kept M_changes M_code = some (zM_kept, zM_changes, zM_code) → ∀ (H : Heap) (locs : List Loc), va_P (dC, dI) vwCl (wX11 Y a M_g M_kept M_saved M_before M_isSaved M_changes M_isWithin M_code M_input M_length M_fault M_failed M_signs M_signMany M_column M_loads M_many M_sums M_groups M_at M_told M_toldMany) H → va_D A (wX11 Y a M_g M_kept M_saved M_before M_isSaved M_changes M_isWithin M_code M_input M_length M_fault M_failed M_signs M_signMany M_column M_loads M_many M_sums M_groups M_at M_told M_toldMany) → va_S A s.heap H locs → ∀ (ls : Array Slot), lv_has ls 3 [(0, .ref (a 0)), (1, .ref (a 1)), (2, .int x2)] → W p l e (headSpec wsX11_keeps ({ frames := 1, cells := 0, slots := 0, locals := 24 } : Room)).room s m args below meth c H locs 0 0 (MQ below (va_Qv (fun (_ : Unit) => True) (fun _ t => wk_X (dC, dI) Y (wX11 Y a M_g zM_kept M_saved M_before M_isSaved zM_changes M_isWithin zM_code M_input M_length M_fault M_failed M_signs M_signMany M_column M_loads M_many M_sums M_groups M_at M_told M_toldMany) A t) A) args s 0 0 A) (F0 m 24 ls []) := by
  have C0 := C0
  obtain ⟨hx, hb, hml, hr, hlocks, hown, hts⟩ := id C0
  intro nn
  induction nn with
  | zero =>
    intro x2 M_kept M_changes M_code hf
    rw [f_X11_keeps_g_L24] at hf
    cases hf
  | succ nn ih =>
    intro x2 M_kept M_changes M_code hf H locs hP hD hS ls hl
    rw [f_X11_keeps_g_L24] at hf
    have hP : va_P (dC, dI) vwCl [(a 0, .inr (11, [.ref (a 1), .ref (a 2), .ref (a 3), .ref (a 4), .int M_isSaved, .int M_changes, .int M_isWithin, .int M_code, .ref (a 5), .int M_length, .int M_fault, .int M_failed, .ref (a 6), .int M_signMany, .ref (a 7), .ref (a 8), .int M_many, .ref (a 9), .ref (a 10), .int M_at, .ref (a 11), .int M_toldMany])), (a 1, .inl (Y 0, 238, .inl M_g)), (a 2, .inl (Y 0, 1904, .inl M_kept)), (a 3, .inl (Y 0, 238, .inl M_saved)), (a 4, .inl (Y 0, 238, .inl M_before)), (a 5, .inl (Y 0, 60, .inl M_input)), (a 6, .inl (Y 2, 100, .inl M_signs)), (a 7, .inl (Y 0, 6, .inl M_column)), (a 8, .inl (Y 0, 6, .inl M_loads)), (a 9, .inl (Y 0, 2048, .inl M_sums)), (a 10, .inl (Y 0, 2048, .inl M_groups)), (a 11, .inl (Y 0, 155, .inl M_told))] H := hP
    have hD : va_D A [(a 0, .inr (11, [.ref (a 1), .ref (a 2), .ref (a 3), .ref (a 4), .int M_isSaved, .int M_changes, .int M_isWithin, .int M_code, .ref (a 5), .int M_length, .int M_fault, .int M_failed, .ref (a 6), .int M_signMany, .ref (a 7), .ref (a 8), .int M_many, .ref (a 9), .ref (a 10), .int M_at, .ref (a 11), .int M_toldMany])), (a 1, .inl (Y 0, 238, .inl M_g)), (a 2, .inl (Y 0, 1904, .inl M_kept)), (a 3, .inl (Y 0, 238, .inl M_saved)), (a 4, .inl (Y 0, 238, .inl M_before)), (a 5, .inl (Y 0, 60, .inl M_input)), (a 6, .inl (Y 2, 100, .inl M_signs)), (a 7, .inl (Y 0, 6, .inl M_column)), (a 8, .inl (Y 0, 6, .inl M_loads)), (a 9, .inl (Y 0, 2048, .inl M_sums)), (a 10, .inl (Y 0, 2048, .inl M_groups)), (a 11, .inl (Y 0, 155, .inl M_told))] := hD
    refine lv_iload_n hx hb dX11_keeps_24 rfl (lv_at hl 2 rfl) ?_
    refine lv_sipush (v := 1666) hx hb dX11_keeps_25 (by decide) ?_
    refine lv_icmp_ge (tgt := 53) hx hb dX11_keeps_28 (by decide) (fun q1 => ?_) (fun q1 => ?_)
    · have hf := wk_t hf q1
      refine lv_aload_n hx hb dX11_keeps_53 rfl (lv_at hl 0 rfl) ?_
      refine lv_dup hx hb dX11_keeps_54 rfl ?_
      refine va_get (D := (dC, dI)) (ci := 11) (v := .int M_changes) (C := RX11) (T := TX11) (N := 22) hx hb hts in_X11_keeps_g_X11 hown hK hP 0 rfl rfl 5 (by decide) (hts _ lk_X11_keeps_g_RX11_58) (fun _ h9 => h9) rfl dX11_keeps_55 ?_
      refine lv_iconst (v := 1) hx hb dX11_keeps_58 (by decide) ?_
      refine lv_isub hx hb dX11_keeps_59 ?_
      refine lv_topi (fun v2 ev2 => ?_)
      have hf := wkl_s hf ev2
      refine va_put (D := (dC, dI)) (ci := 11) (v := .int v2) (ty := .int) (C := RX11) (T := TX11) (N := 22) hx hb hts in_X11_keeps_g_X11 tyX11 tyX11_ok nmX11 hown hK hP hD hS 0 rfl rfl 5 (by decide) (hts _ lk_X11_keeps_g_RX11_58) (fun _ h9 => h9) rfl (by decide +kernel) rfl rfl (Nat.le_of_ble_eq_true rfl) dX11_keeps_60 (fun H locs hP hD hS => ?_)
      have hP : va_P (dC, dI) vwCl [(a 0, .inr (11, [.ref (a 1), .ref (a 2), .ref (a 3), .ref (a 4), .int M_isSaved, .int v2, .int M_isWithin, .int M_code, .ref (a 5), .int M_length, .int M_fault, .int M_failed, .ref (a 6), .int M_signMany, .ref (a 7), .ref (a 8), .int M_many, .ref (a 9), .ref (a 10), .int M_at, .ref (a 11), .int M_toldMany])), (a 1, .inl (Y 0, 238, .inl M_g)), (a 2, .inl (Y 0, 1904, .inl M_kept)), (a 3, .inl (Y 0, 238, .inl M_saved)), (a 4, .inl (Y 0, 238, .inl M_before)), (a 5, .inl (Y 0, 60, .inl M_input)), (a 6, .inl (Y 2, 100, .inl M_signs)), (a 7, .inl (Y 0, 6, .inl M_column)), (a 8, .inl (Y 0, 6, .inl M_loads)), (a 9, .inl (Y 0, 2048, .inl M_sums)), (a 10, .inl (Y 0, 2048, .inl M_groups)), (a 11, .inl (Y 0, 155, .inl M_told))] H := hP
      have hD : va_D A [(a 0, .inr (11, [.ref (a 1), .ref (a 2), .ref (a 3), .ref (a 4), .int M_isSaved, .int v2, .int M_isWithin, .int M_code, .ref (a 5), .int M_length, .int M_fault, .int M_failed, .ref (a 6), .int M_signMany, .ref (a 7), .ref (a 8), .int M_many, .ref (a 9), .ref (a 10), .int M_at, .ref (a 11), .int M_toldMany])), (a 1, .inl (Y 0, 238, .inl M_g)), (a 2, .inl (Y 0, 1904, .inl M_kept)), (a 3, .inl (Y 0, 238, .inl M_saved)), (a 4, .inl (Y 0, 238, .inl M_before)), (a 5, .inl (Y 0, 60, .inl M_input)), (a 6, .inl (Y 2, 100, .inl M_signs)), (a 7, .inl (Y 0, 6, .inl M_column)), (a 8, .inl (Y 0, 6, .inl M_loads)), (a 9, .inl (Y 0, 2048, .inl M_sums)), (a 10, .inl (Y 0, 2048, .inl M_groups)), (a 11, .inl (Y 0, 155, .inl M_told))] := hD
      exact wl_X11_keeps_g_L63 C0 hK hA M_kept v2 M_code hf H locs hP hD hS ls (lv_sub hl [0, 1] rfl)
    · have hf := wk_f hf q1
      refine lv_aload_n hx hb dX11_keeps_31 rfl (lv_at hl 0 rfl) ?_
      refine va_get (D := (dC, dI)) (ci := 11) (v := .ref (a 2)) (C := RX11) (T := TX11) (N := 22) hx hb hts in_X11_keeps_g_X11 hown hK hP 0 rfl rfl 1 (by decide) (hts _ lk_X11_keeps_g_RX11_13) (fun _ h9 => h9) rfl dX11_keeps_32 ?_
      refine lv_iload_n hx hb dX11_keeps_35 rfl (lv_at hl 2 rfl) ?_
      refine lv_aload_n hx hb dX11_keeps_36 rfl (lv_at hl 0 rfl) ?_
      refine va_get (D := (dC, dI)) (ci := 11) (v := .ref (a 2)) (C := RX11) (T := TX11) (N := 22) hx hb hts in_X11_keeps_g_X11 hown hK hP 0 rfl rfl 1 (by decide) (hts _ lk_X11_keeps_g_RX11_13) (fun _ h9 => h9) rfl dX11_keeps_37 ?_
      refine lv_iload_n hx hb dX11_keeps_40 rfl (lv_at hl 2 rfl) ?_
      refine lv_sipush (v := 238) hx hb dX11_keeps_41 (by decide) ?_
      refine lv_iadd hx hb dX11_keeps_44 ?_
      obtain ⟨h3, hf⟩ := gin_s hf
      refine wk_iald hx hb hK hP 2 0 rfl rfl h3 rfl dX11_keeps_45 ?_
      obtain ⟨h5, hf⟩ := gin_s hf
      refine wk_iast hx hb hK hP hD hS 2 0 (k := x2.toNatClampNeg) rfl rfl h5 rfl dX11_keeps_46 (fun g4 H locs eg4 hP hD hS => ?_)
      have hP : va_P (dC, dI) vwCl [(a 0, .inr (11, [.ref (a 1), .ref (a 2), .ref (a 3), .ref (a 4), .int M_isSaved, .int M_changes, .int M_isWithin, .int M_code, .ref (a 5), .int M_length, .int M_fault, .int M_failed, .ref (a 6), .int M_signMany, .ref (a 7), .ref (a 8), .int M_many, .ref (a 9), .ref (a 10), .int M_at, .ref (a 11), .int M_toldMany])), (a 1, .inl (Y 0, 238, .inl M_g)), (a 2, .inl (Y 0, 1904, .inl g4)), (a 3, .inl (Y 0, 238, .inl M_saved)), (a 4, .inl (Y 0, 238, .inl M_before)), (a 5, .inl (Y 0, 60, .inl M_input)), (a 6, .inl (Y 2, 100, .inl M_signs)), (a 7, .inl (Y 0, 6, .inl M_column)), (a 8, .inl (Y 0, 6, .inl M_loads)), (a 9, .inl (Y 0, 2048, .inl M_sums)), (a 10, .inl (Y 0, 2048, .inl M_groups)), (a 11, .inl (Y 0, 155, .inl M_told))] H := hP
      have hD : va_D A [(a 0, .inr (11, [.ref (a 1), .ref (a 2), .ref (a 3), .ref (a 4), .int M_isSaved, .int M_changes, .int M_isWithin, .int M_code, .ref (a 5), .int M_length, .int M_fault, .int M_failed, .ref (a 6), .int M_signMany, .ref (a 7), .ref (a 8), .int M_many, .ref (a 9), .ref (a 10), .int M_at, .ref (a 11), .int M_toldMany])), (a 1, .inl (Y 0, 238, .inl M_g)), (a 2, .inl (Y 0, 1904, .inl g4)), (a 3, .inl (Y 0, 238, .inl M_saved)), (a 4, .inl (Y 0, 238, .inl M_before)), (a 5, .inl (Y 0, 60, .inl M_input)), (a 6, .inl (Y 2, 100, .inl M_signs)), (a 7, .inl (Y 0, 6, .inl M_column)), (a 8, .inl (Y 0, 6, .inl M_loads)), (a 9, .inl (Y 0, 2048, .inl M_sums)), (a 10, .inl (Y 0, 2048, .inl M_groups)), (a 11, .inl (Y 0, 155, .inl M_told))] := hD
      have hf := wkl_s hf eg4
      refine lv_iinc (v := (x2 + 1)) (lv' := [(2, .int (x2 + 1)), (0, .ref (a 0)), (1, .ref (a 1))]) hx hb dX11_keeps_47 hl (k := 2) rfl rfl (by decide) rfl (fun ls hl => ?_)
      refine lv_goto (tgt := 24) hx hb dX11_keeps_50 (by decide) ?_
      exact ih (x2 + 1) g4 M_changes M_code hf H locs hP hD hS ls (lv_sub hl [1, 2, 0] rfl)
set_option maxHeartbeats 4000000 in
set_option maxRecDepth 100000 in
theorem c_X11_keeps_g (l : Launch) (dC : Nat → ClassId) (dI : Nat → Nat → Nat) (Y : Nat → ClassId) (a : Nat → Nat) (M_g : Nat → Int32) (M_kept : Nat → Int32) (M_saved : Nat → Int32) (M_before : Nat → Int32) (M_isSaved : Int32) (M_changes : Int32) (M_isWithin : Int32) (M_code : Int32) (M_input : Nat → Int32) (M_length : Int32) (M_fault : Int32) (M_failed : Int32) (M_signs : Nat → Int32) (M_signMany : Int32) (M_column : Nat → Int32) (M_loads : Nat → Int32) (M_many : Int32) (M_sums : Nat → Int32) (M_groups : Nat → Int32) (M_at : Int32) (M_told : Nat → Int32) (M_toldMany : Int32)  (sz : Nat) (zM_kept : Nat → Int32) (zM_changes : Int32) (zM_code : Int32) (hf : f_X11_keeps_g M_g M_kept M_changes M_isWithin M_code = some (zM_kept, zM_changes, zM_code)) : Met l yX11_keeps wsX11_keeps ({ frames := 1, cells := 0, slots := 0, locals := 24 } : Room) (va_Pc [.ref (a 0), .ref (a 1)] (wk_E (dC, dI) Y (wX11 Y a M_g M_kept M_saved M_before M_isSaved M_changes M_isWithin M_code M_input M_length M_fault M_failed M_signs M_signMany M_column M_loads M_many M_sums M_groups M_at M_told M_toldMany) sz)) (va_Qv (fun (_ : Unit) => True) (fun _ t => wk_X (dC, dI) Y (wX11 Y a M_g zM_kept M_saved M_before M_isSaved zM_changes M_isWithin zM_code M_input M_length M_fault M_failed M_signs M_signMany M_column M_loads M_many M_sums M_groups M_at M_told M_toldMany) (va_A (wX11 Y a M_g M_kept M_saved M_before M_isSaved M_changes M_isWithin M_code M_input M_length M_fault M_failed M_signs M_signMany M_column M_loads M_many M_sums M_groups M_at M_told M_toldMany) sz) t) (va_A (wX11 Y a M_g M_kept M_saved M_before M_isSaved M_changes M_isWithin M_code M_input M_length M_fault M_failed M_signs M_signMany M_column M_loads M_many M_sums M_groups M_at M_told M_toldMany) sz)) 0 0 (va_A (wX11 Y a M_g M_kept M_saved M_before M_isSaved M_changes M_isWithin M_code M_input M_length M_fault M_failed M_signs M_signMany M_column M_loads M_many M_sums M_groups M_at M_told M_toldMany) sz) := by
  refine Met.ofW (cc := cX11_keeps) (maxL := 3) (ret := none) (by decide) rfl ?_
  intro p e s m args below meth c s₁ B hml hv
  obtain ⟨rfl, hsz, hP, hK, hD0⟩ := hv
  have hx := B.exec
  have hb := B.bytes
  have hr := B.returns
  have hts := atoms_spec (ws := wsX11_keeps) B.pre
  have hown : s.vm.findClass RX11 = some m.cls := findClass_of_methodNamed B.named
  have hlocks := B.notSynchronized
  have C0 : wk_C p s m _ meth c cX11_keeps 3 none wsX11_keeps RX11 := ⟨hx, hb, hml, hr, hlocks, hown, hts⟩
  subst hsz
  have hD := hD0.self (sz := s.heap.size)
  generalize hAe : va_A (wX11 Y a M_g M_kept M_saved M_before M_isSaved M_changes M_isWithin M_code M_input M_length M_fault M_failed M_signs M_signMany M_column M_loads M_many M_sums M_groups M_at M_told M_toldMany) s.heap.size = A at hD ⊢
  have hA : ∀ q : Nat, s.heap.size ≤ q → A q := fun q h => by rw [← hAe]; exact Or.inr h
  have hS : va_S A s.heap s.heap [] := va_S.rf
  obtain ⟨H, hHe⟩ : ∃ H, H = s.heap := ⟨_, rfl⟩
  have hS : va_S A s.heap H [] := by rw [hHe]; exact hS
  have hP : va_P (dC, dI) vwCl [(a 0, .inr (11, [.ref (a 1), .ref (a 2), .ref (a 3), .ref (a 4), .int M_isSaved, .int M_changes, .int M_isWithin, .int M_code, .ref (a 5), .int M_length, .int M_fault, .int M_failed, .ref (a 6), .int M_signMany, .ref (a 7), .ref (a 8), .int M_many, .ref (a 9), .ref (a 10), .int M_at, .ref (a 11), .int M_toldMany])), (a 1, .inl (Y 0, 238, .inl M_g)), (a 2, .inl (Y 0, 1904, .inl M_kept)), (a 3, .inl (Y 0, 238, .inl M_saved)), (a 4, .inl (Y 0, 238, .inl M_before)), (a 5, .inl (Y 0, 60, .inl M_input)), (a 6, .inl (Y 2, 100, .inl M_signs)), (a 7, .inl (Y 0, 6, .inl M_column)), (a 8, .inl (Y 0, 6, .inl M_loads)), (a 9, .inl (Y 0, 2048, .inl M_sums)), (a 10, .inl (Y 0, 2048, .inl M_groups)), (a 11, .inl (Y 0, 155, .inl M_told))] H := by rw [hHe]; exact hP
  have hD : va_D A [(a 0, .inr (11, [.ref (a 1), .ref (a 2), .ref (a 3), .ref (a 4), .int M_isSaved, .int M_changes, .int M_isWithin, .int M_code, .ref (a 5), .int M_length, .int M_fault, .int M_failed, .ref (a 6), .int M_signMany, .ref (a 7), .ref (a 8), .int M_many, .ref (a 9), .ref (a 10), .int M_at, .ref (a 11), .int M_toldMany])), (a 1, .inl (Y 0, 238, .inl M_g)), (a 2, .inl (Y 0, 1904, .inl M_kept)), (a 3, .inl (Y 0, 238, .inl M_saved)), (a 4, .inl (Y 0, 238, .inl M_before)), (a 5, .inl (Y 0, 60, .inl M_input)), (a 6, .inl (Y 2, 100, .inl M_signs)), (a 7, .inl (Y 0, 6, .inl M_column)), (a 8, .inl (Y 0, 6, .inl M_loads)), (a 9, .inl (Y 0, 2048, .inl M_sums)), (a 10, .inl (Y 0, 2048, .inl M_groups)), (a 11, .inl (Y 0, 155, .inl M_told))] := hD
  obtain ⟨locs, hlo⟩ : ∃ locs : List Loc, locs = [] := ⟨_, rfl⟩
  have hS : va_S A s.heap H locs := by rw [hlo]; exact hS
  have hl := lv_entry ([.ref (a 0), .ref (a 1)]) (n := 3) (Nat.le_of_ble_eq_true rfl)
  rw [lg_entry_eq]
  generalize (lg_sl ([.ref (a 0), .ref (a 1)]) ++ List.replicate (3 - (lg_sl ([.ref (a 0), .ref (a 1)])).length) Slot.unset).toArray = ls at hl ⊢
  have hl : lv_has ls 3 [(0, .ref (a 0)), (1, .ref (a 1))] := hl
  refine wk_start hHe hlo ?_
  rw [f_X11_keeps_g] at hf
  refine lv_aload_n hx hb dX11_keeps_0 rfl (lv_at hl 0 rfl) ?_
  refine lv_iconst (v := 0) hx hb dX11_keeps_1 (by decide) ?_
  refine va_put (D := (dC, dI)) (ci := 11) (v := .int 0) (ty := .int) (C := RX11) (T := TX11) (N := 22) hx hb hts in_X11_keeps_g_X11 tyX11 tyX11_ok nmX11 hown hK hP hD hS 0 rfl rfl 7 (by decide) (hts _ lk_X11_keeps_g_RX11_51) (fun _ h9 => h9) rfl (by decide +kernel) rfl rfl (Nat.le_of_ble_eq_true rfl) dX11_keeps_2 (fun H locs hP hD hS => ?_)
  have hP : va_P (dC, dI) vwCl [(a 0, .inr (11, [.ref (a 1), .ref (a 2), .ref (a 3), .ref (a 4), .int M_isSaved, .int M_changes, .int M_isWithin, .int 0, .ref (a 5), .int M_length, .int M_fault, .int M_failed, .ref (a 6), .int M_signMany, .ref (a 7), .ref (a 8), .int M_many, .ref (a 9), .ref (a 10), .int M_at, .ref (a 11), .int M_toldMany])), (a 1, .inl (Y 0, 238, .inl M_g)), (a 2, .inl (Y 0, 1904, .inl M_kept)), (a 3, .inl (Y 0, 238, .inl M_saved)), (a 4, .inl (Y 0, 238, .inl M_before)), (a 5, .inl (Y 0, 60, .inl M_input)), (a 6, .inl (Y 2, 100, .inl M_signs)), (a 7, .inl (Y 0, 6, .inl M_column)), (a 8, .inl (Y 0, 6, .inl M_loads)), (a 9, .inl (Y 0, 2048, .inl M_sums)), (a 10, .inl (Y 0, 2048, .inl M_groups)), (a 11, .inl (Y 0, 155, .inl M_told))] H := hP
  have hD : va_D A [(a 0, .inr (11, [.ref (a 1), .ref (a 2), .ref (a 3), .ref (a 4), .int M_isSaved, .int M_changes, .int M_isWithin, .int 0, .ref (a 5), .int M_length, .int M_fault, .int M_failed, .ref (a 6), .int M_signMany, .ref (a 7), .ref (a 8), .int M_many, .ref (a 9), .ref (a 10), .int M_at, .ref (a 11), .int M_toldMany])), (a 1, .inl (Y 0, 238, .inl M_g)), (a 2, .inl (Y 0, 1904, .inl M_kept)), (a 3, .inl (Y 0, 238, .inl M_saved)), (a 4, .inl (Y 0, 238, .inl M_before)), (a 5, .inl (Y 0, 60, .inl M_input)), (a 6, .inl (Y 2, 100, .inl M_signs)), (a 7, .inl (Y 0, 6, .inl M_column)), (a 8, .inl (Y 0, 6, .inl M_loads)), (a 9, .inl (Y 0, 2048, .inl M_sums)), (a 10, .inl (Y 0, 2048, .inl M_groups)), (a 11, .inl (Y 0, 155, .inl M_told))] := hD
  refine lv_aload_n hx hb dX11_keeps_5 rfl (lv_at hl 0 rfl) ?_
  refine va_get (D := (dC, dI)) (ci := 11) (v := .int M_isWithin) (C := RX11) (T := TX11) (N := 22) hx hb hts in_X11_keeps_g_X11 hown hK hP 0 rfl rfl 6 (by decide) (hts _ lk_X11_keeps_g_RX11_54) (fun _ h9 => h9) rfl dX11_keeps_6 ?_
  refine lv_if_eq (tgt := 13) hx hb dX11_keeps_9 (by decide) (fun q1 => ?_) (fun q1 => ?_)
  · have hf := wk_t hf q1
    refine lv_aload_n hx hb dX11_keeps_13 rfl (lv_at hl 0 rfl) ?_
    refine va_get (D := (dC, dI)) (ci := 11) (v := .int M_changes) (C := RX11) (T := TX11) (N := 22) hx hb hts in_X11_keeps_g_X11 hown hK hP 0 rfl rfl 5 (by decide) (hts _ lk_X11_keeps_g_RX11_58) (fun _ h9 => h9) rfl dX11_keeps_14 ?_
    refine lv_bipush (v := 8) hx hb dX11_keeps_17 (by decide) ?_
    refine lv_icmp_ne (tgt := 63) hx hb dX11_keeps_19 (by decide) (fun q2 => ?_) (fun q2 => ?_)
    · have hf := wk_f hf q2
      exact wl_X11_keeps_g_L63 C0 hK hA M_kept M_changes 0 hf H locs hP hD hS ls (lv_sub hl [0, 1] rfl)
    · have hf := wk_t hf q2
      refine lv_iconst (v := 0) hx hb dX11_keeps_22 (by decide) ?_
      refine lv_istore_n (lv' := [(2, .int 0), (0, .ref (a 0)), (1, .ref (a 1))]) hx hb dX11_keeps_23 rfl hl (by decide) rfl (fun ls hl => ?_)
      exact wl_X11_keeps_g_L24 C0 hK hA FU 0 M_kept M_changes 0 hf H locs hP hD hS ls (lv_sub hl [1, 2, 0] rfl)
  · have hf := wk_f hf q1
    obtain ⟨e0, e1, e2⟩ := wke3 hf
    subst e0
    subst e1
    subst e2
    have hP9 := hP.sub (ws' := (wX11 Y a M_g M_kept M_saved M_before M_isSaved M_changes M_isWithin 0 M_input M_length M_fault M_failed M_signs M_signMany M_column M_loads M_many M_sums M_groups M_at M_told M_toldMany)) [0, 1, 2, 3, 4, 5, 6, 7, 8, 9, 10, 11] rfl
    have hD9 := hD.sub (ws' := (wX11 Y a M_g M_kept M_saved M_before M_isSaved M_changes M_isWithin 0 M_input M_length M_fault M_failed M_signs M_signMany M_column M_loads M_many M_sums M_groups M_at M_told M_toldMany)) [0, 1, 2, 3, 4, 5, 6, 7, 8, 9, 10, 11] (by decide) rfl
    exact W.vret hx hb hr (fun t ht hW => ⟨⟨(), rfl, trivial, by rw [ht]; exact hP9, va_K.moved hW.alike hK, hD9⟩, hS.F ht⟩) hS.2.2 dX11_keeps_12
theorem lk_X11_keeps_before_RX11_13 : Cond.fieldLink RX11 13 "CircusLedgerModel" "kept" "[I" ∈ wsX11_keeps := by decide +kernel
theorem lk_X11_keeps_before_RX11_51 : Cond.fieldLink RX11 51 "CircusLedgerModel" "code" "I" ∈ wsX11_keeps := by decide +kernel
theorem lk_X11_keeps_before_RX11_54 : Cond.fieldLink RX11 54 "CircusLedgerModel" "isWithin" "Z" ∈ wsX11_keeps := by decide +kernel
theorem lk_X11_keeps_before_RX11_58 : Cond.fieldLink RX11 58 "CircusLedgerModel" "changes" "I" ∈ wsX11_keeps := by decide +kernel
theorem in_X11_keeps_before_X11 : ∀ w ∈ u_ws RX11 TX11 22, w ∈ wsX11_keeps := by decide +kernel
def f_X11_keeps_before_L63 (M_before : Nat → Int32) (M_isWithin : Int32) (M_kept : (Nat → Int32)) (M_changes : Int32) (M_code : Int32) : Option ((Nat → Int32) × Int32 × Int32) :=
    wkb1 (f_X11_copies_238_1904 M_before M_kept 0 (238 * M_changes)) (fun w1 =>
    wkl ((M_changes + 1)) (fun v3 =>
    some (w1, v3, M_code)))
def f_X11_keeps_before_L24 (M_before : Nat → Int32) (M_isWithin : Int32) : Nat → Int32 → (Nat → Int32) → Int32 → Int32 → Option ((Nat → Int32) × Int32 × Int32)
  | 0, _, _, _, _ => none
  | nn + 1, x2, M_kept, M_changes, M_code =>
    if (1666 : Int32) ≤ x2 then
      (wkl ((M_changes - 1)) (fun v2 =>
      f_X11_keeps_before_L63 M_before M_isWithin M_kept v2 M_code))
    else
      (gin (x2 + 238) 1904 (gin x2 1904 (wkl (upd M_kept x2.toNatClampNeg (M_kept (x2 + 238).toNatClampNeg)) (fun g4 =>
      f_X11_keeps_before_L24 M_before M_isWithin nn (x2 + 1) g4 M_changes M_code))))
def f_X11_keeps_before (M_kept : Nat → Int32) (M_before : Nat → Int32) (M_changes : Int32) (M_isWithin : Int32) (M_code : Int32) : Option ((Nat → Int32) × Int32 × Int32) :=
  if M_isWithin = 0 then
    (if M_changes = 8 then
      (f_X11_keeps_before_L24 M_before M_isWithin FU 0 M_kept M_changes 0)
    else
      (f_X11_keeps_before_L63 M_before M_isWithin M_kept M_changes 0))
  else
    (some (M_kept, M_changes, 0))
set_option maxHeartbeats 4000000 in
set_option maxRecDepth 100000 in
theorem wl_X11_keeps_before_L63 {p : Program} {l : Launch} {e : Env} {s : State} {m : MethodId} {args : Array Value} {below : List Frame} {meth : Method} {c : Code} {dC : Nat → ClassId} {dI : Nat → Nat → Nat} {Y : Nat → ClassId} {a : Nat → Nat} {M_g : Nat → Int32} {M_saved : Nat → Int32} {M_before : Nat → Int32} {M_isSaved : Int32} {M_isWithin : Int32} {M_input : Nat → Int32} {M_length : Int32} {M_fault : Int32} {M_failed : Int32} {M_signs : Nat → Int32} {M_signMany : Int32} {M_column : Nat → Int32} {M_loads : Nat → Int32} {M_many : Int32} {M_sums : Nat → Int32} {M_groups : Nat → Int32} {M_at : Int32} {M_told : Nat → Int32} {M_toldMany : Int32}  {zM_kept : Nat → Int32} {zM_changes : Int32} {zM_code : Int32}  (C0 : wk_C p s m args meth c cX11_keeps 3 none wsX11_keeps RX11) {A : Nat → Prop} (hK : va_K (dC, dI) vwCl (vTy Y) s) (hA : ∀ q, s.heap.size ≤ q → A q) : ∀   (M_kept : Nat → Int32) (M_changes : Int32) (M_code : Int32), f_X11_keeps_before_L63 M_before M_isWithin M_kept M_changes M_code = some (zM_kept, zM_changes, zM_code) → ∀ (H : Heap) (locs : List Loc), va_P (dC, dI) vwCl (wX11 Y a M_g M_kept M_saved M_before M_isSaved M_changes M_isWithin M_code M_input M_length M_fault M_failed M_signs M_signMany M_column M_loads M_many M_sums M_groups M_at M_told M_toldMany) H → va_D A (wX11 Y a M_g M_kept M_saved M_before M_isSaved M_changes M_isWithin M_code M_input M_length M_fault M_failed M_signs M_signMany M_column M_loads M_many M_sums M_groups M_at M_told M_toldMany) → va_S A s.heap H locs → ∀ (ls : Array Slot), lv_has ls 3 [(0, .ref (a 0)), (1, .ref (a 4))] → W p l e (headSpec wsX11_keeps ({ frames := 1, cells := 0, slots := 0, locals := 24 } : Room)).room s m args below meth c H locs 0 0 (MQ below (va_Qv (fun (_ : Unit) => True) (fun _ t => wk_X (dC, dI) Y (wX11 Y a M_g zM_kept M_saved M_before M_isSaved zM_changes M_isWithin zM_code M_input M_length M_fault M_failed M_signs M_signMany M_column M_loads M_many M_sums M_groups M_at M_told M_toldMany) A t) A) args s 0 0 A) (F0 m 63 ls []) := by
  obtain ⟨hx, hb, hml, hr, hlocks, hown, hts⟩ := id C0
  intro M_kept M_changes M_code hf H locs hP hD hS ls hl
  rw [f_X11_keeps_before_L63] at hf
  have hP : va_P (dC, dI) vwCl [(a 0, .inr (11, [.ref (a 1), .ref (a 2), .ref (a 3), .ref (a 4), .int M_isSaved, .int M_changes, .int M_isWithin, .int M_code, .ref (a 5), .int M_length, .int M_fault, .int M_failed, .ref (a 6), .int M_signMany, .ref (a 7), .ref (a 8), .int M_many, .ref (a 9), .ref (a 10), .int M_at, .ref (a 11), .int M_toldMany])), (a 1, .inl (Y 0, 238, .inl M_g)), (a 2, .inl (Y 0, 1904, .inl M_kept)), (a 3, .inl (Y 0, 238, .inl M_saved)), (a 4, .inl (Y 0, 238, .inl M_before)), (a 5, .inl (Y 0, 60, .inl M_input)), (a 6, .inl (Y 2, 100, .inl M_signs)), (a 7, .inl (Y 0, 6, .inl M_column)), (a 8, .inl (Y 0, 6, .inl M_loads)), (a 9, .inl (Y 0, 2048, .inl M_sums)), (a 10, .inl (Y 0, 2048, .inl M_groups)), (a 11, .inl (Y 0, 155, .inl M_told))] H := hP
  have hD : va_D A [(a 0, .inr (11, [.ref (a 1), .ref (a 2), .ref (a 3), .ref (a 4), .int M_isSaved, .int M_changes, .int M_isWithin, .int M_code, .ref (a 5), .int M_length, .int M_fault, .int M_failed, .ref (a 6), .int M_signMany, .ref (a 7), .ref (a 8), .int M_many, .ref (a 9), .ref (a 10), .int M_at, .ref (a 11), .int M_toldMany])), (a 1, .inl (Y 0, 238, .inl M_g)), (a 2, .inl (Y 0, 1904, .inl M_kept)), (a 3, .inl (Y 0, 238, .inl M_saved)), (a 4, .inl (Y 0, 238, .inl M_before)), (a 5, .inl (Y 0, 60, .inl M_input)), (a 6, .inl (Y 2, 100, .inl M_signs)), (a 7, .inl (Y 0, 6, .inl M_column)), (a 8, .inl (Y 0, 6, .inl M_loads)), (a 9, .inl (Y 0, 2048, .inl M_sums)), (a 10, .inl (Y 0, 2048, .inl M_groups)), (a 11, .inl (Y 0, 155, .inl M_told))] := hD
  refine lv_aload_n hx hb dX11_keeps_63 rfl (lv_at hl 1 rfl) ?_
  refine lv_iconst (v := 0) hx hb dX11_keeps_64 (by decide) ?_
  refine lv_aload_n hx hb dX11_keeps_65 rfl (lv_at hl 0 rfl) ?_
  refine va_get (D := (dC, dI)) (ci := 11) (v := .ref (a 2)) (C := RX11) (T := TX11) (N := 22) hx hb hts in_X11_keeps_before_X11 hown hK hP 0 rfl rfl 1 (by decide) (hts _ lk_X11_keeps_before_RX11_13) (fun _ h9 => h9) rfl dX11_keeps_66 ?_
  refine lv_sipush (v := 238) hx hb dX11_keeps_69 (by decide) ?_
  refine lv_aload_n hx hb dX11_keeps_72 rfl (lv_at hl 0 rfl) ?_
  refine va_get (D := (dC, dI)) (ci := 11) (v := .int M_changes) (C := RX11) (T := TX11) (N := 22) hx hb hts in_X11_keeps_before_X11 hown hK hP 0 rfl rfl 5 (by decide) (hts _ lk_X11_keeps_before_RX11_58) (fun _ h9 => h9) rfl dX11_keeps_73 ?_
  refine lv_imul hx hb dX11_keeps_76 ?_
  obtain ⟨w1, hr2, hf⟩ := wkb1_s hf
  refine wk_esv (As := [.ref (a 4), .int 0, .ref (a 2), .int (238 * M_changes)]) (rest := []) (wc := ([((fun k => a (k + 4)) 0, .inl (Y 0, 238, .inl M_before))] ++ [((fun k => a (k + 2)) 0, .inl (Y 0, 1904, .inl M_kept))])) (w1 := ([((fun k => a (k + 4)) 0, .inl (Y 0, 238, .inl M_before))] ++ [((fun k => a (k + 2)) 0, .inl (Y 0, 1904, .inl w1))])) (wr := [(a 0, .inr (11, [.ref (a 1), .ref (a 2), .ref (a 3), .ref (a 4), .int M_isSaved, .int M_changes, .int M_isWithin, .int M_code, .ref (a 5), .int M_length, .int M_fault, .int M_failed, .ref (a 6), .int M_signMany, .ref (a 7), .ref (a 8), .int M_many, .ref (a 9), .ref (a 10), .int M_at, .ref (a 11), .int M_toldMany])), (a 1, .inl (Y 0, 238, .inl M_g)), (a 3, .inl (Y 0, 238, .inl M_saved)), (a 5, .inl (Y 0, 60, .inl M_input)), (a 6, .inl (Y 2, 100, .inl M_signs)), (a 7, .inl (Y 0, 6, .inl M_column)), (a 8, .inl (Y 0, 6, .inl M_loads)), (a 9, .inl (Y 0, 2048, .inl M_sums)), (a 10, .inl (Y 0, 2048, .inl M_groups)), (a 11, .inl (Y 0, 155, .inl M_told))]) ⟨hx, hb, hml, hown, hts⟩ (c_X11_copies_238_1904 l dC dI Y (fun k => a (k + 4)) (fun k => a (k + 2)) M_before M_kept 0 (238 * M_changes) H.size w1 hr2) (va_cwS 4 hts gX11_keeps_X11_copies rfl rfl rfl (by decide +kernel) ⟨Nat.le_of_ble_eq_true rfl, Nat.le_of_ble_eq_true rfl⟩) hK hP hD hS hA [4, 2] [0, 1, 3, 5, 6, 7, 8, 9, 10, 11] rfl rfl (by decide) (by decide) (by decide) rfl hl.1 rfl (Nat.le_of_ble_eq_true rfl) dX11_keeps_77 ⟨Nat.le_of_ble_eq_true rfl, Nat.le_of_ble_eq_true rfl⟩ (fun H locs hP hD hS => ?_)
  have hP : va_P (dC, dI) vwCl [(a 0, .inr (11, [.ref (a 1), .ref (a 2), .ref (a 3), .ref (a 4), .int M_isSaved, .int M_changes, .int M_isWithin, .int M_code, .ref (a 5), .int M_length, .int M_fault, .int M_failed, .ref (a 6), .int M_signMany, .ref (a 7), .ref (a 8), .int M_many, .ref (a 9), .ref (a 10), .int M_at, .ref (a 11), .int M_toldMany])), (a 1, .inl (Y 0, 238, .inl M_g)), (a 3, .inl (Y 0, 238, .inl M_saved)), (a 5, .inl (Y 0, 60, .inl M_input)), (a 6, .inl (Y 2, 100, .inl M_signs)), (a 7, .inl (Y 0, 6, .inl M_column)), (a 8, .inl (Y 0, 6, .inl M_loads)), (a 9, .inl (Y 0, 2048, .inl M_sums)), (a 10, .inl (Y 0, 2048, .inl M_groups)), (a 11, .inl (Y 0, 155, .inl M_told)), (a 4, .inl (Y 0, 238, .inl M_before)), (a 2, .inl (Y 0, 1904, .inl w1))] H := hP
  have hD : va_D A [(a 0, .inr (11, [.ref (a 1), .ref (a 2), .ref (a 3), .ref (a 4), .int M_isSaved, .int M_changes, .int M_isWithin, .int M_code, .ref (a 5), .int M_length, .int M_fault, .int M_failed, .ref (a 6), .int M_signMany, .ref (a 7), .ref (a 8), .int M_many, .ref (a 9), .ref (a 10), .int M_at, .ref (a 11), .int M_toldMany])), (a 1, .inl (Y 0, 238, .inl M_g)), (a 3, .inl (Y 0, 238, .inl M_saved)), (a 5, .inl (Y 0, 60, .inl M_input)), (a 6, .inl (Y 2, 100, .inl M_signs)), (a 7, .inl (Y 0, 6, .inl M_column)), (a 8, .inl (Y 0, 6, .inl M_loads)), (a 9, .inl (Y 0, 2048, .inl M_sums)), (a 10, .inl (Y 0, 2048, .inl M_groups)), (a 11, .inl (Y 0, 155, .inl M_told)), (a 4, .inl (Y 0, 238, .inl M_before)), (a 2, .inl (Y 0, 1904, .inl w1))] := hD
  refine lv_aload_n hx hb dX11_keeps_80 rfl (lv_at hl 0 rfl) ?_
  refine lv_dup hx hb dX11_keeps_81 rfl ?_
  refine va_get (D := (dC, dI)) (ci := 11) (v := .int M_changes) (C := RX11) (T := TX11) (N := 22) hx hb hts in_X11_keeps_before_X11 hown hK hP 0 rfl rfl 5 (by decide) (hts _ lk_X11_keeps_before_RX11_58) (fun _ h9 => h9) rfl dX11_keeps_82 ?_
  refine lv_iconst (v := 1) hx hb dX11_keeps_85 (by decide) ?_
  refine lv_iadd hx hb dX11_keeps_86 ?_
  refine lv_topi (fun v3 ev3 => ?_)
  have hf := wkl_s hf ev3
  refine va_put (D := (dC, dI)) (ci := 11) (v := .int v3) (ty := .int) (C := RX11) (T := TX11) (N := 22) hx hb hts in_X11_keeps_before_X11 tyX11 tyX11_ok nmX11 hown hK hP hD hS 0 rfl rfl 5 (by decide) (hts _ lk_X11_keeps_before_RX11_58) (fun _ h9 => h9) rfl (by decide +kernel) rfl rfl (Nat.le_of_ble_eq_true rfl) dX11_keeps_87 (fun H locs hP hD hS => ?_)
  have hP : va_P (dC, dI) vwCl [(a 0, .inr (11, [.ref (a 1), .ref (a 2), .ref (a 3), .ref (a 4), .int M_isSaved, .int v3, .int M_isWithin, .int M_code, .ref (a 5), .int M_length, .int M_fault, .int M_failed, .ref (a 6), .int M_signMany, .ref (a 7), .ref (a 8), .int M_many, .ref (a 9), .ref (a 10), .int M_at, .ref (a 11), .int M_toldMany])), (a 1, .inl (Y 0, 238, .inl M_g)), (a 3, .inl (Y 0, 238, .inl M_saved)), (a 5, .inl (Y 0, 60, .inl M_input)), (a 6, .inl (Y 2, 100, .inl M_signs)), (a 7, .inl (Y 0, 6, .inl M_column)), (a 8, .inl (Y 0, 6, .inl M_loads)), (a 9, .inl (Y 0, 2048, .inl M_sums)), (a 10, .inl (Y 0, 2048, .inl M_groups)), (a 11, .inl (Y 0, 155, .inl M_told)), (a 4, .inl (Y 0, 238, .inl M_before)), (a 2, .inl (Y 0, 1904, .inl w1))] H := hP
  have hD : va_D A [(a 0, .inr (11, [.ref (a 1), .ref (a 2), .ref (a 3), .ref (a 4), .int M_isSaved, .int v3, .int M_isWithin, .int M_code, .ref (a 5), .int M_length, .int M_fault, .int M_failed, .ref (a 6), .int M_signMany, .ref (a 7), .ref (a 8), .int M_many, .ref (a 9), .ref (a 10), .int M_at, .ref (a 11), .int M_toldMany])), (a 1, .inl (Y 0, 238, .inl M_g)), (a 3, .inl (Y 0, 238, .inl M_saved)), (a 5, .inl (Y 0, 60, .inl M_input)), (a 6, .inl (Y 2, 100, .inl M_signs)), (a 7, .inl (Y 0, 6, .inl M_column)), (a 8, .inl (Y 0, 6, .inl M_loads)), (a 9, .inl (Y 0, 2048, .inl M_sums)), (a 10, .inl (Y 0, 2048, .inl M_groups)), (a 11, .inl (Y 0, 155, .inl M_told)), (a 4, .inl (Y 0, 238, .inl M_before)), (a 2, .inl (Y 0, 1904, .inl w1))] := hD
  obtain ⟨e0, e1, e2⟩ := wke3 hf
  subst e0
  subst e1
  subst e2
  have hP9 := hP.sub (ws' := (wX11 Y a M_g w1 M_saved M_before M_isSaved v3 M_isWithin M_code M_input M_length M_fault M_failed M_signs M_signMany M_column M_loads M_many M_sums M_groups M_at M_told M_toldMany)) [0, 1, 11, 2, 10, 3, 4, 5, 6, 7, 8, 9] rfl
  have hD9 := hD.sub (ws' := (wX11 Y a M_g w1 M_saved M_before M_isSaved v3 M_isWithin M_code M_input M_length M_fault M_failed M_signs M_signMany M_column M_loads M_many M_sums M_groups M_at M_told M_toldMany)) [0, 1, 11, 2, 10, 3, 4, 5, 6, 7, 8, 9] (by decide) rfl
  exact W.vret hx hb hr (fun t ht hW => ⟨⟨(), rfl, trivial, by rw [ht]; exact hP9, va_K.moved hW.alike hK, hD9⟩, hS.F ht⟩) hS.2.2 dX11_keeps_90
set_option maxHeartbeats 4000000 in
set_option maxRecDepth 100000 in
theorem wl_X11_keeps_before_L24 {p : Program} {l : Launch} {e : Env} {s : State} {m : MethodId} {args : Array Value} {below : List Frame} {meth : Method} {c : Code} {dC : Nat → ClassId} {dI : Nat → Nat → Nat} {Y : Nat → ClassId} {a : Nat → Nat} {M_g : Nat → Int32} {M_saved : Nat → Int32} {M_before : Nat → Int32} {M_isSaved : Int32} {M_isWithin : Int32} {M_input : Nat → Int32} {M_length : Int32} {M_fault : Int32} {M_failed : Int32} {M_signs : Nat → Int32} {M_signMany : Int32} {M_column : Nat → Int32} {M_loads : Nat → Int32} {M_many : Int32} {M_sums : Nat → Int32} {M_groups : Nat → Int32} {M_at : Int32} {M_told : Nat → Int32} {M_toldMany : Int32}  {zM_kept : Nat → Int32} {zM_changes : Int32} {zM_code : Int32}  (C0 : wk_C p s m args meth c cX11_keeps 3 none wsX11_keeps RX11) {A : Nat → Prop} (hK : va_K (dC, dI) vwCl (vTy Y) s) (hA : ∀ q, s.heap.size ≤ q → A q) : ∀ (nn : Nat) (x2 : Int32)  (M_kept : Nat → Int32) (M_changes : Int32) (M_code : Int32), f_X11_keeps_before_L24 M_before M_isWithin nn x2 M_kept M_changes M_code = some (zM_kept, zM_changes, zM_code) → ∀ (H : Heap) (locs : List Loc), va_P (dC, dI) vwCl (wX11 Y a M_g M_kept M_saved M_before M_isSaved M_changes M_isWithin M_code M_input M_length M_fault M_failed M_signs M_signMany M_column M_loads M_many M_sums M_groups M_at M_told M_toldMany) H → va_D A (wX11 Y a M_g M_kept M_saved M_before M_isSaved M_changes M_isWithin M_code M_input M_length M_fault M_failed M_signs M_signMany M_column M_loads M_many M_sums M_groups M_at M_told M_toldMany) → va_S A s.heap H locs → ∀ (ls : Array Slot), lv_has ls 3 [(0, .ref (a 0)), (1, .ref (a 4)), (2, .int x2)] → W p l e (headSpec wsX11_keeps ({ frames := 1, cells := 0, slots := 0, locals := 24 } : Room)).room s m args below meth c H locs 0 0 (MQ below (va_Qv (fun (_ : Unit) => True) (fun _ t => wk_X (dC, dI) Y (wX11 Y a M_g zM_kept M_saved M_before M_isSaved zM_changes M_isWithin zM_code M_input M_length M_fault M_failed M_signs M_signMany M_column M_loads M_many M_sums M_groups M_at M_told M_toldMany) A t) A) args s 0 0 A) (F0 m 24 ls []) := by
  have C0 := C0
  obtain ⟨hx, hb, hml, hr, hlocks, hown, hts⟩ := id C0
  intro nn
  induction nn with
  | zero =>
    intro x2 M_kept M_changes M_code hf
    rw [f_X11_keeps_before_L24] at hf
    cases hf
  | succ nn ih =>
    intro x2 M_kept M_changes M_code hf H locs hP hD hS ls hl
    rw [f_X11_keeps_before_L24] at hf
    have hP : va_P (dC, dI) vwCl [(a 0, .inr (11, [.ref (a 1), .ref (a 2), .ref (a 3), .ref (a 4), .int M_isSaved, .int M_changes, .int M_isWithin, .int M_code, .ref (a 5), .int M_length, .int M_fault, .int M_failed, .ref (a 6), .int M_signMany, .ref (a 7), .ref (a 8), .int M_many, .ref (a 9), .ref (a 10), .int M_at, .ref (a 11), .int M_toldMany])), (a 1, .inl (Y 0, 238, .inl M_g)), (a 2, .inl (Y 0, 1904, .inl M_kept)), (a 3, .inl (Y 0, 238, .inl M_saved)), (a 4, .inl (Y 0, 238, .inl M_before)), (a 5, .inl (Y 0, 60, .inl M_input)), (a 6, .inl (Y 2, 100, .inl M_signs)), (a 7, .inl (Y 0, 6, .inl M_column)), (a 8, .inl (Y 0, 6, .inl M_loads)), (a 9, .inl (Y 0, 2048, .inl M_sums)), (a 10, .inl (Y 0, 2048, .inl M_groups)), (a 11, .inl (Y 0, 155, .inl M_told))] H := hP
    have hD : va_D A [(a 0, .inr (11, [.ref (a 1), .ref (a 2), .ref (a 3), .ref (a 4), .int M_isSaved, .int M_changes, .int M_isWithin, .int M_code, .ref (a 5), .int M_length, .int M_fault, .int M_failed, .ref (a 6), .int M_signMany, .ref (a 7), .ref (a 8), .int M_many, .ref (a 9), .ref (a 10), .int M_at, .ref (a 11), .int M_toldMany])), (a 1, .inl (Y 0, 238, .inl M_g)), (a 2, .inl (Y 0, 1904, .inl M_kept)), (a 3, .inl (Y 0, 238, .inl M_saved)), (a 4, .inl (Y 0, 238, .inl M_before)), (a 5, .inl (Y 0, 60, .inl M_input)), (a 6, .inl (Y 2, 100, .inl M_signs)), (a 7, .inl (Y 0, 6, .inl M_column)), (a 8, .inl (Y 0, 6, .inl M_loads)), (a 9, .inl (Y 0, 2048, .inl M_sums)), (a 10, .inl (Y 0, 2048, .inl M_groups)), (a 11, .inl (Y 0, 155, .inl M_told))] := hD
    refine lv_iload_n hx hb dX11_keeps_24 rfl (lv_at hl 2 rfl) ?_
    refine lv_sipush (v := 1666) hx hb dX11_keeps_25 (by decide) ?_
    refine lv_icmp_ge (tgt := 53) hx hb dX11_keeps_28 (by decide) (fun q1 => ?_) (fun q1 => ?_)
    · have hf := wk_t hf q1
      refine lv_aload_n hx hb dX11_keeps_53 rfl (lv_at hl 0 rfl) ?_
      refine lv_dup hx hb dX11_keeps_54 rfl ?_
      refine va_get (D := (dC, dI)) (ci := 11) (v := .int M_changes) (C := RX11) (T := TX11) (N := 22) hx hb hts in_X11_keeps_before_X11 hown hK hP 0 rfl rfl 5 (by decide) (hts _ lk_X11_keeps_before_RX11_58) (fun _ h9 => h9) rfl dX11_keeps_55 ?_
      refine lv_iconst (v := 1) hx hb dX11_keeps_58 (by decide) ?_
      refine lv_isub hx hb dX11_keeps_59 ?_
      refine lv_topi (fun v2 ev2 => ?_)
      have hf := wkl_s hf ev2
      refine va_put (D := (dC, dI)) (ci := 11) (v := .int v2) (ty := .int) (C := RX11) (T := TX11) (N := 22) hx hb hts in_X11_keeps_before_X11 tyX11 tyX11_ok nmX11 hown hK hP hD hS 0 rfl rfl 5 (by decide) (hts _ lk_X11_keeps_before_RX11_58) (fun _ h9 => h9) rfl (by decide +kernel) rfl rfl (Nat.le_of_ble_eq_true rfl) dX11_keeps_60 (fun H locs hP hD hS => ?_)
      have hP : va_P (dC, dI) vwCl [(a 0, .inr (11, [.ref (a 1), .ref (a 2), .ref (a 3), .ref (a 4), .int M_isSaved, .int v2, .int M_isWithin, .int M_code, .ref (a 5), .int M_length, .int M_fault, .int M_failed, .ref (a 6), .int M_signMany, .ref (a 7), .ref (a 8), .int M_many, .ref (a 9), .ref (a 10), .int M_at, .ref (a 11), .int M_toldMany])), (a 1, .inl (Y 0, 238, .inl M_g)), (a 2, .inl (Y 0, 1904, .inl M_kept)), (a 3, .inl (Y 0, 238, .inl M_saved)), (a 4, .inl (Y 0, 238, .inl M_before)), (a 5, .inl (Y 0, 60, .inl M_input)), (a 6, .inl (Y 2, 100, .inl M_signs)), (a 7, .inl (Y 0, 6, .inl M_column)), (a 8, .inl (Y 0, 6, .inl M_loads)), (a 9, .inl (Y 0, 2048, .inl M_sums)), (a 10, .inl (Y 0, 2048, .inl M_groups)), (a 11, .inl (Y 0, 155, .inl M_told))] H := hP
      have hD : va_D A [(a 0, .inr (11, [.ref (a 1), .ref (a 2), .ref (a 3), .ref (a 4), .int M_isSaved, .int v2, .int M_isWithin, .int M_code, .ref (a 5), .int M_length, .int M_fault, .int M_failed, .ref (a 6), .int M_signMany, .ref (a 7), .ref (a 8), .int M_many, .ref (a 9), .ref (a 10), .int M_at, .ref (a 11), .int M_toldMany])), (a 1, .inl (Y 0, 238, .inl M_g)), (a 2, .inl (Y 0, 1904, .inl M_kept)), (a 3, .inl (Y 0, 238, .inl M_saved)), (a 4, .inl (Y 0, 238, .inl M_before)), (a 5, .inl (Y 0, 60, .inl M_input)), (a 6, .inl (Y 2, 100, .inl M_signs)), (a 7, .inl (Y 0, 6, .inl M_column)), (a 8, .inl (Y 0, 6, .inl M_loads)), (a 9, .inl (Y 0, 2048, .inl M_sums)), (a 10, .inl (Y 0, 2048, .inl M_groups)), (a 11, .inl (Y 0, 155, .inl M_told))] := hD
      exact wl_X11_keeps_before_L63 C0 hK hA M_kept v2 M_code hf H locs hP hD hS ls (lv_sub hl [0, 1] rfl)
    · have hf := wk_f hf q1
      refine lv_aload_n hx hb dX11_keeps_31 rfl (lv_at hl 0 rfl) ?_
      refine va_get (D := (dC, dI)) (ci := 11) (v := .ref (a 2)) (C := RX11) (T := TX11) (N := 22) hx hb hts in_X11_keeps_before_X11 hown hK hP 0 rfl rfl 1 (by decide) (hts _ lk_X11_keeps_before_RX11_13) (fun _ h9 => h9) rfl dX11_keeps_32 ?_
      refine lv_iload_n hx hb dX11_keeps_35 rfl (lv_at hl 2 rfl) ?_
      refine lv_aload_n hx hb dX11_keeps_36 rfl (lv_at hl 0 rfl) ?_
      refine va_get (D := (dC, dI)) (ci := 11) (v := .ref (a 2)) (C := RX11) (T := TX11) (N := 22) hx hb hts in_X11_keeps_before_X11 hown hK hP 0 rfl rfl 1 (by decide) (hts _ lk_X11_keeps_before_RX11_13) (fun _ h9 => h9) rfl dX11_keeps_37 ?_
      refine lv_iload_n hx hb dX11_keeps_40 rfl (lv_at hl 2 rfl) ?_
      refine lv_sipush (v := 238) hx hb dX11_keeps_41 (by decide) ?_
      refine lv_iadd hx hb dX11_keeps_44 ?_
      obtain ⟨h3, hf⟩ := gin_s hf
      refine wk_iald hx hb hK hP 2 0 rfl rfl h3 rfl dX11_keeps_45 ?_
      obtain ⟨h5, hf⟩ := gin_s hf
      refine wk_iast hx hb hK hP hD hS 2 0 (k := x2.toNatClampNeg) rfl rfl h5 rfl dX11_keeps_46 (fun g4 H locs eg4 hP hD hS => ?_)
      have hP : va_P (dC, dI) vwCl [(a 0, .inr (11, [.ref (a 1), .ref (a 2), .ref (a 3), .ref (a 4), .int M_isSaved, .int M_changes, .int M_isWithin, .int M_code, .ref (a 5), .int M_length, .int M_fault, .int M_failed, .ref (a 6), .int M_signMany, .ref (a 7), .ref (a 8), .int M_many, .ref (a 9), .ref (a 10), .int M_at, .ref (a 11), .int M_toldMany])), (a 1, .inl (Y 0, 238, .inl M_g)), (a 2, .inl (Y 0, 1904, .inl g4)), (a 3, .inl (Y 0, 238, .inl M_saved)), (a 4, .inl (Y 0, 238, .inl M_before)), (a 5, .inl (Y 0, 60, .inl M_input)), (a 6, .inl (Y 2, 100, .inl M_signs)), (a 7, .inl (Y 0, 6, .inl M_column)), (a 8, .inl (Y 0, 6, .inl M_loads)), (a 9, .inl (Y 0, 2048, .inl M_sums)), (a 10, .inl (Y 0, 2048, .inl M_groups)), (a 11, .inl (Y 0, 155, .inl M_told))] H := hP
      have hD : va_D A [(a 0, .inr (11, [.ref (a 1), .ref (a 2), .ref (a 3), .ref (a 4), .int M_isSaved, .int M_changes, .int M_isWithin, .int M_code, .ref (a 5), .int M_length, .int M_fault, .int M_failed, .ref (a 6), .int M_signMany, .ref (a 7), .ref (a 8), .int M_many, .ref (a 9), .ref (a 10), .int M_at, .ref (a 11), .int M_toldMany])), (a 1, .inl (Y 0, 238, .inl M_g)), (a 2, .inl (Y 0, 1904, .inl g4)), (a 3, .inl (Y 0, 238, .inl M_saved)), (a 4, .inl (Y 0, 238, .inl M_before)), (a 5, .inl (Y 0, 60, .inl M_input)), (a 6, .inl (Y 2, 100, .inl M_signs)), (a 7, .inl (Y 0, 6, .inl M_column)), (a 8, .inl (Y 0, 6, .inl M_loads)), (a 9, .inl (Y 0, 2048, .inl M_sums)), (a 10, .inl (Y 0, 2048, .inl M_groups)), (a 11, .inl (Y 0, 155, .inl M_told))] := hD
      have hf := wkl_s hf eg4
      refine lv_iinc (v := (x2 + 1)) (lv' := [(2, .int (x2 + 1)), (0, .ref (a 0)), (1, .ref (a 4))]) hx hb dX11_keeps_47 hl (k := 2) rfl rfl (by decide) rfl (fun ls hl => ?_)
      refine lv_goto (tgt := 24) hx hb dX11_keeps_50 (by decide) ?_
      exact ih (x2 + 1) g4 M_changes M_code hf H locs hP hD hS ls (lv_sub hl [1, 2, 0] rfl)
set_option maxHeartbeats 4000000 in
set_option maxRecDepth 100000 in
theorem c_X11_keeps_before (l : Launch) (dC : Nat → ClassId) (dI : Nat → Nat → Nat) (Y : Nat → ClassId) (a : Nat → Nat) (M_g : Nat → Int32) (M_kept : Nat → Int32) (M_saved : Nat → Int32) (M_before : Nat → Int32) (M_isSaved : Int32) (M_changes : Int32) (M_isWithin : Int32) (M_code : Int32) (M_input : Nat → Int32) (M_length : Int32) (M_fault : Int32) (M_failed : Int32) (M_signs : Nat → Int32) (M_signMany : Int32) (M_column : Nat → Int32) (M_loads : Nat → Int32) (M_many : Int32) (M_sums : Nat → Int32) (M_groups : Nat → Int32) (M_at : Int32) (M_told : Nat → Int32) (M_toldMany : Int32)  (sz : Nat) (zM_kept : Nat → Int32) (zM_changes : Int32) (zM_code : Int32) (hf : f_X11_keeps_before M_kept M_before M_changes M_isWithin M_code = some (zM_kept, zM_changes, zM_code)) : Met l yX11_keeps wsX11_keeps ({ frames := 1, cells := 0, slots := 0, locals := 24 } : Room) (va_Pc [.ref (a 0), .ref (a 4)] (wk_E (dC, dI) Y (wX11 Y a M_g M_kept M_saved M_before M_isSaved M_changes M_isWithin M_code M_input M_length M_fault M_failed M_signs M_signMany M_column M_loads M_many M_sums M_groups M_at M_told M_toldMany) sz)) (va_Qv (fun (_ : Unit) => True) (fun _ t => wk_X (dC, dI) Y (wX11 Y a M_g zM_kept M_saved M_before M_isSaved zM_changes M_isWithin zM_code M_input M_length M_fault M_failed M_signs M_signMany M_column M_loads M_many M_sums M_groups M_at M_told M_toldMany) (va_A (wX11 Y a M_g M_kept M_saved M_before M_isSaved M_changes M_isWithin M_code M_input M_length M_fault M_failed M_signs M_signMany M_column M_loads M_many M_sums M_groups M_at M_told M_toldMany) sz) t) (va_A (wX11 Y a M_g M_kept M_saved M_before M_isSaved M_changes M_isWithin M_code M_input M_length M_fault M_failed M_signs M_signMany M_column M_loads M_many M_sums M_groups M_at M_told M_toldMany) sz)) 0 0 (va_A (wX11 Y a M_g M_kept M_saved M_before M_isSaved M_changes M_isWithin M_code M_input M_length M_fault M_failed M_signs M_signMany M_column M_loads M_many M_sums M_groups M_at M_told M_toldMany) sz) := by
  refine Met.ofW (cc := cX11_keeps) (maxL := 3) (ret := none) (by decide) rfl ?_
  intro p e s m args below meth c s₁ B hml hv
  obtain ⟨rfl, hsz, hP, hK, hD0⟩ := hv
  have hx := B.exec
  have hb := B.bytes
  have hr := B.returns
  have hts := atoms_spec (ws := wsX11_keeps) B.pre
  have hown : s.vm.findClass RX11 = some m.cls := findClass_of_methodNamed B.named
  have hlocks := B.notSynchronized
  have C0 : wk_C p s m _ meth c cX11_keeps 3 none wsX11_keeps RX11 := ⟨hx, hb, hml, hr, hlocks, hown, hts⟩
  subst hsz
  have hD := hD0.self (sz := s.heap.size)
  generalize hAe : va_A (wX11 Y a M_g M_kept M_saved M_before M_isSaved M_changes M_isWithin M_code M_input M_length M_fault M_failed M_signs M_signMany M_column M_loads M_many M_sums M_groups M_at M_told M_toldMany) s.heap.size = A at hD ⊢
  have hA : ∀ q : Nat, s.heap.size ≤ q → A q := fun q h => by rw [← hAe]; exact Or.inr h
  have hS : va_S A s.heap s.heap [] := va_S.rf
  obtain ⟨H, hHe⟩ : ∃ H, H = s.heap := ⟨_, rfl⟩
  have hS : va_S A s.heap H [] := by rw [hHe]; exact hS
  have hP : va_P (dC, dI) vwCl [(a 0, .inr (11, [.ref (a 1), .ref (a 2), .ref (a 3), .ref (a 4), .int M_isSaved, .int M_changes, .int M_isWithin, .int M_code, .ref (a 5), .int M_length, .int M_fault, .int M_failed, .ref (a 6), .int M_signMany, .ref (a 7), .ref (a 8), .int M_many, .ref (a 9), .ref (a 10), .int M_at, .ref (a 11), .int M_toldMany])), (a 1, .inl (Y 0, 238, .inl M_g)), (a 2, .inl (Y 0, 1904, .inl M_kept)), (a 3, .inl (Y 0, 238, .inl M_saved)), (a 4, .inl (Y 0, 238, .inl M_before)), (a 5, .inl (Y 0, 60, .inl M_input)), (a 6, .inl (Y 2, 100, .inl M_signs)), (a 7, .inl (Y 0, 6, .inl M_column)), (a 8, .inl (Y 0, 6, .inl M_loads)), (a 9, .inl (Y 0, 2048, .inl M_sums)), (a 10, .inl (Y 0, 2048, .inl M_groups)), (a 11, .inl (Y 0, 155, .inl M_told))] H := by rw [hHe]; exact hP
  have hD : va_D A [(a 0, .inr (11, [.ref (a 1), .ref (a 2), .ref (a 3), .ref (a 4), .int M_isSaved, .int M_changes, .int M_isWithin, .int M_code, .ref (a 5), .int M_length, .int M_fault, .int M_failed, .ref (a 6), .int M_signMany, .ref (a 7), .ref (a 8), .int M_many, .ref (a 9), .ref (a 10), .int M_at, .ref (a 11), .int M_toldMany])), (a 1, .inl (Y 0, 238, .inl M_g)), (a 2, .inl (Y 0, 1904, .inl M_kept)), (a 3, .inl (Y 0, 238, .inl M_saved)), (a 4, .inl (Y 0, 238, .inl M_before)), (a 5, .inl (Y 0, 60, .inl M_input)), (a 6, .inl (Y 2, 100, .inl M_signs)), (a 7, .inl (Y 0, 6, .inl M_column)), (a 8, .inl (Y 0, 6, .inl M_loads)), (a 9, .inl (Y 0, 2048, .inl M_sums)), (a 10, .inl (Y 0, 2048, .inl M_groups)), (a 11, .inl (Y 0, 155, .inl M_told))] := hD
  obtain ⟨locs, hlo⟩ : ∃ locs : List Loc, locs = [] := ⟨_, rfl⟩
  have hS : va_S A s.heap H locs := by rw [hlo]; exact hS
  have hl := lv_entry ([.ref (a 0), .ref (a 4)]) (n := 3) (Nat.le_of_ble_eq_true rfl)
  rw [lg_entry_eq]
  generalize (lg_sl ([.ref (a 0), .ref (a 4)]) ++ List.replicate (3 - (lg_sl ([.ref (a 0), .ref (a 4)])).length) Slot.unset).toArray = ls at hl ⊢
  have hl : lv_has ls 3 [(0, .ref (a 0)), (1, .ref (a 4))] := hl
  refine wk_start hHe hlo ?_
  rw [f_X11_keeps_before] at hf
  refine lv_aload_n hx hb dX11_keeps_0 rfl (lv_at hl 0 rfl) ?_
  refine lv_iconst (v := 0) hx hb dX11_keeps_1 (by decide) ?_
  refine va_put (D := (dC, dI)) (ci := 11) (v := .int 0) (ty := .int) (C := RX11) (T := TX11) (N := 22) hx hb hts in_X11_keeps_before_X11 tyX11 tyX11_ok nmX11 hown hK hP hD hS 0 rfl rfl 7 (by decide) (hts _ lk_X11_keeps_before_RX11_51) (fun _ h9 => h9) rfl (by decide +kernel) rfl rfl (Nat.le_of_ble_eq_true rfl) dX11_keeps_2 (fun H locs hP hD hS => ?_)
  have hP : va_P (dC, dI) vwCl [(a 0, .inr (11, [.ref (a 1), .ref (a 2), .ref (a 3), .ref (a 4), .int M_isSaved, .int M_changes, .int M_isWithin, .int 0, .ref (a 5), .int M_length, .int M_fault, .int M_failed, .ref (a 6), .int M_signMany, .ref (a 7), .ref (a 8), .int M_many, .ref (a 9), .ref (a 10), .int M_at, .ref (a 11), .int M_toldMany])), (a 1, .inl (Y 0, 238, .inl M_g)), (a 2, .inl (Y 0, 1904, .inl M_kept)), (a 3, .inl (Y 0, 238, .inl M_saved)), (a 4, .inl (Y 0, 238, .inl M_before)), (a 5, .inl (Y 0, 60, .inl M_input)), (a 6, .inl (Y 2, 100, .inl M_signs)), (a 7, .inl (Y 0, 6, .inl M_column)), (a 8, .inl (Y 0, 6, .inl M_loads)), (a 9, .inl (Y 0, 2048, .inl M_sums)), (a 10, .inl (Y 0, 2048, .inl M_groups)), (a 11, .inl (Y 0, 155, .inl M_told))] H := hP
  have hD : va_D A [(a 0, .inr (11, [.ref (a 1), .ref (a 2), .ref (a 3), .ref (a 4), .int M_isSaved, .int M_changes, .int M_isWithin, .int 0, .ref (a 5), .int M_length, .int M_fault, .int M_failed, .ref (a 6), .int M_signMany, .ref (a 7), .ref (a 8), .int M_many, .ref (a 9), .ref (a 10), .int M_at, .ref (a 11), .int M_toldMany])), (a 1, .inl (Y 0, 238, .inl M_g)), (a 2, .inl (Y 0, 1904, .inl M_kept)), (a 3, .inl (Y 0, 238, .inl M_saved)), (a 4, .inl (Y 0, 238, .inl M_before)), (a 5, .inl (Y 0, 60, .inl M_input)), (a 6, .inl (Y 2, 100, .inl M_signs)), (a 7, .inl (Y 0, 6, .inl M_column)), (a 8, .inl (Y 0, 6, .inl M_loads)), (a 9, .inl (Y 0, 2048, .inl M_sums)), (a 10, .inl (Y 0, 2048, .inl M_groups)), (a 11, .inl (Y 0, 155, .inl M_told))] := hD
  refine lv_aload_n hx hb dX11_keeps_5 rfl (lv_at hl 0 rfl) ?_
  refine va_get (D := (dC, dI)) (ci := 11) (v := .int M_isWithin) (C := RX11) (T := TX11) (N := 22) hx hb hts in_X11_keeps_before_X11 hown hK hP 0 rfl rfl 6 (by decide) (hts _ lk_X11_keeps_before_RX11_54) (fun _ h9 => h9) rfl dX11_keeps_6 ?_
  refine lv_if_eq (tgt := 13) hx hb dX11_keeps_9 (by decide) (fun q1 => ?_) (fun q1 => ?_)
  · have hf := wk_t hf q1
    refine lv_aload_n hx hb dX11_keeps_13 rfl (lv_at hl 0 rfl) ?_
    refine va_get (D := (dC, dI)) (ci := 11) (v := .int M_changes) (C := RX11) (T := TX11) (N := 22) hx hb hts in_X11_keeps_before_X11 hown hK hP 0 rfl rfl 5 (by decide) (hts _ lk_X11_keeps_before_RX11_58) (fun _ h9 => h9) rfl dX11_keeps_14 ?_
    refine lv_bipush (v := 8) hx hb dX11_keeps_17 (by decide) ?_
    refine lv_icmp_ne (tgt := 63) hx hb dX11_keeps_19 (by decide) (fun q2 => ?_) (fun q2 => ?_)
    · have hf := wk_f hf q2
      exact wl_X11_keeps_before_L63 C0 hK hA M_kept M_changes 0 hf H locs hP hD hS ls (lv_sub hl [0, 1] rfl)
    · have hf := wk_t hf q2
      refine lv_iconst (v := 0) hx hb dX11_keeps_22 (by decide) ?_
      refine lv_istore_n (lv' := [(2, .int 0), (0, .ref (a 0)), (1, .ref (a 4))]) hx hb dX11_keeps_23 rfl hl (by decide) rfl (fun ls hl => ?_)
      exact wl_X11_keeps_before_L24 C0 hK hA FU 0 M_kept M_changes 0 hf H locs hP hD hS ls (lv_sub hl [1, 2, 0] rfl)
  · have hf := wk_f hf q1
    obtain ⟨e0, e1, e2⟩ := wke3 hf
    subst e0
    subst e1
    subst e2
    have hP9 := hP.sub (ws' := (wX11 Y a M_g M_kept M_saved M_before M_isSaved M_changes M_isWithin 0 M_input M_length M_fault M_failed M_signs M_signMany M_column M_loads M_many M_sums M_groups M_at M_told M_toldMany)) [0, 1, 2, 3, 4, 5, 6, 7, 8, 9, 10, 11] rfl
    have hD9 := hD.sub (ws' := (wX11 Y a M_g M_kept M_saved M_before M_isSaved M_changes M_isWithin 0 M_input M_length M_fault M_failed M_signs M_signMany M_column M_loads M_many M_sums M_groups M_at M_told M_toldMany)) [0, 1, 2, 3, 4, 5, 6, 7, 8, 9, 10, 11] (by decide) rfl
    exact W.vret hx hb hr (fun t ht hW => ⟨⟨(), rfl, trivial, by rw [ht]; exact hP9, va_K.moved hW.alike hK, hD9⟩, hS.F ht⟩) hS.2.2 dX11_keeps_12
theorem lk_X11_isAcrobat_RX11_7 : Cond.fieldLink RX11 7 "CircusLedgerModel" "g" "[I" ∈ wsX11_isAcrobat := by decide +kernel
theorem in_X11_isAcrobat_X11 : ∀ w ∈ u_ws RX11 TX11 22, w ∈ wsX11_isAcrobat := by decide +kernel
def f_X11_isAcrobat (M_g : Nat → Int32) (x1 : Int32) : Option (Int32) :=
  wkb1 (f_X11_in x1 0 ((M_g 0) - 1)) (fun r1 =>
  gbo r1 (some (r1)))
set_option maxHeartbeats 4000000 in
set_option maxRecDepth 100000 in
theorem c_X11_isAcrobat (l : Launch) (dC : Nat → ClassId) (dI : Nat → Nat → Nat) (Y : Nat → ClassId) (a : Nat → Nat) (M_g : Nat → Int32) (M_kept : Nat → Int32) (M_saved : Nat → Int32) (M_before : Nat → Int32) (M_isSaved : Int32) (M_changes : Int32) (M_isWithin : Int32) (M_code : Int32) (M_input : Nat → Int32) (M_length : Int32) (M_fault : Int32) (M_failed : Int32) (M_signs : Nat → Int32) (M_signMany : Int32) (M_column : Nat → Int32) (M_loads : Nat → Int32) (M_many : Int32) (M_sums : Nat → Int32) (M_groups : Nat → Int32) (M_at : Int32) (M_told : Nat → Int32) (M_toldMany : Int32) (x1 : Int32) (r : Int32) (hf : f_X11_isAcrobat M_g x1 = some (r)) : Met l yX11_isAcrobat wsX11_isAcrobat ({ frames := 1, cells := 0, slots := 0, locals := 22 } : Room) (va_Pc [.ref (a 0), .int x1] (wk_B (dC, dI) Y (wX11 Y a M_g M_kept M_saved M_before M_isSaved M_changes M_isWithin M_code M_input M_length M_fault M_failed M_signs M_signMany M_column M_loads M_many M_sums M_groups M_at M_told M_toldMany))) (vp_Si (fun r2 => r2 = r)) 0 0 (fun _ => False) := by
  refine Met.ofW (cc := cX11_isAcrobat) (maxL := 2) (ret := (some .boolean)) (by decide) rfl ?_
  intro p e s m args below meth c s₁ B hml hv
  obtain ⟨rfl, hP, hK⟩ := hv
  have hx := B.exec
  have hb := B.bytes
  have hr := B.returns
  have hts := atoms_spec (ws := wsX11_isAcrobat) B.pre
  have hown : s.vm.findClass RX11 = some m.cls := findClass_of_methodNamed B.named
  have hlocks := B.notSynchronized
  have C0 : wk_C p s m _ meth c cX11_isAcrobat 2 (some .boolean) wsX11_isAcrobat RX11 := ⟨hx, hb, hml, hr, hlocks, hown, hts⟩
  have hP : va_P (dC, dI) vwCl [(a 0, .inr (11, [.ref (a 1), .ref (a 2), .ref (a 3), .ref (a 4), .int M_isSaved, .int M_changes, .int M_isWithin, .int M_code, .ref (a 5), .int M_length, .int M_fault, .int M_failed, .ref (a 6), .int M_signMany, .ref (a 7), .ref (a 8), .int M_many, .ref (a 9), .ref (a 10), .int M_at, .ref (a 11), .int M_toldMany])), (a 1, .inl (Y 0, 238, .inl M_g)), (a 2, .inl (Y 0, 1904, .inl M_kept)), (a 3, .inl (Y 0, 238, .inl M_saved)), (a 4, .inl (Y 0, 238, .inl M_before)), (a 5, .inl (Y 0, 60, .inl M_input)), (a 6, .inl (Y 2, 100, .inl M_signs)), (a 7, .inl (Y 0, 6, .inl M_column)), (a 8, .inl (Y 0, 6, .inl M_loads)), (a 9, .inl (Y 0, 2048, .inl M_sums)), (a 10, .inl (Y 0, 2048, .inl M_groups)), (a 11, .inl (Y 0, 155, .inl M_told))] s.heap := hP
  have hl := lv_entry ([.ref (a 0), .int x1]) (n := 2) (Nat.le_of_ble_eq_true rfl)
  rw [lg_entry_eq]
  generalize (lg_sl ([.ref (a 0), .int x1]) ++ List.replicate (2 - (lg_sl ([.ref (a 0), .int x1])).length) Slot.unset).toArray = ls at hl ⊢
  have hl : lv_has ls 2 [(0, .ref (a 0)), (1, .int x1)] := hl
  rw [f_X11_isAcrobat] at hf
  refine lv_iload_n hx hb dX11_isAcrobat_0 rfl (lv_at hl 1 rfl) ?_
  refine lv_iconst (v := 0) hx hb dX11_isAcrobat_1 (by decide) ?_
  refine lv_aload_n hx hb dX11_isAcrobat_2 rfl (lv_at hl 0 rfl) ?_
  refine va_get (D := (dC, dI)) (ci := 11) (v := .ref (a 1)) (C := RX11) (T := TX11) (N := 22) hx hb hts in_X11_isAcrobat_X11 hown hK hP 0 rfl rfl 0 (by decide) (hts _ lk_X11_isAcrobat_RX11_7) (fun _ h9 => h9) rfl dX11_isAcrobat_3 ?_
  refine lv_iconst (v := 0) hx hb dX11_isAcrobat_6 (by decide) ?_
  refine wk_iald hx hb hK hP 1 0 (k := 0) rfl rfl (vp_lit (by decide)) (by decide) dX11_isAcrobat_7 ?_
  refine lv_iconst (v := 1) hx hb dX11_isAcrobat_8 (by decide) ?_
  refine lv_isub hx hb dX11_isAcrobat_9 ?_
  obtain ⟨r1, hr2, hf⟩ := wkb1_s hf
  have hPc := hP.sub (ws' := ([] : va_W)) [] rfl
  refine wk_si (As := [.int x1, .int 0, .int ((M_g 0) - 1)]) (rest := []) ⟨hx, hb, hml, hown, hts⟩ (c_X11_in l dC dI Y x1 0 ((M_g 0) - 1) r1 hr2) (va_cwS 3 hts gX11_isAcrobat_X11_in rfl rfl rfl (by decide +kernel) ⟨Nat.le_of_ble_eq_true rfl, Nat.le_of_ble_eq_true rfl⟩) hK hPc rfl hl.1 rfl (Nat.le_of_ble_eq_true rfl) dX11_isAcrobat_10 ⟨Nat.le_of_ble_eq_true rfl, Nat.le_of_ble_eq_true rfl⟩ ?_
  obtain ⟨h01, hf⟩ := gbo_s hf
  have e0 := wke1 hf
  subst e0
  exact W.zret (v := r1) (ty := .boolean) hx hb hr (gbo_n h01) (fun t ht hW => ⟨r1, rfl, rfl, ht⟩) (fun q h => absurd h List.not_mem_nil) dX11_isAcrobat_13
def f_X11_isNone (M_g : Nat → Int32) (M_code : Int32) (x1 : Int32) : Option (Int32 × Int32) :=
  wkb1 (f_X11_isAcrobat M_g x1) (fun r1 =>
  if r1 = 0 then
    (wkb2 (f_X11_fails M_code 1) (fun r4 w5 =>
    gbo r4 (some (r4, w5))))
  else
    (wkb2 (f_X11_fails M_code 0) (fun r7 w8 =>
    gbo r7 (some (r7, w8)))))
set_option maxHeartbeats 4000000 in
set_option maxRecDepth 100000 in
theorem c_X11_isNone (l : Launch) (dC : Nat → ClassId) (dI : Nat → Nat → Nat) (Y : Nat → ClassId) (a : Nat → Nat) (M_g : Nat → Int32) (M_kept : Nat → Int32) (M_saved : Nat → Int32) (M_before : Nat → Int32) (M_isSaved : Int32) (M_changes : Int32) (M_isWithin : Int32) (M_code : Int32) (M_input : Nat → Int32) (M_length : Int32) (M_fault : Int32) (M_failed : Int32) (M_signs : Nat → Int32) (M_signMany : Int32) (M_column : Nat → Int32) (M_loads : Nat → Int32) (M_many : Int32) (M_sums : Nat → Int32) (M_groups : Nat → Int32) (M_at : Int32) (M_told : Nat → Int32) (M_toldMany : Int32) (x1 : Int32) (sz : Nat) (r : Int32) (zM_code : Int32) (hf : f_X11_isNone M_g M_code x1 = some (r, zM_code)) : Met l yX11_isNone wsX11_isNone ({ frames := 2, cells := 0, slots := 0, locals := 43 } : Room) (va_Pc [.ref (a 0), .int x1] (wk_E (dC, dI) Y (wX11 Y a M_g M_kept M_saved M_before M_isSaved M_changes M_isWithin M_code M_input M_length M_fault M_failed M_signs M_signMany M_column M_loads M_many M_sums M_groups M_at M_told M_toldMany) sz)) (va_Qi (fun r2 (_ : Unit) => r2 = r) (fun _ t => wk_X (dC, dI) Y (wX11 Y a M_g M_kept M_saved M_before M_isSaved M_changes M_isWithin zM_code M_input M_length M_fault M_failed M_signs M_signMany M_column M_loads M_many M_sums M_groups M_at M_told M_toldMany) (va_A (wX11 Y a M_g M_kept M_saved M_before M_isSaved M_changes M_isWithin M_code M_input M_length M_fault M_failed M_signs M_signMany M_column M_loads M_many M_sums M_groups M_at M_told M_toldMany) sz) t) (va_A (wX11 Y a M_g M_kept M_saved M_before M_isSaved M_changes M_isWithin M_code M_input M_length M_fault M_failed M_signs M_signMany M_column M_loads M_many M_sums M_groups M_at M_told M_toldMany) sz)) 0 0 (va_A (wX11 Y a M_g M_kept M_saved M_before M_isSaved M_changes M_isWithin M_code M_input M_length M_fault M_failed M_signs M_signMany M_column M_loads M_many M_sums M_groups M_at M_told M_toldMany) sz) := by
  refine Met.ofW (cc := cX11_isNone) (maxL := 2) (ret := (some .boolean)) (by decide) rfl ?_
  intro p e s m args below meth c s₁ B hml hv
  obtain ⟨rfl, hsz, hP, hK, hD0⟩ := hv
  have hx := B.exec
  have hb := B.bytes
  have hr := B.returns
  have hts := atoms_spec (ws := wsX11_isNone) B.pre
  have hown : s.vm.findClass RX11 = some m.cls := findClass_of_methodNamed B.named
  have hlocks := B.notSynchronized
  have C0 : wk_C p s m _ meth c cX11_isNone 2 (some .boolean) wsX11_isNone RX11 := ⟨hx, hb, hml, hr, hlocks, hown, hts⟩
  subst hsz
  have hD := hD0.self (sz := s.heap.size)
  generalize hAe : va_A (wX11 Y a M_g M_kept M_saved M_before M_isSaved M_changes M_isWithin M_code M_input M_length M_fault M_failed M_signs M_signMany M_column M_loads M_many M_sums M_groups M_at M_told M_toldMany) s.heap.size = A at hD ⊢
  have hA : ∀ q : Nat, s.heap.size ≤ q → A q := fun q h => by rw [← hAe]; exact Or.inr h
  have hS : va_S A s.heap s.heap [] := va_S.rf
  obtain ⟨H, hHe⟩ : ∃ H, H = s.heap := ⟨_, rfl⟩
  have hS : va_S A s.heap H [] := by rw [hHe]; exact hS
  have hP : va_P (dC, dI) vwCl [(a 0, .inr (11, [.ref (a 1), .ref (a 2), .ref (a 3), .ref (a 4), .int M_isSaved, .int M_changes, .int M_isWithin, .int M_code, .ref (a 5), .int M_length, .int M_fault, .int M_failed, .ref (a 6), .int M_signMany, .ref (a 7), .ref (a 8), .int M_many, .ref (a 9), .ref (a 10), .int M_at, .ref (a 11), .int M_toldMany])), (a 1, .inl (Y 0, 238, .inl M_g)), (a 2, .inl (Y 0, 1904, .inl M_kept)), (a 3, .inl (Y 0, 238, .inl M_saved)), (a 4, .inl (Y 0, 238, .inl M_before)), (a 5, .inl (Y 0, 60, .inl M_input)), (a 6, .inl (Y 2, 100, .inl M_signs)), (a 7, .inl (Y 0, 6, .inl M_column)), (a 8, .inl (Y 0, 6, .inl M_loads)), (a 9, .inl (Y 0, 2048, .inl M_sums)), (a 10, .inl (Y 0, 2048, .inl M_groups)), (a 11, .inl (Y 0, 155, .inl M_told))] H := by rw [hHe]; exact hP
  have hD : va_D A [(a 0, .inr (11, [.ref (a 1), .ref (a 2), .ref (a 3), .ref (a 4), .int M_isSaved, .int M_changes, .int M_isWithin, .int M_code, .ref (a 5), .int M_length, .int M_fault, .int M_failed, .ref (a 6), .int M_signMany, .ref (a 7), .ref (a 8), .int M_many, .ref (a 9), .ref (a 10), .int M_at, .ref (a 11), .int M_toldMany])), (a 1, .inl (Y 0, 238, .inl M_g)), (a 2, .inl (Y 0, 1904, .inl M_kept)), (a 3, .inl (Y 0, 238, .inl M_saved)), (a 4, .inl (Y 0, 238, .inl M_before)), (a 5, .inl (Y 0, 60, .inl M_input)), (a 6, .inl (Y 2, 100, .inl M_signs)), (a 7, .inl (Y 0, 6, .inl M_column)), (a 8, .inl (Y 0, 6, .inl M_loads)), (a 9, .inl (Y 0, 2048, .inl M_sums)), (a 10, .inl (Y 0, 2048, .inl M_groups)), (a 11, .inl (Y 0, 155, .inl M_told))] := hD
  obtain ⟨locs, hlo⟩ : ∃ locs : List Loc, locs = [] := ⟨_, rfl⟩
  have hS : va_S A s.heap H locs := by rw [hlo]; exact hS
  have hl := lv_entry ([.ref (a 0), .int x1]) (n := 2) (Nat.le_of_ble_eq_true rfl)
  rw [lg_entry_eq]
  generalize (lg_sl ([.ref (a 0), .int x1]) ++ List.replicate (2 - (lg_sl ([.ref (a 0), .int x1])).length) Slot.unset).toArray = ls at hl ⊢
  have hl : lv_has ls 2 [(0, .ref (a 0)), (1, .int x1)] := hl
  refine wk_start hHe hlo ?_
  rw [f_X11_isNone] at hf
  refine lv_aload_n hx hb dX11_isNone_0 rfl (lv_at hl 0 rfl) ?_
  refine lv_aload_n hx hb dX11_isNone_1 rfl (lv_at hl 0 rfl) ?_
  refine lv_iload_n hx hb dX11_isNone_2 rfl (lv_at hl 1 rfl) ?_
  obtain ⟨r1, hr2, hf⟩ := wkb1_s hf
  have hPc := hP.sub (ws' := (wX11 Y a M_g M_kept M_saved M_before M_isSaved M_changes M_isWithin M_code M_input M_length M_fault M_failed M_signs M_signMany M_column M_loads M_many M_sums M_groups M_at M_told M_toldMany)) [0, 1, 2, 3, 4, 5, 6, 7, 8, 9, 10, 11] rfl
  refine wk_vi (As := [.int x1]) (rest := [.ref (a 0)]) ⟨hx, hb, hml, hown, hts⟩ (c_X11_isAcrobat l dC dI Y a M_g M_kept M_saved M_before M_isSaved M_changes M_isWithin M_code M_input M_length M_fault M_failed M_signs M_signMany M_column M_loads M_many M_sums M_groups M_at M_told M_toldMany x1 r1 hr2) (cwV 1 hts gX11_isNone_X11_isAcrobat rfl rfl rfl (by decide +kernel) ⟨Nat.le_of_ble_eq_true rfl, Nat.le_of_ble_eq_true rfl⟩) hK hPc (va_recv hK hP (ci := 11) (q0 := 0) rfl rfl) rfl hl.1 rfl (Nat.le_of_ble_eq_true rfl) dX11_isNone_3 ⟨Nat.le_of_ble_eq_true rfl, Nat.le_of_ble_eq_true rfl⟩ ?_
  refine lv_if_eq (tgt := 13) hx hb dX11_isNone_6 (by decide) (fun q3 => ?_) (fun q3 => ?_)
  · have hf := wk_t hf q3
    refine lv_iconst (v := 1) hx hb dX11_isNone_13 (by decide) ?_
    obtain ⟨r4, w5, hr6, hf⟩ := wkb2_s hf
    refine wk_evi (As := [.int 1]) (rest := []) (wc := (wX11 Y a M_g M_kept M_saved M_before M_isSaved M_changes M_isWithin M_code M_input M_length M_fault M_failed M_signs M_signMany M_column M_loads M_many M_sums M_groups M_at M_told M_toldMany)) (w1 := (wX11 Y a M_g M_kept M_saved M_before M_isSaved M_changes M_isWithin w5 M_input M_length M_fault M_failed M_signs M_signMany M_column M_loads M_many M_sums M_groups M_at M_told M_toldMany)) (wr := []) ⟨hx, hb, hml, hown, hts⟩ (c_X11_fails l dC dI Y a M_g M_kept M_saved M_before M_isSaved M_changes M_isWithin M_code M_input M_length M_fault M_failed M_signs M_signMany M_column M_loads M_many M_sums M_groups M_at M_told M_toldMany 1 H.size r4 w5 hr6) (cwV 1 hts gX11_isNone_X11_fails rfl rfl rfl (by decide +kernel) ⟨Nat.le_of_ble_eq_true rfl, Nat.le_of_ble_eq_true rfl⟩) hK hP hD hS hA [0, 1, 2, 3, 4, 5, 6, 7, 8, 9, 10, 11] [] rfl rfl (by decide) (by decide) (by decide) (va_recv hK hP (ci := 11) (q0 := 0) rfl rfl) rfl hl.1 rfl (Nat.le_of_ble_eq_true rfl) dX11_isNone_14 ⟨Nat.le_of_ble_eq_true rfl, Nat.le_of_ble_eq_true rfl⟩ (fun H locs hP hD hS => ?_)
    have hP : va_P (dC, dI) vwCl [(a 0, .inr (11, [.ref (a 1), .ref (a 2), .ref (a 3), .ref (a 4), .int M_isSaved, .int M_changes, .int M_isWithin, .int w5, .ref (a 5), .int M_length, .int M_fault, .int M_failed, .ref (a 6), .int M_signMany, .ref (a 7), .ref (a 8), .int M_many, .ref (a 9), .ref (a 10), .int M_at, .ref (a 11), .int M_toldMany])), (a 1, .inl (Y 0, 238, .inl M_g)), (a 2, .inl (Y 0, 1904, .inl M_kept)), (a 3, .inl (Y 0, 238, .inl M_saved)), (a 4, .inl (Y 0, 238, .inl M_before)), (a 5, .inl (Y 0, 60, .inl M_input)), (a 6, .inl (Y 2, 100, .inl M_signs)), (a 7, .inl (Y 0, 6, .inl M_column)), (a 8, .inl (Y 0, 6, .inl M_loads)), (a 9, .inl (Y 0, 2048, .inl M_sums)), (a 10, .inl (Y 0, 2048, .inl M_groups)), (a 11, .inl (Y 0, 155, .inl M_told))] H := hP
    have hD : va_D A [(a 0, .inr (11, [.ref (a 1), .ref (a 2), .ref (a 3), .ref (a 4), .int M_isSaved, .int M_changes, .int M_isWithin, .int w5, .ref (a 5), .int M_length, .int M_fault, .int M_failed, .ref (a 6), .int M_signMany, .ref (a 7), .ref (a 8), .int M_many, .ref (a 9), .ref (a 10), .int M_at, .ref (a 11), .int M_toldMany])), (a 1, .inl (Y 0, 238, .inl M_g)), (a 2, .inl (Y 0, 1904, .inl M_kept)), (a 3, .inl (Y 0, 238, .inl M_saved)), (a 4, .inl (Y 0, 238, .inl M_before)), (a 5, .inl (Y 0, 60, .inl M_input)), (a 6, .inl (Y 2, 100, .inl M_signs)), (a 7, .inl (Y 0, 6, .inl M_column)), (a 8, .inl (Y 0, 6, .inl M_loads)), (a 9, .inl (Y 0, 2048, .inl M_sums)), (a 10, .inl (Y 0, 2048, .inl M_groups)), (a 11, .inl (Y 0, 155, .inl M_told))] := hD
    obtain ⟨h01, hf⟩ := gbo_s hf
    obtain ⟨e0, e1⟩ := wke2 hf
    subst e0
    subst e1
    have hP9 := hP.sub (ws' := (wX11 Y a M_g M_kept M_saved M_before M_isSaved M_changes M_isWithin w5 M_input M_length M_fault M_failed M_signs M_signMany M_column M_loads M_many M_sums M_groups M_at M_told M_toldMany)) [0, 1, 2, 3, 4, 5, 6, 7, 8, 9, 10, 11] rfl
    have hD9 := hD.sub (ws' := (wX11 Y a M_g M_kept M_saved M_before M_isSaved M_changes M_isWithin w5 M_input M_length M_fault M_failed M_signs M_signMany M_column M_loads M_many M_sums M_groups M_at M_told M_toldMany)) [0, 1, 2, 3, 4, 5, 6, 7, 8, 9, 10, 11] (by decide) rfl
    exact W.zret (v := r4) (ty := .boolean) hx hb hr (gbo_n h01) (fun t ht hW => ⟨⟨r4, (), rfl, rfl, by rw [ht]; exact hP9, va_K.moved hW.alike hK, hD9⟩, hS.F ht⟩) hS.2.2 dX11_isNone_17
  · have hf := wk_f hf q3
    refine lv_iconst (v := 0) hx hb dX11_isNone_9 (by decide) ?_
    refine lv_goto (tgt := 14) hx hb dX11_isNone_10 (by decide) ?_
    obtain ⟨r7, w8, hr9, hf⟩ := wkb2_s hf
    refine wk_evi (As := [.int 0]) (rest := []) (wc := (wX11 Y a M_g M_kept M_saved M_before M_isSaved M_changes M_isWithin M_code M_input M_length M_fault M_failed M_signs M_signMany M_column M_loads M_many M_sums M_groups M_at M_told M_toldMany)) (w1 := (wX11 Y a M_g M_kept M_saved M_before M_isSaved M_changes M_isWithin w8 M_input M_length M_fault M_failed M_signs M_signMany M_column M_loads M_many M_sums M_groups M_at M_told M_toldMany)) (wr := []) ⟨hx, hb, hml, hown, hts⟩ (c_X11_fails l dC dI Y a M_g M_kept M_saved M_before M_isSaved M_changes M_isWithin M_code M_input M_length M_fault M_failed M_signs M_signMany M_column M_loads M_many M_sums M_groups M_at M_told M_toldMany 0 H.size r7 w8 hr9) (cwV 1 hts gX11_isNone_X11_fails rfl rfl rfl (by decide +kernel) ⟨Nat.le_of_ble_eq_true rfl, Nat.le_of_ble_eq_true rfl⟩) hK hP hD hS hA [0, 1, 2, 3, 4, 5, 6, 7, 8, 9, 10, 11] [] rfl rfl (by decide) (by decide) (by decide) (va_recv hK hP (ci := 11) (q0 := 0) rfl rfl) rfl hl.1 rfl (Nat.le_of_ble_eq_true rfl) dX11_isNone_14 ⟨Nat.le_of_ble_eq_true rfl, Nat.le_of_ble_eq_true rfl⟩ (fun H locs hP hD hS => ?_)
    have hP : va_P (dC, dI) vwCl [(a 0, .inr (11, [.ref (a 1), .ref (a 2), .ref (a 3), .ref (a 4), .int M_isSaved, .int M_changes, .int M_isWithin, .int w8, .ref (a 5), .int M_length, .int M_fault, .int M_failed, .ref (a 6), .int M_signMany, .ref (a 7), .ref (a 8), .int M_many, .ref (a 9), .ref (a 10), .int M_at, .ref (a 11), .int M_toldMany])), (a 1, .inl (Y 0, 238, .inl M_g)), (a 2, .inl (Y 0, 1904, .inl M_kept)), (a 3, .inl (Y 0, 238, .inl M_saved)), (a 4, .inl (Y 0, 238, .inl M_before)), (a 5, .inl (Y 0, 60, .inl M_input)), (a 6, .inl (Y 2, 100, .inl M_signs)), (a 7, .inl (Y 0, 6, .inl M_column)), (a 8, .inl (Y 0, 6, .inl M_loads)), (a 9, .inl (Y 0, 2048, .inl M_sums)), (a 10, .inl (Y 0, 2048, .inl M_groups)), (a 11, .inl (Y 0, 155, .inl M_told))] H := hP
    have hD : va_D A [(a 0, .inr (11, [.ref (a 1), .ref (a 2), .ref (a 3), .ref (a 4), .int M_isSaved, .int M_changes, .int M_isWithin, .int w8, .ref (a 5), .int M_length, .int M_fault, .int M_failed, .ref (a 6), .int M_signMany, .ref (a 7), .ref (a 8), .int M_many, .ref (a 9), .ref (a 10), .int M_at, .ref (a 11), .int M_toldMany])), (a 1, .inl (Y 0, 238, .inl M_g)), (a 2, .inl (Y 0, 1904, .inl M_kept)), (a 3, .inl (Y 0, 238, .inl M_saved)), (a 4, .inl (Y 0, 238, .inl M_before)), (a 5, .inl (Y 0, 60, .inl M_input)), (a 6, .inl (Y 2, 100, .inl M_signs)), (a 7, .inl (Y 0, 6, .inl M_column)), (a 8, .inl (Y 0, 6, .inl M_loads)), (a 9, .inl (Y 0, 2048, .inl M_sums)), (a 10, .inl (Y 0, 2048, .inl M_groups)), (a 11, .inl (Y 0, 155, .inl M_told))] := hD
    obtain ⟨h01, hf⟩ := gbo_s hf
    obtain ⟨e0, e1⟩ := wke2 hf
    subst e0
    subst e1
    have hP9 := hP.sub (ws' := (wX11 Y a M_g M_kept M_saved M_before M_isSaved M_changes M_isWithin w8 M_input M_length M_fault M_failed M_signs M_signMany M_column M_loads M_many M_sums M_groups M_at M_told M_toldMany)) [0, 1, 2, 3, 4, 5, 6, 7, 8, 9, 10, 11] rfl
    have hD9 := hD.sub (ws' := (wX11 Y a M_g M_kept M_saved M_before M_isSaved M_changes M_isWithin w8 M_input M_length M_fault M_failed M_signs M_signMany M_column M_loads M_many M_sums M_groups M_at M_told M_toldMany)) [0, 1, 2, 3, 4, 5, 6, 7, 8, 9, 10, 11] (by decide) rfl
    exact W.zret (v := r7) (ty := .boolean) hx hb hr (gbo_n h01) (fun t ht hW => ⟨⟨r7, (), rfl, rfl, by rw [ht]; exact hP9, va_K.moved hW.alike hK, hD9⟩, hS.F ht⟩) hS.2.2 dX11_isNone_17
theorem lk_X11_of_RX11_7 : Cond.fieldLink RX11 7 "CircusLedgerModel" "g" "[I" ∈ wsX11_of := by decide +kernel
theorem in_X11_of_X11 : ∀ w ∈ u_ws RX11 TX11 22, w ∈ wsX11_of := by decide +kernel
def f_X11_of (M_g : Nat → Int32) (x1 : Int32) (x2 : Int32) : Option (Int32) :=
  gin ((6 + (5 * x1)) + x2) 238 (some ((M_g ((6 + (5 * x1)) + x2).toNatClampNeg)))
set_option maxHeartbeats 4000000 in
set_option maxRecDepth 100000 in
theorem c_X11_of (l : Launch) (dC : Nat → ClassId) (dI : Nat → Nat → Nat) (Y : Nat → ClassId) (a : Nat → Nat) (M_g : Nat → Int32) (M_kept : Nat → Int32) (M_saved : Nat → Int32) (M_before : Nat → Int32) (M_isSaved : Int32) (M_changes : Int32) (M_isWithin : Int32) (M_code : Int32) (M_input : Nat → Int32) (M_length : Int32) (M_fault : Int32) (M_failed : Int32) (M_signs : Nat → Int32) (M_signMany : Int32) (M_column : Nat → Int32) (M_loads : Nat → Int32) (M_many : Int32) (M_sums : Nat → Int32) (M_groups : Nat → Int32) (M_at : Int32) (M_told : Nat → Int32) (M_toldMany : Int32) (x1 : Int32) (x2 : Int32) (r : Int32) (hf : f_X11_of M_g x1 x2 = some (r)) : Met l yX11_of wsX11_of ({ frames := 0, cells := 0, slots := 0, locals := 0 } : Room) (va_Pc [.ref (a 0), .int x1, .int x2] (wk_B (dC, dI) Y (wX11 Y a M_g M_kept M_saved M_before M_isSaved M_changes M_isWithin M_code M_input M_length M_fault M_failed M_signs M_signMany M_column M_loads M_many M_sums M_groups M_at M_told M_toldMany))) (vp_Si (fun r2 => r2 = r)) 0 0 (fun _ => False) := by
  refine Met.ofW (cc := cX11_of) (maxL := 3) (ret := (some .int)) (by decide) rfl ?_
  intro p e s m args below meth c s₁ B hml hv
  obtain ⟨rfl, hP, hK⟩ := hv
  have hx := B.exec
  have hb := B.bytes
  have hr := B.returns
  have hts := atoms_spec (ws := wsX11_of) B.pre
  have hown : s.vm.findClass RX11 = some m.cls := findClass_of_methodNamed B.named
  have hlocks := B.notSynchronized
  have C0 : wk_C p s m _ meth c cX11_of 3 (some .int) wsX11_of RX11 := ⟨hx, hb, hml, hr, hlocks, hown, hts⟩
  have hP : va_P (dC, dI) vwCl [(a 0, .inr (11, [.ref (a 1), .ref (a 2), .ref (a 3), .ref (a 4), .int M_isSaved, .int M_changes, .int M_isWithin, .int M_code, .ref (a 5), .int M_length, .int M_fault, .int M_failed, .ref (a 6), .int M_signMany, .ref (a 7), .ref (a 8), .int M_many, .ref (a 9), .ref (a 10), .int M_at, .ref (a 11), .int M_toldMany])), (a 1, .inl (Y 0, 238, .inl M_g)), (a 2, .inl (Y 0, 1904, .inl M_kept)), (a 3, .inl (Y 0, 238, .inl M_saved)), (a 4, .inl (Y 0, 238, .inl M_before)), (a 5, .inl (Y 0, 60, .inl M_input)), (a 6, .inl (Y 2, 100, .inl M_signs)), (a 7, .inl (Y 0, 6, .inl M_column)), (a 8, .inl (Y 0, 6, .inl M_loads)), (a 9, .inl (Y 0, 2048, .inl M_sums)), (a 10, .inl (Y 0, 2048, .inl M_groups)), (a 11, .inl (Y 0, 155, .inl M_told))] s.heap := hP
  have hl := lv_entry ([.ref (a 0), .int x1, .int x2]) (n := 3) (Nat.le_of_ble_eq_true rfl)
  rw [lg_entry_eq]
  generalize (lg_sl ([.ref (a 0), .int x1, .int x2]) ++ List.replicate (3 - (lg_sl ([.ref (a 0), .int x1, .int x2])).length) Slot.unset).toArray = ls at hl ⊢
  have hl : lv_has ls 3 [(0, .ref (a 0)), (1, .int x1), (2, .int x2)] := hl
  rw [f_X11_of] at hf
  refine lv_aload_n hx hb dX11_of_0 rfl (lv_at hl 0 rfl) ?_
  refine va_get (D := (dC, dI)) (ci := 11) (v := .ref (a 1)) (C := RX11) (T := TX11) (N := 22) hx hb hts in_X11_of_X11 hown hK hP 0 rfl rfl 0 (by decide) (hts _ lk_X11_of_RX11_7) (fun _ h9 => h9) rfl dX11_of_1 ?_
  refine lv_bipush (v := 6) hx hb dX11_of_4 (by decide) ?_
  refine lv_iconst (v := 5) hx hb dX11_of_6 (by decide) ?_
  refine lv_iload_n hx hb dX11_of_7 rfl (lv_at hl 1 rfl) ?_
  refine lv_imul hx hb dX11_of_8 ?_
  refine lv_iadd hx hb dX11_of_9 ?_
  refine lv_iload_n hx hb dX11_of_10 rfl (lv_at hl 2 rfl) ?_
  refine lv_iadd hx hb dX11_of_11 ?_
  obtain ⟨h1, hf⟩ := gin_s hf
  refine wk_iald hx hb hK hP 1 0 rfl rfl h1 rfl dX11_of_12 ?_
  have e0 := wke1 hf
  subst e0
  exact W.iret (v := (M_g ((6 + (5 * x1)) + x2).toNatClampNeg)) hx hb hr (fun t ht hW => ⟨(M_g ((6 + (5 * x1)) + x2).toNatClampNeg), rfl, rfl, ht⟩) (fun q h => absurd h List.not_mem_nil) dX11_of_13
theorem lk_X11_isAccount_RX11_7 : Cond.fieldLink RX11 7 "CircusLedgerModel" "g" "[I" ∈ wsX11_isAccount := by decide +kernel
theorem in_X11_isAccount_X11 : ∀ w ∈ u_ws RX11 TX11 22, w ∈ wsX11_isAccount := by decide +kernel
def f_X11_isAccount (M_g : Nat → Int32) (x1 : Int32) : Option (Int32) :=
  wkb1 (f_X11_in x1 0 ((5 + (M_g 0)) - 1)) (fun r1 =>
  gbo r1 (some (r1)))
set_option maxHeartbeats 4000000 in
set_option maxRecDepth 100000 in
theorem c_X11_isAccount (l : Launch) (dC : Nat → ClassId) (dI : Nat → Nat → Nat) (Y : Nat → ClassId) (a : Nat → Nat) (M_g : Nat → Int32) (M_kept : Nat → Int32) (M_saved : Nat → Int32) (M_before : Nat → Int32) (M_isSaved : Int32) (M_changes : Int32) (M_isWithin : Int32) (M_code : Int32) (M_input : Nat → Int32) (M_length : Int32) (M_fault : Int32) (M_failed : Int32) (M_signs : Nat → Int32) (M_signMany : Int32) (M_column : Nat → Int32) (M_loads : Nat → Int32) (M_many : Int32) (M_sums : Nat → Int32) (M_groups : Nat → Int32) (M_at : Int32) (M_told : Nat → Int32) (M_toldMany : Int32) (x1 : Int32) (r : Int32) (hf : f_X11_isAccount M_g x1 = some (r)) : Met l yX11_isAccount wsX11_isAccount ({ frames := 1, cells := 0, slots := 0, locals := 22 } : Room) (va_Pc [.ref (a 0), .int x1] (wk_B (dC, dI) Y (wX11 Y a M_g M_kept M_saved M_before M_isSaved M_changes M_isWithin M_code M_input M_length M_fault M_failed M_signs M_signMany M_column M_loads M_many M_sums M_groups M_at M_told M_toldMany))) (vp_Si (fun r2 => r2 = r)) 0 0 (fun _ => False) := by
  refine Met.ofW (cc := cX11_isAccount) (maxL := 2) (ret := (some .boolean)) (by decide) rfl ?_
  intro p e s m args below meth c s₁ B hml hv
  obtain ⟨rfl, hP, hK⟩ := hv
  have hx := B.exec
  have hb := B.bytes
  have hr := B.returns
  have hts := atoms_spec (ws := wsX11_isAccount) B.pre
  have hown : s.vm.findClass RX11 = some m.cls := findClass_of_methodNamed B.named
  have hlocks := B.notSynchronized
  have C0 : wk_C p s m _ meth c cX11_isAccount 2 (some .boolean) wsX11_isAccount RX11 := ⟨hx, hb, hml, hr, hlocks, hown, hts⟩
  have hP : va_P (dC, dI) vwCl [(a 0, .inr (11, [.ref (a 1), .ref (a 2), .ref (a 3), .ref (a 4), .int M_isSaved, .int M_changes, .int M_isWithin, .int M_code, .ref (a 5), .int M_length, .int M_fault, .int M_failed, .ref (a 6), .int M_signMany, .ref (a 7), .ref (a 8), .int M_many, .ref (a 9), .ref (a 10), .int M_at, .ref (a 11), .int M_toldMany])), (a 1, .inl (Y 0, 238, .inl M_g)), (a 2, .inl (Y 0, 1904, .inl M_kept)), (a 3, .inl (Y 0, 238, .inl M_saved)), (a 4, .inl (Y 0, 238, .inl M_before)), (a 5, .inl (Y 0, 60, .inl M_input)), (a 6, .inl (Y 2, 100, .inl M_signs)), (a 7, .inl (Y 0, 6, .inl M_column)), (a 8, .inl (Y 0, 6, .inl M_loads)), (a 9, .inl (Y 0, 2048, .inl M_sums)), (a 10, .inl (Y 0, 2048, .inl M_groups)), (a 11, .inl (Y 0, 155, .inl M_told))] s.heap := hP
  have hl := lv_entry ([.ref (a 0), .int x1]) (n := 2) (Nat.le_of_ble_eq_true rfl)
  rw [lg_entry_eq]
  generalize (lg_sl ([.ref (a 0), .int x1]) ++ List.replicate (2 - (lg_sl ([.ref (a 0), .int x1])).length) Slot.unset).toArray = ls at hl ⊢
  have hl : lv_has ls 2 [(0, .ref (a 0)), (1, .int x1)] := hl
  rw [f_X11_isAccount] at hf
  refine lv_iload_n hx hb dX11_isAccount_0 rfl (lv_at hl 1 rfl) ?_
  refine lv_iconst (v := 0) hx hb dX11_isAccount_1 (by decide) ?_
  refine lv_iconst (v := 5) hx hb dX11_isAccount_2 (by decide) ?_
  refine lv_aload_n hx hb dX11_isAccount_3 rfl (lv_at hl 0 rfl) ?_
  refine va_get (D := (dC, dI)) (ci := 11) (v := .ref (a 1)) (C := RX11) (T := TX11) (N := 22) hx hb hts in_X11_isAccount_X11 hown hK hP 0 rfl rfl 0 (by decide) (hts _ lk_X11_isAccount_RX11_7) (fun _ h9 => h9) rfl dX11_isAccount_4 ?_
  refine lv_iconst (v := 0) hx hb dX11_isAccount_7 (by decide) ?_
  refine wk_iald hx hb hK hP 1 0 (k := 0) rfl rfl (vp_lit (by decide)) (by decide) dX11_isAccount_8 ?_
  refine lv_iadd hx hb dX11_isAccount_9 ?_
  refine lv_iconst (v := 1) hx hb dX11_isAccount_10 (by decide) ?_
  refine lv_isub hx hb dX11_isAccount_11 ?_
  obtain ⟨r1, hr2, hf⟩ := wkb1_s hf
  have hPc := hP.sub (ws' := ([] : va_W)) [] rfl
  refine wk_si (As := [.int x1, .int 0, .int ((5 + (M_g 0)) - 1)]) (rest := []) ⟨hx, hb, hml, hown, hts⟩ (c_X11_in l dC dI Y x1 0 ((5 + (M_g 0)) - 1) r1 hr2) (va_cwS 3 hts gX11_isAccount_X11_in rfl rfl rfl (by decide +kernel) ⟨Nat.le_of_ble_eq_true rfl, Nat.le_of_ble_eq_true rfl⟩) hK hPc rfl hl.1 rfl (Nat.le_of_ble_eq_true rfl) dX11_isAccount_12 ⟨Nat.le_of_ble_eq_true rfl, Nat.le_of_ble_eq_true rfl⟩ ?_
  obtain ⟨h01, hf⟩ := gbo_s hf
  have e0 := wke1 hf
  subst e0
  exact W.zret (v := r1) (ty := .boolean) hx hb hr (gbo_n h01) (fun t ht hW => ⟨r1, rfl, rfl, ht⟩) (fun q h => absurd h List.not_mem_nil) dX11_isAccount_15
theorem lk_X11_entry_RX11_7 : Cond.fieldLink RX11 7 "CircusLedgerModel" "g" "[I" ∈ wsX11_entry := by decide +kernel
theorem in_X11_entry_X11 : ∀ w ∈ u_ws RX11 TX11 22, w ∈ wsX11_entry := by decide +kernel
def f_X11_entry (M_g : Nat → Int32) (x1 : Int32) (x2 : Int32) : Option (Int32) :=
  gin ((58 + (3 * x1)) + x2) 238 (some ((M_g ((58 + (3 * x1)) + x2).toNatClampNeg)))
set_option maxHeartbeats 4000000 in
set_option maxRecDepth 100000 in
theorem c_X11_entry (l : Launch) (dC : Nat → ClassId) (dI : Nat → Nat → Nat) (Y : Nat → ClassId) (a : Nat → Nat) (M_g : Nat → Int32) (M_kept : Nat → Int32) (M_saved : Nat → Int32) (M_before : Nat → Int32) (M_isSaved : Int32) (M_changes : Int32) (M_isWithin : Int32) (M_code : Int32) (M_input : Nat → Int32) (M_length : Int32) (M_fault : Int32) (M_failed : Int32) (M_signs : Nat → Int32) (M_signMany : Int32) (M_column : Nat → Int32) (M_loads : Nat → Int32) (M_many : Int32) (M_sums : Nat → Int32) (M_groups : Nat → Int32) (M_at : Int32) (M_told : Nat → Int32) (M_toldMany : Int32) (x1 : Int32) (x2 : Int32) (r : Int32) (hf : f_X11_entry M_g x1 x2 = some (r)) : Met l yX11_entry wsX11_entry ({ frames := 0, cells := 0, slots := 0, locals := 0 } : Room) (va_Pc [.ref (a 0), .int x1, .int x2] (wk_B (dC, dI) Y (wX11 Y a M_g M_kept M_saved M_before M_isSaved M_changes M_isWithin M_code M_input M_length M_fault M_failed M_signs M_signMany M_column M_loads M_many M_sums M_groups M_at M_told M_toldMany))) (vp_Si (fun r2 => r2 = r)) 0 0 (fun _ => False) := by
  refine Met.ofW (cc := cX11_entry) (maxL := 3) (ret := (some .int)) (by decide) rfl ?_
  intro p e s m args below meth c s₁ B hml hv
  obtain ⟨rfl, hP, hK⟩ := hv
  have hx := B.exec
  have hb := B.bytes
  have hr := B.returns
  have hts := atoms_spec (ws := wsX11_entry) B.pre
  have hown : s.vm.findClass RX11 = some m.cls := findClass_of_methodNamed B.named
  have hlocks := B.notSynchronized
  have C0 : wk_C p s m _ meth c cX11_entry 3 (some .int) wsX11_entry RX11 := ⟨hx, hb, hml, hr, hlocks, hown, hts⟩
  have hP : va_P (dC, dI) vwCl [(a 0, .inr (11, [.ref (a 1), .ref (a 2), .ref (a 3), .ref (a 4), .int M_isSaved, .int M_changes, .int M_isWithin, .int M_code, .ref (a 5), .int M_length, .int M_fault, .int M_failed, .ref (a 6), .int M_signMany, .ref (a 7), .ref (a 8), .int M_many, .ref (a 9), .ref (a 10), .int M_at, .ref (a 11), .int M_toldMany])), (a 1, .inl (Y 0, 238, .inl M_g)), (a 2, .inl (Y 0, 1904, .inl M_kept)), (a 3, .inl (Y 0, 238, .inl M_saved)), (a 4, .inl (Y 0, 238, .inl M_before)), (a 5, .inl (Y 0, 60, .inl M_input)), (a 6, .inl (Y 2, 100, .inl M_signs)), (a 7, .inl (Y 0, 6, .inl M_column)), (a 8, .inl (Y 0, 6, .inl M_loads)), (a 9, .inl (Y 0, 2048, .inl M_sums)), (a 10, .inl (Y 0, 2048, .inl M_groups)), (a 11, .inl (Y 0, 155, .inl M_told))] s.heap := hP
  have hl := lv_entry ([.ref (a 0), .int x1, .int x2]) (n := 3) (Nat.le_of_ble_eq_true rfl)
  rw [lg_entry_eq]
  generalize (lg_sl ([.ref (a 0), .int x1, .int x2]) ++ List.replicate (3 - (lg_sl ([.ref (a 0), .int x1, .int x2])).length) Slot.unset).toArray = ls at hl ⊢
  have hl : lv_has ls 3 [(0, .ref (a 0)), (1, .int x1), (2, .int x2)] := hl
  rw [f_X11_entry] at hf
  refine lv_aload_n hx hb dX11_entry_0 rfl (lv_at hl 0 rfl) ?_
  refine va_get (D := (dC, dI)) (ci := 11) (v := .ref (a 1)) (C := RX11) (T := TX11) (N := 22) hx hb hts in_X11_entry_X11 hown hK hP 0 rfl rfl 0 (by decide) (hts _ lk_X11_entry_RX11_7) (fun _ h9 => h9) rfl dX11_entry_1 ?_
  refine lv_bipush (v := 58) hx hb dX11_entry_4 (by decide) ?_
  refine lv_iconst (v := 3) hx hb dX11_entry_6 (by decide) ?_
  refine lv_iload_n hx hb dX11_entry_7 rfl (lv_at hl 1 rfl) ?_
  refine lv_imul hx hb dX11_entry_8 ?_
  refine lv_iadd hx hb dX11_entry_9 ?_
  refine lv_iload_n hx hb dX11_entry_10 rfl (lv_at hl 2 rfl) ?_
  refine lv_iadd hx hb dX11_entry_11 ?_
  obtain ⟨h1, hf⟩ := gin_s hf
  refine wk_iald hx hb hK hP 1 0 rfl rfl h1 rfl dX11_entry_12 ?_
  have e0 := wke1 hf
  subst e0
  exact W.iret (v := (M_g ((58 + (3 * x1)) + x2).toNatClampNeg)) hx hb hr (fun t ht hW => ⟨(M_g ((58 + (3 * x1)) + x2).toNatClampNeg), rfl, rfl, ht⟩) (fun q h => absurd h List.not_mem_nil) dX11_entry_13
theorem lk_X11_addAcrobat_RX11_7 : Cond.fieldLink RX11 7 "CircusLedgerModel" "g" "[I" ∈ wsX11_addAcrobat := by decide +kernel
theorem in_X11_addAcrobat_X11 : ∀ w ∈ u_ws RX11 TX11 22, w ∈ wsX11_addAcrobat := by decide +kernel
def f_X11_addAcrobat_L66 (M_isWithin : Int32) (x1 : Int32) (x2 : Int32) (x3 : Int32) (x4 : Int32) (y0 : Int32) (M_g : (Nat → Int32)) (M_kept : (Nat → Int32)) (M_changes : Int32) (M_code : Int32) : Option (Int32 × (Nat → Int32) × (Nat → Int32) × Int32 × Int32) :=
    wkb2 (f_X11_fails M_code y0) (fun r1 w2 =>
    if r1 = 0 then
      (wkb3 (f_X11_keeps_g M_g M_kept M_changes M_isWithin w2) (fun w5 w6 w7 =>
      gin ((6 + (5 * (M_g 0))) + 0) 238 (wkl (upd M_g (((6 + (5 * (M_g 0))) + 0).toNatClampNeg) x1) (fun g9 =>
      gin ((6 + (5 * (M_g 0))) + 1) 238 (wkl (upd g9 (((6 + (5 * (M_g 0))) + 1).toNatClampNeg) x2) (fun g11 =>
      gin ((6 + (5 * (M_g 0))) + 2) 238 (wkl (upd g11 (((6 + (5 * (M_g 0))) + 2).toNatClampNeg) x3) (fun g13 =>
      gin ((6 + (5 * (M_g 0))) + 3) 238 (wkl (upd g13 (((6 + (5 * (M_g 0))) + 3).toNatClampNeg) x4) (fun g15 =>
      gin ((6 + (5 * (M_g 0))) + 4) 238 (wkl (upd g15 (((6 + (5 * (M_g 0))) + 4).toNatClampNeg) 0) (fun g17 =>
      wkl (upd g17 0 ((g17 0) + 1)) (fun g19 =>
      some (((g19 0) - 1), g19, w5, w6, w7))))))))))))))
    else
      (some (0, M_g, M_kept, M_changes, w2)))
def f_X11_addAcrobat_L46 (M_isWithin : Int32) (x1 : Int32) (x2 : Int32) (x3 : Int32) (x4 : Int32) (M_g : (Nat → Int32)) (M_kept : (Nat → Int32)) (M_changes : Int32) (M_code : Int32) : Option (Int32 × (Nat → Int32) × (Nat → Int32) × Int32 × Int32) :=
    f_X11_addAcrobat_L66 M_isWithin x1 x2 x3 x4 1 M_g M_kept M_changes M_code
def f_X11_addAcrobat (M_g : Nat → Int32) (M_kept : Nat → Int32) (M_changes : Int32) (M_isWithin : Int32) (M_code : Int32) (x1 : Int32) (x2 : Int32) (x3 : Int32) (x4 : Int32) : Option (Int32 × (Nat → Int32) × (Nat → Int32) × Int32 × Int32) :=
  wkb1 (f_X11_in x1 30 120) (fun r1 =>
  if r1 = 0 then
    (f_X11_addAcrobat_L46 M_isWithin x1 x2 x3 x4 M_g M_kept M_changes M_code)
  else
    (wkb1 (f_X11_in x2 0 400) (fun r4 =>
    if r4 = 0 then
      (f_X11_addAcrobat_L46 M_isWithin x1 x2 x3 x4 M_g M_kept M_changes M_code)
    else
      (wkb1 (f_X11_in x3 100 200) (fun r7 =>
      if r7 = 0 then
        (f_X11_addAcrobat_L46 M_isWithin x1 x2 x3 x4 M_g M_kept M_changes M_code)
      else
        (wkb1 (f_X11_in x4 1 50) (fun r10 =>
        if r10 = 0 then
          (f_X11_addAcrobat_L46 M_isWithin x1 x2 x3 x4 M_g M_kept M_changes M_code)
        else
          (if (M_g 0) = 6 then
            (f_X11_addAcrobat_L66 M_isWithin x1 x2 x3 x4 2 M_g M_kept M_changes M_code)
          else
            (f_X11_addAcrobat_L66 M_isWithin x1 x2 x3 x4 0 M_g M_kept M_changes M_code)))))))))
set_option maxHeartbeats 4000000 in
set_option maxRecDepth 100000 in
theorem wl_X11_addAcrobat_L66 {p : Program} {l : Launch} {e : Env} {s : State} {m : MethodId} {args : Array Value} {below : List Frame} {meth : Method} {c : Code} {dC : Nat → ClassId} {dI : Nat → Nat → Nat} {Y : Nat → ClassId} {a : Nat → Nat} {M_saved : Nat → Int32} {M_before : Nat → Int32} {M_isSaved : Int32} {M_isWithin : Int32} {M_input : Nat → Int32} {M_length : Int32} {M_fault : Int32} {M_failed : Int32} {M_signs : Nat → Int32} {M_signMany : Int32} {M_column : Nat → Int32} {M_loads : Nat → Int32} {M_many : Int32} {M_sums : Nat → Int32} {M_groups : Nat → Int32} {M_at : Int32} {M_told : Nat → Int32} {M_toldMany : Int32} {x1 : Int32} {x2 : Int32} {x3 : Int32} {x4 : Int32} {r : Int32} {zM_g : Nat → Int32} {zM_kept : Nat → Int32} {zM_changes : Int32} {zM_code : Int32}  (C0 : wk_C p s m args meth c cX11_addAcrobat 6 (some .int) wsX11_addAcrobat RX11) {A : Nat → Prop} (hK : va_K (dC, dI) vwCl (vTy Y) s) (hA : ∀ q, s.heap.size ≤ q → A q) : ∀  (y0 : Int32) (M_g : Nat → Int32) (M_kept : Nat → Int32) (M_changes : Int32) (M_code : Int32), f_X11_addAcrobat_L66 M_isWithin x1 x2 x3 x4 y0 M_g M_kept M_changes M_code = some (r, zM_g, zM_kept, zM_changes, zM_code) → ∀ (H : Heap) (locs : List Loc), va_P (dC, dI) vwCl (wX11 Y a M_g M_kept M_saved M_before M_isSaved M_changes M_isWithin M_code M_input M_length M_fault M_failed M_signs M_signMany M_column M_loads M_many M_sums M_groups M_at M_told M_toldMany) H → va_D A (wX11 Y a M_g M_kept M_saved M_before M_isSaved M_changes M_isWithin M_code M_input M_length M_fault M_failed M_signs M_signMany M_column M_loads M_many M_sums M_groups M_at M_told M_toldMany) → va_S A s.heap H locs → ∀ (ls : Array Slot), lv_has ls 6 [(0, .ref (a 0)), (1, .int x1), (2, .int x2), (3, .int x3), (4, .int x4)] → W p l e (headSpec wsX11_addAcrobat ({ frames := 2, cells := 0, slots := 0, locals := 46 } : Room)).room s m args below meth c H locs 0 0 (MQ below (va_Qi (fun r2 (_ : Unit) => r2 = r) (fun _ t => wk_X (dC, dI) Y (wX11 Y a zM_g zM_kept M_saved M_before M_isSaved zM_changes M_isWithin zM_code M_input M_length M_fault M_failed M_signs M_signMany M_column M_loads M_many M_sums M_groups M_at M_told M_toldMany) A t) A) args s 0 0 A) (F0 m 66 ls [.int y0, .ref (a 0)]) := by
  obtain ⟨hx, hb, hml, hr, hlocks, hown, hts⟩ := id C0
  intro y0 M_g M_kept M_changes M_code hf H locs hP hD hS ls hl
  rw [f_X11_addAcrobat_L66] at hf
  have hP : va_P (dC, dI) vwCl [(a 0, .inr (11, [.ref (a 1), .ref (a 2), .ref (a 3), .ref (a 4), .int M_isSaved, .int M_changes, .int M_isWithin, .int M_code, .ref (a 5), .int M_length, .int M_fault, .int M_failed, .ref (a 6), .int M_signMany, .ref (a 7), .ref (a 8), .int M_many, .ref (a 9), .ref (a 10), .int M_at, .ref (a 11), .int M_toldMany])), (a 1, .inl (Y 0, 238, .inl M_g)), (a 2, .inl (Y 0, 1904, .inl M_kept)), (a 3, .inl (Y 0, 238, .inl M_saved)), (a 4, .inl (Y 0, 238, .inl M_before)), (a 5, .inl (Y 0, 60, .inl M_input)), (a 6, .inl (Y 2, 100, .inl M_signs)), (a 7, .inl (Y 0, 6, .inl M_column)), (a 8, .inl (Y 0, 6, .inl M_loads)), (a 9, .inl (Y 0, 2048, .inl M_sums)), (a 10, .inl (Y 0, 2048, .inl M_groups)), (a 11, .inl (Y 0, 155, .inl M_told))] H := hP
  have hD : va_D A [(a 0, .inr (11, [.ref (a 1), .ref (a 2), .ref (a 3), .ref (a 4), .int M_isSaved, .int M_changes, .int M_isWithin, .int M_code, .ref (a 5), .int M_length, .int M_fault, .int M_failed, .ref (a 6), .int M_signMany, .ref (a 7), .ref (a 8), .int M_many, .ref (a 9), .ref (a 10), .int M_at, .ref (a 11), .int M_toldMany])), (a 1, .inl (Y 0, 238, .inl M_g)), (a 2, .inl (Y 0, 1904, .inl M_kept)), (a 3, .inl (Y 0, 238, .inl M_saved)), (a 4, .inl (Y 0, 238, .inl M_before)), (a 5, .inl (Y 0, 60, .inl M_input)), (a 6, .inl (Y 2, 100, .inl M_signs)), (a 7, .inl (Y 0, 6, .inl M_column)), (a 8, .inl (Y 0, 6, .inl M_loads)), (a 9, .inl (Y 0, 2048, .inl M_sums)), (a 10, .inl (Y 0, 2048, .inl M_groups)), (a 11, .inl (Y 0, 155, .inl M_told))] := hD
  obtain ⟨r1, w2, hr3, hf⟩ := wkb2_s hf
  refine wk_evi (As := [.int y0]) (rest := []) (wc := (wX11 Y a M_g M_kept M_saved M_before M_isSaved M_changes M_isWithin M_code M_input M_length M_fault M_failed M_signs M_signMany M_column M_loads M_many M_sums M_groups M_at M_told M_toldMany)) (w1 := (wX11 Y a M_g M_kept M_saved M_before M_isSaved M_changes M_isWithin w2 M_input M_length M_fault M_failed M_signs M_signMany M_column M_loads M_many M_sums M_groups M_at M_told M_toldMany)) (wr := []) ⟨hx, hb, hml, hown, hts⟩ (c_X11_fails l dC dI Y a M_g M_kept M_saved M_before M_isSaved M_changes M_isWithin M_code M_input M_length M_fault M_failed M_signs M_signMany M_column M_loads M_many M_sums M_groups M_at M_told M_toldMany y0 H.size r1 w2 hr3) (cwV 1 hts gX11_addAcrobat_X11_fails rfl rfl rfl (by decide +kernel) ⟨Nat.le_of_ble_eq_true rfl, Nat.le_of_ble_eq_true rfl⟩) hK hP hD hS hA [0, 1, 2, 3, 4, 5, 6, 7, 8, 9, 10, 11] [] rfl rfl (by decide) (by decide) (by decide) (va_recv hK hP (ci := 11) (q0 := 0) rfl rfl) rfl hl.1 rfl (Nat.le_of_ble_eq_true rfl) dX11_addAcrobat_66 ⟨Nat.le_of_ble_eq_true rfl, Nat.le_of_ble_eq_true rfl⟩ (fun H locs hP hD hS => ?_)
  have hP : va_P (dC, dI) vwCl [(a 0, .inr (11, [.ref (a 1), .ref (a 2), .ref (a 3), .ref (a 4), .int M_isSaved, .int M_changes, .int M_isWithin, .int w2, .ref (a 5), .int M_length, .int M_fault, .int M_failed, .ref (a 6), .int M_signMany, .ref (a 7), .ref (a 8), .int M_many, .ref (a 9), .ref (a 10), .int M_at, .ref (a 11), .int M_toldMany])), (a 1, .inl (Y 0, 238, .inl M_g)), (a 2, .inl (Y 0, 1904, .inl M_kept)), (a 3, .inl (Y 0, 238, .inl M_saved)), (a 4, .inl (Y 0, 238, .inl M_before)), (a 5, .inl (Y 0, 60, .inl M_input)), (a 6, .inl (Y 2, 100, .inl M_signs)), (a 7, .inl (Y 0, 6, .inl M_column)), (a 8, .inl (Y 0, 6, .inl M_loads)), (a 9, .inl (Y 0, 2048, .inl M_sums)), (a 10, .inl (Y 0, 2048, .inl M_groups)), (a 11, .inl (Y 0, 155, .inl M_told))] H := hP
  have hD : va_D A [(a 0, .inr (11, [.ref (a 1), .ref (a 2), .ref (a 3), .ref (a 4), .int M_isSaved, .int M_changes, .int M_isWithin, .int w2, .ref (a 5), .int M_length, .int M_fault, .int M_failed, .ref (a 6), .int M_signMany, .ref (a 7), .ref (a 8), .int M_many, .ref (a 9), .ref (a 10), .int M_at, .ref (a 11), .int M_toldMany])), (a 1, .inl (Y 0, 238, .inl M_g)), (a 2, .inl (Y 0, 1904, .inl M_kept)), (a 3, .inl (Y 0, 238, .inl M_saved)), (a 4, .inl (Y 0, 238, .inl M_before)), (a 5, .inl (Y 0, 60, .inl M_input)), (a 6, .inl (Y 2, 100, .inl M_signs)), (a 7, .inl (Y 0, 6, .inl M_column)), (a 8, .inl (Y 0, 6, .inl M_loads)), (a 9, .inl (Y 0, 2048, .inl M_sums)), (a 10, .inl (Y 0, 2048, .inl M_groups)), (a 11, .inl (Y 0, 155, .inl M_told))] := hD
  refine lv_if_eq (tgt := 74) hx hb dX11_addAcrobat_69 (by decide) (fun q4 => ?_) (fun q4 => ?_)
  · have hf := wk_t hf q4
    refine lv_aload_n hx hb dX11_addAcrobat_74 rfl (lv_at hl 0 rfl) ?_
    refine lv_aload_n hx hb dX11_addAcrobat_75 rfl (lv_at hl 0 rfl) ?_
    refine va_get (D := (dC, dI)) (ci := 11) (v := .ref (a 1)) (C := RX11) (T := TX11) (N := 22) hx hb hts in_X11_addAcrobat_X11 hown hK hP 0 rfl rfl 0 (by decide) (hts _ lk_X11_addAcrobat_RX11_7) (fun _ h9 => h9) rfl dX11_addAcrobat_76 ?_
    obtain ⟨w5, w6, w7, hr8, hf⟩ := wkb3_s hf
    refine wk_evv (As := [.ref (a 1)]) (rest := []) (wc := (wX11 Y a M_g M_kept M_saved M_before M_isSaved M_changes M_isWithin w2 M_input M_length M_fault M_failed M_signs M_signMany M_column M_loads M_many M_sums M_groups M_at M_told M_toldMany)) (w1 := (wX11 Y a M_g w5 M_saved M_before M_isSaved w6 M_isWithin w7 M_input M_length M_fault M_failed M_signs M_signMany M_column M_loads M_many M_sums M_groups M_at M_told M_toldMany)) (wr := []) ⟨hx, hb, hml, hown, hts⟩ (c_X11_keeps_g l dC dI Y a M_g M_kept M_saved M_before M_isSaved M_changes M_isWithin w2 M_input M_length M_fault M_failed M_signs M_signMany M_column M_loads M_many M_sums M_groups M_at M_told M_toldMany H.size w5 w6 w7 hr8) (cwV 1 hts gX11_addAcrobat_X11_keeps rfl rfl rfl (by decide +kernel) ⟨Nat.le_of_ble_eq_true rfl, Nat.le_of_ble_eq_true rfl⟩) hK hP hD hS hA [0, 1, 2, 3, 4, 5, 6, 7, 8, 9, 10, 11] [] rfl rfl (by decide) (by decide) (by decide) (va_recv hK hP (ci := 11) (q0 := 0) rfl rfl) rfl hl.1 rfl (Nat.le_of_ble_eq_true rfl) dX11_addAcrobat_79 ⟨Nat.le_of_ble_eq_true rfl, Nat.le_of_ble_eq_true rfl⟩ (fun H locs hP hD hS => ?_)
    have hP : va_P (dC, dI) vwCl [(a 0, .inr (11, [.ref (a 1), .ref (a 2), .ref (a 3), .ref (a 4), .int M_isSaved, .int w6, .int M_isWithin, .int w7, .ref (a 5), .int M_length, .int M_fault, .int M_failed, .ref (a 6), .int M_signMany, .ref (a 7), .ref (a 8), .int M_many, .ref (a 9), .ref (a 10), .int M_at, .ref (a 11), .int M_toldMany])), (a 1, .inl (Y 0, 238, .inl M_g)), (a 2, .inl (Y 0, 1904, .inl w5)), (a 3, .inl (Y 0, 238, .inl M_saved)), (a 4, .inl (Y 0, 238, .inl M_before)), (a 5, .inl (Y 0, 60, .inl M_input)), (a 6, .inl (Y 2, 100, .inl M_signs)), (a 7, .inl (Y 0, 6, .inl M_column)), (a 8, .inl (Y 0, 6, .inl M_loads)), (a 9, .inl (Y 0, 2048, .inl M_sums)), (a 10, .inl (Y 0, 2048, .inl M_groups)), (a 11, .inl (Y 0, 155, .inl M_told))] H := hP
    have hD : va_D A [(a 0, .inr (11, [.ref (a 1), .ref (a 2), .ref (a 3), .ref (a 4), .int M_isSaved, .int w6, .int M_isWithin, .int w7, .ref (a 5), .int M_length, .int M_fault, .int M_failed, .ref (a 6), .int M_signMany, .ref (a 7), .ref (a 8), .int M_many, .ref (a 9), .ref (a 10), .int M_at, .ref (a 11), .int M_toldMany])), (a 1, .inl (Y 0, 238, .inl M_g)), (a 2, .inl (Y 0, 1904, .inl w5)), (a 3, .inl (Y 0, 238, .inl M_saved)), (a 4, .inl (Y 0, 238, .inl M_before)), (a 5, .inl (Y 0, 60, .inl M_input)), (a 6, .inl (Y 2, 100, .inl M_signs)), (a 7, .inl (Y 0, 6, .inl M_column)), (a 8, .inl (Y 0, 6, .inl M_loads)), (a 9, .inl (Y 0, 2048, .inl M_sums)), (a 10, .inl (Y 0, 2048, .inl M_groups)), (a 11, .inl (Y 0, 155, .inl M_told))] := hD
    refine lv_bipush (v := 6) hx hb dX11_addAcrobat_82 (by decide) ?_
    refine lv_iconst (v := 5) hx hb dX11_addAcrobat_84 (by decide) ?_
    refine lv_aload_n hx hb dX11_addAcrobat_85 rfl (lv_at hl 0 rfl) ?_
    refine va_get (D := (dC, dI)) (ci := 11) (v := .ref (a 1)) (C := RX11) (T := TX11) (N := 22) hx hb hts in_X11_addAcrobat_X11 hown hK hP 0 rfl rfl 0 (by decide) (hts _ lk_X11_addAcrobat_RX11_7) (fun _ h9 => h9) rfl dX11_addAcrobat_86 ?_
    refine lv_iconst (v := 0) hx hb dX11_addAcrobat_89 (by decide) ?_
    refine wk_iald hx hb hK hP 1 0 (k := 0) rfl rfl (vp_lit (by decide)) (by decide) dX11_addAcrobat_90 ?_
    refine lv_imul hx hb dX11_addAcrobat_91 ?_
    refine lv_iadd hx hb dX11_addAcrobat_92 ?_
    refine lv_istore (lv' := [(5, .int (6 + (5 * (M_g 0)))), (0, .ref (a 0)), (1, .int x1), (2, .int x2), (3, .int x3), (4, .int x4)]) hx hb dX11_addAcrobat_93 hl (by decide) rfl (fun ls hl => ?_)
    refine lv_aload_n hx hb dX11_addAcrobat_95 rfl (lv_at hl 1 rfl) ?_
    refine va_get (D := (dC, dI)) (ci := 11) (v := .ref (a 1)) (C := RX11) (T := TX11) (N := 22) hx hb hts in_X11_addAcrobat_X11 hown hK hP 0 rfl rfl 0 (by decide) (hts _ lk_X11_addAcrobat_RX11_7) (fun _ h9 => h9) rfl dX11_addAcrobat_96 ?_
    refine lv_iload hx hb dX11_addAcrobat_99 (lv_at hl 0 rfl) ?_
    refine lv_iconst (v := 0) hx hb dX11_addAcrobat_101 (by decide) ?_
    refine lv_iadd hx hb dX11_addAcrobat_102 ?_
    refine lv_iload_n hx hb dX11_addAcrobat_103 rfl (lv_at hl 2 rfl) ?_
    obtain ⟨h10, hf⟩ := gin_s hf
    refine wk_iast hx hb hK hP hD hS 1 0 (k := ((6 + (5 * (M_g 0))) + 0).toNatClampNeg) rfl rfl h10 rfl dX11_addAcrobat_104 (fun g9 H locs eg9 hP hD hS => ?_)
    have hP : va_P (dC, dI) vwCl [(a 0, .inr (11, [.ref (a 1), .ref (a 2), .ref (a 3), .ref (a 4), .int M_isSaved, .int w6, .int M_isWithin, .int w7, .ref (a 5), .int M_length, .int M_fault, .int M_failed, .ref (a 6), .int M_signMany, .ref (a 7), .ref (a 8), .int M_many, .ref (a 9), .ref (a 10), .int M_at, .ref (a 11), .int M_toldMany])), (a 1, .inl (Y 0, 238, .inl g9)), (a 2, .inl (Y 0, 1904, .inl w5)), (a 3, .inl (Y 0, 238, .inl M_saved)), (a 4, .inl (Y 0, 238, .inl M_before)), (a 5, .inl (Y 0, 60, .inl M_input)), (a 6, .inl (Y 2, 100, .inl M_signs)), (a 7, .inl (Y 0, 6, .inl M_column)), (a 8, .inl (Y 0, 6, .inl M_loads)), (a 9, .inl (Y 0, 2048, .inl M_sums)), (a 10, .inl (Y 0, 2048, .inl M_groups)), (a 11, .inl (Y 0, 155, .inl M_told))] H := hP
    have hD : va_D A [(a 0, .inr (11, [.ref (a 1), .ref (a 2), .ref (a 3), .ref (a 4), .int M_isSaved, .int w6, .int M_isWithin, .int w7, .ref (a 5), .int M_length, .int M_fault, .int M_failed, .ref (a 6), .int M_signMany, .ref (a 7), .ref (a 8), .int M_many, .ref (a 9), .ref (a 10), .int M_at, .ref (a 11), .int M_toldMany])), (a 1, .inl (Y 0, 238, .inl g9)), (a 2, .inl (Y 0, 1904, .inl w5)), (a 3, .inl (Y 0, 238, .inl M_saved)), (a 4, .inl (Y 0, 238, .inl M_before)), (a 5, .inl (Y 0, 60, .inl M_input)), (a 6, .inl (Y 2, 100, .inl M_signs)), (a 7, .inl (Y 0, 6, .inl M_column)), (a 8, .inl (Y 0, 6, .inl M_loads)), (a 9, .inl (Y 0, 2048, .inl M_sums)), (a 10, .inl (Y 0, 2048, .inl M_groups)), (a 11, .inl (Y 0, 155, .inl M_told))] := hD
    have hf := wkl_s hf eg9
    refine lv_aload_n hx hb dX11_addAcrobat_105 rfl (lv_at hl 1 rfl) ?_
    refine va_get (D := (dC, dI)) (ci := 11) (v := .ref (a 1)) (C := RX11) (T := TX11) (N := 22) hx hb hts in_X11_addAcrobat_X11 hown hK hP 0 rfl rfl 0 (by decide) (hts _ lk_X11_addAcrobat_RX11_7) (fun _ h9 => h9) rfl dX11_addAcrobat_106 ?_
    refine lv_iload hx hb dX11_addAcrobat_109 (lv_at hl 0 rfl) ?_
    refine lv_iconst (v := 1) hx hb dX11_addAcrobat_111 (by decide) ?_
    refine lv_iadd hx hb dX11_addAcrobat_112 ?_
    refine lv_iload_n hx hb dX11_addAcrobat_113 rfl (lv_at hl 3 rfl) ?_
    obtain ⟨h12, hf⟩ := gin_s hf
    refine wk_iast hx hb hK hP hD hS 1 0 (k := ((6 + (5 * (M_g 0))) + 1).toNatClampNeg) rfl rfl h12 rfl dX11_addAcrobat_114 (fun g11 H locs eg11 hP hD hS => ?_)
    have hP : va_P (dC, dI) vwCl [(a 0, .inr (11, [.ref (a 1), .ref (a 2), .ref (a 3), .ref (a 4), .int M_isSaved, .int w6, .int M_isWithin, .int w7, .ref (a 5), .int M_length, .int M_fault, .int M_failed, .ref (a 6), .int M_signMany, .ref (a 7), .ref (a 8), .int M_many, .ref (a 9), .ref (a 10), .int M_at, .ref (a 11), .int M_toldMany])), (a 1, .inl (Y 0, 238, .inl g11)), (a 2, .inl (Y 0, 1904, .inl w5)), (a 3, .inl (Y 0, 238, .inl M_saved)), (a 4, .inl (Y 0, 238, .inl M_before)), (a 5, .inl (Y 0, 60, .inl M_input)), (a 6, .inl (Y 2, 100, .inl M_signs)), (a 7, .inl (Y 0, 6, .inl M_column)), (a 8, .inl (Y 0, 6, .inl M_loads)), (a 9, .inl (Y 0, 2048, .inl M_sums)), (a 10, .inl (Y 0, 2048, .inl M_groups)), (a 11, .inl (Y 0, 155, .inl M_told))] H := hP
    have hD : va_D A [(a 0, .inr (11, [.ref (a 1), .ref (a 2), .ref (a 3), .ref (a 4), .int M_isSaved, .int w6, .int M_isWithin, .int w7, .ref (a 5), .int M_length, .int M_fault, .int M_failed, .ref (a 6), .int M_signMany, .ref (a 7), .ref (a 8), .int M_many, .ref (a 9), .ref (a 10), .int M_at, .ref (a 11), .int M_toldMany])), (a 1, .inl (Y 0, 238, .inl g11)), (a 2, .inl (Y 0, 1904, .inl w5)), (a 3, .inl (Y 0, 238, .inl M_saved)), (a 4, .inl (Y 0, 238, .inl M_before)), (a 5, .inl (Y 0, 60, .inl M_input)), (a 6, .inl (Y 2, 100, .inl M_signs)), (a 7, .inl (Y 0, 6, .inl M_column)), (a 8, .inl (Y 0, 6, .inl M_loads)), (a 9, .inl (Y 0, 2048, .inl M_sums)), (a 10, .inl (Y 0, 2048, .inl M_groups)), (a 11, .inl (Y 0, 155, .inl M_told))] := hD
    have hf := wkl_s hf eg11
    refine lv_aload_n hx hb dX11_addAcrobat_115 rfl (lv_at hl 1 rfl) ?_
    refine va_get (D := (dC, dI)) (ci := 11) (v := .ref (a 1)) (C := RX11) (T := TX11) (N := 22) hx hb hts in_X11_addAcrobat_X11 hown hK hP 0 rfl rfl 0 (by decide) (hts _ lk_X11_addAcrobat_RX11_7) (fun _ h9 => h9) rfl dX11_addAcrobat_116 ?_
    refine lv_iload hx hb dX11_addAcrobat_119 (lv_at hl 0 rfl) ?_
    refine lv_iconst (v := 2) hx hb dX11_addAcrobat_121 (by decide) ?_
    refine lv_iadd hx hb dX11_addAcrobat_122 ?_
    refine lv_iload_n hx hb dX11_addAcrobat_123 rfl (lv_at hl 4 rfl) ?_
    obtain ⟨h14, hf⟩ := gin_s hf
    refine wk_iast hx hb hK hP hD hS 1 0 (k := ((6 + (5 * (M_g 0))) + 2).toNatClampNeg) rfl rfl h14 rfl dX11_addAcrobat_124 (fun g13 H locs eg13 hP hD hS => ?_)
    have hP : va_P (dC, dI) vwCl [(a 0, .inr (11, [.ref (a 1), .ref (a 2), .ref (a 3), .ref (a 4), .int M_isSaved, .int w6, .int M_isWithin, .int w7, .ref (a 5), .int M_length, .int M_fault, .int M_failed, .ref (a 6), .int M_signMany, .ref (a 7), .ref (a 8), .int M_many, .ref (a 9), .ref (a 10), .int M_at, .ref (a 11), .int M_toldMany])), (a 1, .inl (Y 0, 238, .inl g13)), (a 2, .inl (Y 0, 1904, .inl w5)), (a 3, .inl (Y 0, 238, .inl M_saved)), (a 4, .inl (Y 0, 238, .inl M_before)), (a 5, .inl (Y 0, 60, .inl M_input)), (a 6, .inl (Y 2, 100, .inl M_signs)), (a 7, .inl (Y 0, 6, .inl M_column)), (a 8, .inl (Y 0, 6, .inl M_loads)), (a 9, .inl (Y 0, 2048, .inl M_sums)), (a 10, .inl (Y 0, 2048, .inl M_groups)), (a 11, .inl (Y 0, 155, .inl M_told))] H := hP
    have hD : va_D A [(a 0, .inr (11, [.ref (a 1), .ref (a 2), .ref (a 3), .ref (a 4), .int M_isSaved, .int w6, .int M_isWithin, .int w7, .ref (a 5), .int M_length, .int M_fault, .int M_failed, .ref (a 6), .int M_signMany, .ref (a 7), .ref (a 8), .int M_many, .ref (a 9), .ref (a 10), .int M_at, .ref (a 11), .int M_toldMany])), (a 1, .inl (Y 0, 238, .inl g13)), (a 2, .inl (Y 0, 1904, .inl w5)), (a 3, .inl (Y 0, 238, .inl M_saved)), (a 4, .inl (Y 0, 238, .inl M_before)), (a 5, .inl (Y 0, 60, .inl M_input)), (a 6, .inl (Y 2, 100, .inl M_signs)), (a 7, .inl (Y 0, 6, .inl M_column)), (a 8, .inl (Y 0, 6, .inl M_loads)), (a 9, .inl (Y 0, 2048, .inl M_sums)), (a 10, .inl (Y 0, 2048, .inl M_groups)), (a 11, .inl (Y 0, 155, .inl M_told))] := hD
    have hf := wkl_s hf eg13
    refine lv_aload_n hx hb dX11_addAcrobat_125 rfl (lv_at hl 1 rfl) ?_
    refine va_get (D := (dC, dI)) (ci := 11) (v := .ref (a 1)) (C := RX11) (T := TX11) (N := 22) hx hb hts in_X11_addAcrobat_X11 hown hK hP 0 rfl rfl 0 (by decide) (hts _ lk_X11_addAcrobat_RX11_7) (fun _ h9 => h9) rfl dX11_addAcrobat_126 ?_
    refine lv_iload hx hb dX11_addAcrobat_129 (lv_at hl 0 rfl) ?_
    refine lv_iconst (v := 3) hx hb dX11_addAcrobat_131 (by decide) ?_
    refine lv_iadd hx hb dX11_addAcrobat_132 ?_
    refine lv_iload hx hb dX11_addAcrobat_133 (lv_at hl 5 rfl) ?_
    obtain ⟨h16, hf⟩ := gin_s hf
    refine wk_iast hx hb hK hP hD hS 1 0 (k := ((6 + (5 * (M_g 0))) + 3).toNatClampNeg) rfl rfl h16 rfl dX11_addAcrobat_135 (fun g15 H locs eg15 hP hD hS => ?_)
    have hP : va_P (dC, dI) vwCl [(a 0, .inr (11, [.ref (a 1), .ref (a 2), .ref (a 3), .ref (a 4), .int M_isSaved, .int w6, .int M_isWithin, .int w7, .ref (a 5), .int M_length, .int M_fault, .int M_failed, .ref (a 6), .int M_signMany, .ref (a 7), .ref (a 8), .int M_many, .ref (a 9), .ref (a 10), .int M_at, .ref (a 11), .int M_toldMany])), (a 1, .inl (Y 0, 238, .inl g15)), (a 2, .inl (Y 0, 1904, .inl w5)), (a 3, .inl (Y 0, 238, .inl M_saved)), (a 4, .inl (Y 0, 238, .inl M_before)), (a 5, .inl (Y 0, 60, .inl M_input)), (a 6, .inl (Y 2, 100, .inl M_signs)), (a 7, .inl (Y 0, 6, .inl M_column)), (a 8, .inl (Y 0, 6, .inl M_loads)), (a 9, .inl (Y 0, 2048, .inl M_sums)), (a 10, .inl (Y 0, 2048, .inl M_groups)), (a 11, .inl (Y 0, 155, .inl M_told))] H := hP
    have hD : va_D A [(a 0, .inr (11, [.ref (a 1), .ref (a 2), .ref (a 3), .ref (a 4), .int M_isSaved, .int w6, .int M_isWithin, .int w7, .ref (a 5), .int M_length, .int M_fault, .int M_failed, .ref (a 6), .int M_signMany, .ref (a 7), .ref (a 8), .int M_many, .ref (a 9), .ref (a 10), .int M_at, .ref (a 11), .int M_toldMany])), (a 1, .inl (Y 0, 238, .inl g15)), (a 2, .inl (Y 0, 1904, .inl w5)), (a 3, .inl (Y 0, 238, .inl M_saved)), (a 4, .inl (Y 0, 238, .inl M_before)), (a 5, .inl (Y 0, 60, .inl M_input)), (a 6, .inl (Y 2, 100, .inl M_signs)), (a 7, .inl (Y 0, 6, .inl M_column)), (a 8, .inl (Y 0, 6, .inl M_loads)), (a 9, .inl (Y 0, 2048, .inl M_sums)), (a 10, .inl (Y 0, 2048, .inl M_groups)), (a 11, .inl (Y 0, 155, .inl M_told))] := hD
    have hf := wkl_s hf eg15
    refine lv_aload_n hx hb dX11_addAcrobat_136 rfl (lv_at hl 1 rfl) ?_
    refine va_get (D := (dC, dI)) (ci := 11) (v := .ref (a 1)) (C := RX11) (T := TX11) (N := 22) hx hb hts in_X11_addAcrobat_X11 hown hK hP 0 rfl rfl 0 (by decide) (hts _ lk_X11_addAcrobat_RX11_7) (fun _ h9 => h9) rfl dX11_addAcrobat_137 ?_
    refine lv_iload hx hb dX11_addAcrobat_140 (lv_at hl 0 rfl) ?_
    refine lv_iconst (v := 4) hx hb dX11_addAcrobat_142 (by decide) ?_
    refine lv_iadd hx hb dX11_addAcrobat_143 ?_
    refine lv_iconst (v := 0) hx hb dX11_addAcrobat_144 (by decide) ?_
    obtain ⟨h18, hf⟩ := gin_s hf
    refine wk_iast hx hb hK hP hD hS 1 0 (k := ((6 + (5 * (M_g 0))) + 4).toNatClampNeg) rfl rfl h18 rfl dX11_addAcrobat_145 (fun g17 H locs eg17 hP hD hS => ?_)
    have hP : va_P (dC, dI) vwCl [(a 0, .inr (11, [.ref (a 1), .ref (a 2), .ref (a 3), .ref (a 4), .int M_isSaved, .int w6, .int M_isWithin, .int w7, .ref (a 5), .int M_length, .int M_fault, .int M_failed, .ref (a 6), .int M_signMany, .ref (a 7), .ref (a 8), .int M_many, .ref (a 9), .ref (a 10), .int M_at, .ref (a 11), .int M_toldMany])), (a 1, .inl (Y 0, 238, .inl g17)), (a 2, .inl (Y 0, 1904, .inl w5)), (a 3, .inl (Y 0, 238, .inl M_saved)), (a 4, .inl (Y 0, 238, .inl M_before)), (a 5, .inl (Y 0, 60, .inl M_input)), (a 6, .inl (Y 2, 100, .inl M_signs)), (a 7, .inl (Y 0, 6, .inl M_column)), (a 8, .inl (Y 0, 6, .inl M_loads)), (a 9, .inl (Y 0, 2048, .inl M_sums)), (a 10, .inl (Y 0, 2048, .inl M_groups)), (a 11, .inl (Y 0, 155, .inl M_told))] H := hP
    have hD : va_D A [(a 0, .inr (11, [.ref (a 1), .ref (a 2), .ref (a 3), .ref (a 4), .int M_isSaved, .int w6, .int M_isWithin, .int w7, .ref (a 5), .int M_length, .int M_fault, .int M_failed, .ref (a 6), .int M_signMany, .ref (a 7), .ref (a 8), .int M_many, .ref (a 9), .ref (a 10), .int M_at, .ref (a 11), .int M_toldMany])), (a 1, .inl (Y 0, 238, .inl g17)), (a 2, .inl (Y 0, 1904, .inl w5)), (a 3, .inl (Y 0, 238, .inl M_saved)), (a 4, .inl (Y 0, 238, .inl M_before)), (a 5, .inl (Y 0, 60, .inl M_input)), (a 6, .inl (Y 2, 100, .inl M_signs)), (a 7, .inl (Y 0, 6, .inl M_column)), (a 8, .inl (Y 0, 6, .inl M_loads)), (a 9, .inl (Y 0, 2048, .inl M_sums)), (a 10, .inl (Y 0, 2048, .inl M_groups)), (a 11, .inl (Y 0, 155, .inl M_told))] := hD
    have hf := wkl_s hf eg17
    refine lv_aload_n hx hb dX11_addAcrobat_146 rfl (lv_at hl 1 rfl) ?_
    refine va_get (D := (dC, dI)) (ci := 11) (v := .ref (a 1)) (C := RX11) (T := TX11) (N := 22) hx hb hts in_X11_addAcrobat_X11 hown hK hP 0 rfl rfl 0 (by decide) (hts _ lk_X11_addAcrobat_RX11_7) (fun _ h9 => h9) rfl dX11_addAcrobat_147 ?_
    refine lv_iconst (v := 0) hx hb dX11_addAcrobat_150 (by decide) ?_
    refine lv_dup2_11 hx hb dX11_addAcrobat_151 rfl rfl ?_
    refine wk_iald hx hb hK hP 1 0 (k := 0) rfl rfl (vp_lit (by decide)) (by decide) dX11_addAcrobat_152 ?_
    refine lv_iconst (v := 1) hx hb dX11_addAcrobat_153 (by decide) ?_
    refine lv_iadd hx hb dX11_addAcrobat_154 ?_
    refine wk_iast hx hb hK hP hD hS 1 0 (k := 0) rfl rfl (vp_lit (by decide)) (by decide) dX11_addAcrobat_155 (fun g19 H locs eg19 hP hD hS => ?_)
    have hP : va_P (dC, dI) vwCl [(a 0, .inr (11, [.ref (a 1), .ref (a 2), .ref (a 3), .ref (a 4), .int M_isSaved, .int w6, .int M_isWithin, .int w7, .ref (a 5), .int M_length, .int M_fault, .int M_failed, .ref (a 6), .int M_signMany, .ref (a 7), .ref (a 8), .int M_many, .ref (a 9), .ref (a 10), .int M_at, .ref (a 11), .int M_toldMany])), (a 1, .inl (Y 0, 238, .inl g19)), (a 2, .inl (Y 0, 1904, .inl w5)), (a 3, .inl (Y 0, 238, .inl M_saved)), (a 4, .inl (Y 0, 238, .inl M_before)), (a 5, .inl (Y 0, 60, .inl M_input)), (a 6, .inl (Y 2, 100, .inl M_signs)), (a 7, .inl (Y 0, 6, .inl M_column)), (a 8, .inl (Y 0, 6, .inl M_loads)), (a 9, .inl (Y 0, 2048, .inl M_sums)), (a 10, .inl (Y 0, 2048, .inl M_groups)), (a 11, .inl (Y 0, 155, .inl M_told))] H := hP
    have hD : va_D A [(a 0, .inr (11, [.ref (a 1), .ref (a 2), .ref (a 3), .ref (a 4), .int M_isSaved, .int w6, .int M_isWithin, .int w7, .ref (a 5), .int M_length, .int M_fault, .int M_failed, .ref (a 6), .int M_signMany, .ref (a 7), .ref (a 8), .int M_many, .ref (a 9), .ref (a 10), .int M_at, .ref (a 11), .int M_toldMany])), (a 1, .inl (Y 0, 238, .inl g19)), (a 2, .inl (Y 0, 1904, .inl w5)), (a 3, .inl (Y 0, 238, .inl M_saved)), (a 4, .inl (Y 0, 238, .inl M_before)), (a 5, .inl (Y 0, 60, .inl M_input)), (a 6, .inl (Y 2, 100, .inl M_signs)), (a 7, .inl (Y 0, 6, .inl M_column)), (a 8, .inl (Y 0, 6, .inl M_loads)), (a 9, .inl (Y 0, 2048, .inl M_sums)), (a 10, .inl (Y 0, 2048, .inl M_groups)), (a 11, .inl (Y 0, 155, .inl M_told))] := hD
    have hf := wkl_s hf eg19
    refine lv_aload_n hx hb dX11_addAcrobat_156 rfl (lv_at hl 1 rfl) ?_
    refine va_get (D := (dC, dI)) (ci := 11) (v := .ref (a 1)) (C := RX11) (T := TX11) (N := 22) hx hb hts in_X11_addAcrobat_X11 hown hK hP 0 rfl rfl 0 (by decide) (hts _ lk_X11_addAcrobat_RX11_7) (fun _ h9 => h9) rfl dX11_addAcrobat_157 ?_
    refine lv_iconst (v := 0) hx hb dX11_addAcrobat_160 (by decide) ?_
    refine wk_iald hx hb hK hP 1 0 (k := 0) rfl rfl (vp_lit (by decide)) (by decide) dX11_addAcrobat_161 ?_
    refine lv_iconst (v := 1) hx hb dX11_addAcrobat_162 (by decide) ?_
    refine lv_isub hx hb dX11_addAcrobat_163 ?_
    obtain ⟨e0, e1, e2, e3, e4⟩ := wke5 hf
    subst e0
    subst e1
    subst e2
    subst e3
    subst e4
    have hP9 := hP.sub (ws' := (wX11 Y a g19 w5 M_saved M_before M_isSaved w6 M_isWithin w7 M_input M_length M_fault M_failed M_signs M_signMany M_column M_loads M_many M_sums M_groups M_at M_told M_toldMany)) [0, 1, 2, 3, 4, 5, 6, 7, 8, 9, 10, 11] rfl
    have hD9 := hD.sub (ws' := (wX11 Y a g19 w5 M_saved M_before M_isSaved w6 M_isWithin w7 M_input M_length M_fault M_failed M_signs M_signMany M_column M_loads M_many M_sums M_groups M_at M_told M_toldMany)) [0, 1, 2, 3, 4, 5, 6, 7, 8, 9, 10, 11] (by decide) rfl
    exact W.iret (v := ((g19 0) - 1)) hx hb hr (fun t ht hW => ⟨⟨((g19 0) - 1), (), rfl, rfl, by rw [ht]; exact hP9, va_K.moved hW.alike hK, hD9⟩, hS.F ht⟩) hS.2.2 dX11_addAcrobat_164
  · have hf := wk_f hf q4
    refine lv_iconst (v := 0) hx hb dX11_addAcrobat_72 (by decide) ?_
    obtain ⟨e0, e1, e2, e3, e4⟩ := wke5 hf
    subst e0
    subst e1
    subst e2
    subst e3
    subst e4
    have hP9 := hP.sub (ws' := (wX11 Y a M_g M_kept M_saved M_before M_isSaved M_changes M_isWithin w2 M_input M_length M_fault M_failed M_signs M_signMany M_column M_loads M_many M_sums M_groups M_at M_told M_toldMany)) [0, 1, 2, 3, 4, 5, 6, 7, 8, 9, 10, 11] rfl
    have hD9 := hD.sub (ws' := (wX11 Y a M_g M_kept M_saved M_before M_isSaved M_changes M_isWithin w2 M_input M_length M_fault M_failed M_signs M_signMany M_column M_loads M_many M_sums M_groups M_at M_told M_toldMany)) [0, 1, 2, 3, 4, 5, 6, 7, 8, 9, 10, 11] (by decide) rfl
    exact W.iret (v := 0) hx hb hr (fun t ht hW => ⟨⟨0, (), rfl, rfl, by rw [ht]; exact hP9, va_K.moved hW.alike hK, hD9⟩, hS.F ht⟩) hS.2.2 dX11_addAcrobat_73
set_option maxHeartbeats 4000000 in
set_option maxRecDepth 100000 in
theorem wl_X11_addAcrobat_L46 {p : Program} {l : Launch} {e : Env} {s : State} {m : MethodId} {args : Array Value} {below : List Frame} {meth : Method} {c : Code} {dC : Nat → ClassId} {dI : Nat → Nat → Nat} {Y : Nat → ClassId} {a : Nat → Nat} {M_saved : Nat → Int32} {M_before : Nat → Int32} {M_isSaved : Int32} {M_isWithin : Int32} {M_input : Nat → Int32} {M_length : Int32} {M_fault : Int32} {M_failed : Int32} {M_signs : Nat → Int32} {M_signMany : Int32} {M_column : Nat → Int32} {M_loads : Nat → Int32} {M_many : Int32} {M_sums : Nat → Int32} {M_groups : Nat → Int32} {M_at : Int32} {M_told : Nat → Int32} {M_toldMany : Int32} {x1 : Int32} {x2 : Int32} {x3 : Int32} {x4 : Int32} {r : Int32} {zM_g : Nat → Int32} {zM_kept : Nat → Int32} {zM_changes : Int32} {zM_code : Int32}  (C0 : wk_C p s m args meth c cX11_addAcrobat 6 (some .int) wsX11_addAcrobat RX11) {A : Nat → Prop} (hK : va_K (dC, dI) vwCl (vTy Y) s) (hA : ∀ q, s.heap.size ≤ q → A q) : ∀   (M_g : Nat → Int32) (M_kept : Nat → Int32) (M_changes : Int32) (M_code : Int32), f_X11_addAcrobat_L46 M_isWithin x1 x2 x3 x4 M_g M_kept M_changes M_code = some (r, zM_g, zM_kept, zM_changes, zM_code) → ∀ (H : Heap) (locs : List Loc), va_P (dC, dI) vwCl (wX11 Y a M_g M_kept M_saved M_before M_isSaved M_changes M_isWithin M_code M_input M_length M_fault M_failed M_signs M_signMany M_column M_loads M_many M_sums M_groups M_at M_told M_toldMany) H → va_D A (wX11 Y a M_g M_kept M_saved M_before M_isSaved M_changes M_isWithin M_code M_input M_length M_fault M_failed M_signs M_signMany M_column M_loads M_many M_sums M_groups M_at M_told M_toldMany) → va_S A s.heap H locs → ∀ (ls : Array Slot), lv_has ls 6 [(0, .ref (a 0)), (1, .int x1), (2, .int x2), (3, .int x3), (4, .int x4)] → W p l e (headSpec wsX11_addAcrobat ({ frames := 2, cells := 0, slots := 0, locals := 46 } : Room)).room s m args below meth c H locs 0 0 (MQ below (va_Qi (fun r2 (_ : Unit) => r2 = r) (fun _ t => wk_X (dC, dI) Y (wX11 Y a zM_g zM_kept M_saved M_before M_isSaved zM_changes M_isWithin zM_code M_input M_length M_fault M_failed M_signs M_signMany M_column M_loads M_many M_sums M_groups M_at M_told M_toldMany) A t) A) args s 0 0 A) (F0 m 46 ls [.ref (a 0)]) := by
  obtain ⟨hx, hb, hml, hr, hlocks, hown, hts⟩ := id C0
  intro M_g M_kept M_changes M_code hf H locs hP hD hS ls hl
  rw [f_X11_addAcrobat_L46] at hf
  have hP : va_P (dC, dI) vwCl [(a 0, .inr (11, [.ref (a 1), .ref (a 2), .ref (a 3), .ref (a 4), .int M_isSaved, .int M_changes, .int M_isWithin, .int M_code, .ref (a 5), .int M_length, .int M_fault, .int M_failed, .ref (a 6), .int M_signMany, .ref (a 7), .ref (a 8), .int M_many, .ref (a 9), .ref (a 10), .int M_at, .ref (a 11), .int M_toldMany])), (a 1, .inl (Y 0, 238, .inl M_g)), (a 2, .inl (Y 0, 1904, .inl M_kept)), (a 3, .inl (Y 0, 238, .inl M_saved)), (a 4, .inl (Y 0, 238, .inl M_before)), (a 5, .inl (Y 0, 60, .inl M_input)), (a 6, .inl (Y 2, 100, .inl M_signs)), (a 7, .inl (Y 0, 6, .inl M_column)), (a 8, .inl (Y 0, 6, .inl M_loads)), (a 9, .inl (Y 0, 2048, .inl M_sums)), (a 10, .inl (Y 0, 2048, .inl M_groups)), (a 11, .inl (Y 0, 155, .inl M_told))] H := hP
  have hD : va_D A [(a 0, .inr (11, [.ref (a 1), .ref (a 2), .ref (a 3), .ref (a 4), .int M_isSaved, .int M_changes, .int M_isWithin, .int M_code, .ref (a 5), .int M_length, .int M_fault, .int M_failed, .ref (a 6), .int M_signMany, .ref (a 7), .ref (a 8), .int M_many, .ref (a 9), .ref (a 10), .int M_at, .ref (a 11), .int M_toldMany])), (a 1, .inl (Y 0, 238, .inl M_g)), (a 2, .inl (Y 0, 1904, .inl M_kept)), (a 3, .inl (Y 0, 238, .inl M_saved)), (a 4, .inl (Y 0, 238, .inl M_before)), (a 5, .inl (Y 0, 60, .inl M_input)), (a 6, .inl (Y 2, 100, .inl M_signs)), (a 7, .inl (Y 0, 6, .inl M_column)), (a 8, .inl (Y 0, 6, .inl M_loads)), (a 9, .inl (Y 0, 2048, .inl M_sums)), (a 10, .inl (Y 0, 2048, .inl M_groups)), (a 11, .inl (Y 0, 155, .inl M_told))] := hD
  refine lv_iconst (v := 1) hx hb dX11_addAcrobat_46 (by decide) ?_
  refine lv_goto (tgt := 66) hx hb dX11_addAcrobat_47 (by decide) ?_
  exact wl_X11_addAcrobat_L66 C0 hK hA 1 M_g M_kept M_changes M_code hf H locs hP hD hS ls (lv_sub hl [0, 1, 2, 3, 4] rfl)
set_option maxHeartbeats 4000000 in
set_option maxRecDepth 100000 in
theorem c_X11_addAcrobat (l : Launch) (dC : Nat → ClassId) (dI : Nat → Nat → Nat) (Y : Nat → ClassId) (a : Nat → Nat) (M_g : Nat → Int32) (M_kept : Nat → Int32) (M_saved : Nat → Int32) (M_before : Nat → Int32) (M_isSaved : Int32) (M_changes : Int32) (M_isWithin : Int32) (M_code : Int32) (M_input : Nat → Int32) (M_length : Int32) (M_fault : Int32) (M_failed : Int32) (M_signs : Nat → Int32) (M_signMany : Int32) (M_column : Nat → Int32) (M_loads : Nat → Int32) (M_many : Int32) (M_sums : Nat → Int32) (M_groups : Nat → Int32) (M_at : Int32) (M_told : Nat → Int32) (M_toldMany : Int32) (x1 : Int32) (x2 : Int32) (x3 : Int32) (x4 : Int32) (sz : Nat) (r : Int32) (zM_g : Nat → Int32) (zM_kept : Nat → Int32) (zM_changes : Int32) (zM_code : Int32) (hf : f_X11_addAcrobat M_g M_kept M_changes M_isWithin M_code x1 x2 x3 x4 = some (r, zM_g, zM_kept, zM_changes, zM_code)) : Met l yX11_addAcrobat wsX11_addAcrobat ({ frames := 2, cells := 0, slots := 0, locals := 46 } : Room) (va_Pc [.ref (a 0), .int x1, .int x2, .int x3, .int x4] (wk_E (dC, dI) Y (wX11 Y a M_g M_kept M_saved M_before M_isSaved M_changes M_isWithin M_code M_input M_length M_fault M_failed M_signs M_signMany M_column M_loads M_many M_sums M_groups M_at M_told M_toldMany) sz)) (va_Qi (fun r2 (_ : Unit) => r2 = r) (fun _ t => wk_X (dC, dI) Y (wX11 Y a zM_g zM_kept M_saved M_before M_isSaved zM_changes M_isWithin zM_code M_input M_length M_fault M_failed M_signs M_signMany M_column M_loads M_many M_sums M_groups M_at M_told M_toldMany) (va_A (wX11 Y a M_g M_kept M_saved M_before M_isSaved M_changes M_isWithin M_code M_input M_length M_fault M_failed M_signs M_signMany M_column M_loads M_many M_sums M_groups M_at M_told M_toldMany) sz) t) (va_A (wX11 Y a M_g M_kept M_saved M_before M_isSaved M_changes M_isWithin M_code M_input M_length M_fault M_failed M_signs M_signMany M_column M_loads M_many M_sums M_groups M_at M_told M_toldMany) sz)) 0 0 (va_A (wX11 Y a M_g M_kept M_saved M_before M_isSaved M_changes M_isWithin M_code M_input M_length M_fault M_failed M_signs M_signMany M_column M_loads M_many M_sums M_groups M_at M_told M_toldMany) sz) := by
  refine Met.ofW (cc := cX11_addAcrobat) (maxL := 6) (ret := (some .int)) (by decide) rfl ?_
  intro p e s m args below meth c s₁ B hml hv
  obtain ⟨rfl, hsz, hP, hK, hD0⟩ := hv
  have hx := B.exec
  have hb := B.bytes
  have hr := B.returns
  have hts := atoms_spec (ws := wsX11_addAcrobat) B.pre
  have hown : s.vm.findClass RX11 = some m.cls := findClass_of_methodNamed B.named
  have hlocks := B.notSynchronized
  have C0 : wk_C p s m _ meth c cX11_addAcrobat 6 (some .int) wsX11_addAcrobat RX11 := ⟨hx, hb, hml, hr, hlocks, hown, hts⟩
  subst hsz
  have hD := hD0.self (sz := s.heap.size)
  generalize hAe : va_A (wX11 Y a M_g M_kept M_saved M_before M_isSaved M_changes M_isWithin M_code M_input M_length M_fault M_failed M_signs M_signMany M_column M_loads M_many M_sums M_groups M_at M_told M_toldMany) s.heap.size = A at hD ⊢
  have hA : ∀ q : Nat, s.heap.size ≤ q → A q := fun q h => by rw [← hAe]; exact Or.inr h
  have hS : va_S A s.heap s.heap [] := va_S.rf
  obtain ⟨H, hHe⟩ : ∃ H, H = s.heap := ⟨_, rfl⟩
  have hS : va_S A s.heap H [] := by rw [hHe]; exact hS
  have hP : va_P (dC, dI) vwCl [(a 0, .inr (11, [.ref (a 1), .ref (a 2), .ref (a 3), .ref (a 4), .int M_isSaved, .int M_changes, .int M_isWithin, .int M_code, .ref (a 5), .int M_length, .int M_fault, .int M_failed, .ref (a 6), .int M_signMany, .ref (a 7), .ref (a 8), .int M_many, .ref (a 9), .ref (a 10), .int M_at, .ref (a 11), .int M_toldMany])), (a 1, .inl (Y 0, 238, .inl M_g)), (a 2, .inl (Y 0, 1904, .inl M_kept)), (a 3, .inl (Y 0, 238, .inl M_saved)), (a 4, .inl (Y 0, 238, .inl M_before)), (a 5, .inl (Y 0, 60, .inl M_input)), (a 6, .inl (Y 2, 100, .inl M_signs)), (a 7, .inl (Y 0, 6, .inl M_column)), (a 8, .inl (Y 0, 6, .inl M_loads)), (a 9, .inl (Y 0, 2048, .inl M_sums)), (a 10, .inl (Y 0, 2048, .inl M_groups)), (a 11, .inl (Y 0, 155, .inl M_told))] H := by rw [hHe]; exact hP
  have hD : va_D A [(a 0, .inr (11, [.ref (a 1), .ref (a 2), .ref (a 3), .ref (a 4), .int M_isSaved, .int M_changes, .int M_isWithin, .int M_code, .ref (a 5), .int M_length, .int M_fault, .int M_failed, .ref (a 6), .int M_signMany, .ref (a 7), .ref (a 8), .int M_many, .ref (a 9), .ref (a 10), .int M_at, .ref (a 11), .int M_toldMany])), (a 1, .inl (Y 0, 238, .inl M_g)), (a 2, .inl (Y 0, 1904, .inl M_kept)), (a 3, .inl (Y 0, 238, .inl M_saved)), (a 4, .inl (Y 0, 238, .inl M_before)), (a 5, .inl (Y 0, 60, .inl M_input)), (a 6, .inl (Y 2, 100, .inl M_signs)), (a 7, .inl (Y 0, 6, .inl M_column)), (a 8, .inl (Y 0, 6, .inl M_loads)), (a 9, .inl (Y 0, 2048, .inl M_sums)), (a 10, .inl (Y 0, 2048, .inl M_groups)), (a 11, .inl (Y 0, 155, .inl M_told))] := hD
  obtain ⟨locs, hlo⟩ : ∃ locs : List Loc, locs = [] := ⟨_, rfl⟩
  have hS : va_S A s.heap H locs := by rw [hlo]; exact hS
  have hl := lv_entry ([.ref (a 0), .int x1, .int x2, .int x3, .int x4]) (n := 6) (Nat.le_of_ble_eq_true rfl)
  rw [lg_entry_eq]
  generalize (lg_sl ([.ref (a 0), .int x1, .int x2, .int x3, .int x4]) ++ List.replicate (6 - (lg_sl ([.ref (a 0), .int x1, .int x2, .int x3, .int x4])).length) Slot.unset).toArray = ls at hl ⊢
  have hl : lv_has ls 6 [(0, .ref (a 0)), (1, .int x1), (2, .int x2), (3, .int x3), (4, .int x4)] := hl
  refine wk_start hHe hlo ?_
  rw [f_X11_addAcrobat] at hf
  refine lv_aload_n hx hb dX11_addAcrobat_0 rfl (lv_at hl 0 rfl) ?_
  refine lv_iload_n hx hb dX11_addAcrobat_1 rfl (lv_at hl 1 rfl) ?_
  refine lv_bipush (v := 30) hx hb dX11_addAcrobat_2 (by decide) ?_
  refine lv_bipush (v := 120) hx hb dX11_addAcrobat_4 (by decide) ?_
  obtain ⟨r1, hr2, hf⟩ := wkb1_s hf
  have hPc := hP.sub (ws' := ([] : va_W)) [] rfl
  refine wk_si (As := [.int x1, .int 30, .int 120]) (rest := [.ref (a 0)]) ⟨hx, hb, hml, hown, hts⟩ (c_X11_in l dC dI Y x1 30 120 r1 hr2) (va_cwS 3 hts gX11_addAcrobat_X11_in rfl rfl rfl (by decide +kernel) ⟨Nat.le_of_ble_eq_true rfl, Nat.le_of_ble_eq_true rfl⟩) hK hPc rfl hl.1 rfl (Nat.le_of_ble_eq_true rfl) dX11_addAcrobat_6 ⟨Nat.le_of_ble_eq_true rfl, Nat.le_of_ble_eq_true rfl⟩ ?_
  refine lv_if_eq (tgt := 46) hx hb dX11_addAcrobat_9 (by decide) (fun q3 => ?_) (fun q3 => ?_)
  · have hf := wk_t hf q3
    exact wl_X11_addAcrobat_L46 C0 hK hA M_g M_kept M_changes M_code hf H locs hP hD hS ls (lv_sub hl [0, 1, 2, 3, 4] rfl)
  · have hf := wk_f hf q3
    refine lv_iload_n hx hb dX11_addAcrobat_12 rfl (lv_at hl 2 rfl) ?_
    refine lv_iconst (v := 0) hx hb dX11_addAcrobat_13 (by decide) ?_
    refine lv_sipush (v := 400) hx hb dX11_addAcrobat_14 (by decide) ?_
    obtain ⟨r4, hr5, hf⟩ := wkb1_s hf
    have hPc := hP.sub (ws' := ([] : va_W)) [] rfl
    refine wk_si (As := [.int x2, .int 0, .int 400]) (rest := [.ref (a 0)]) ⟨hx, hb, hml, hown, hts⟩ (c_X11_in l dC dI Y x2 0 400 r4 hr5) (va_cwS 3 hts gX11_addAcrobat_X11_in rfl rfl rfl (by decide +kernel) ⟨Nat.le_of_ble_eq_true rfl, Nat.le_of_ble_eq_true rfl⟩) hK hPc rfl hl.1 rfl (Nat.le_of_ble_eq_true rfl) dX11_addAcrobat_17 ⟨Nat.le_of_ble_eq_true rfl, Nat.le_of_ble_eq_true rfl⟩ ?_
    refine lv_if_eq (tgt := 46) hx hb dX11_addAcrobat_20 (by decide) (fun q6 => ?_) (fun q6 => ?_)
    · have hf := wk_t hf q6
      exact wl_X11_addAcrobat_L46 C0 hK hA M_g M_kept M_changes M_code hf H locs hP hD hS ls (lv_sub hl [0, 1, 2, 3, 4] rfl)
    · have hf := wk_f hf q6
      refine lv_iload_n hx hb dX11_addAcrobat_23 rfl (lv_at hl 3 rfl) ?_
      refine lv_bipush (v := 100) hx hb dX11_addAcrobat_24 (by decide) ?_
      refine lv_sipush (v := 200) hx hb dX11_addAcrobat_26 (by decide) ?_
      obtain ⟨r7, hr8, hf⟩ := wkb1_s hf
      have hPc := hP.sub (ws' := ([] : va_W)) [] rfl
      refine wk_si (As := [.int x3, .int 100, .int 200]) (rest := [.ref (a 0)]) ⟨hx, hb, hml, hown, hts⟩ (c_X11_in l dC dI Y x3 100 200 r7 hr8) (va_cwS 3 hts gX11_addAcrobat_X11_in rfl rfl rfl (by decide +kernel) ⟨Nat.le_of_ble_eq_true rfl, Nat.le_of_ble_eq_true rfl⟩) hK hPc rfl hl.1 rfl (Nat.le_of_ble_eq_true rfl) dX11_addAcrobat_29 ⟨Nat.le_of_ble_eq_true rfl, Nat.le_of_ble_eq_true rfl⟩ ?_
      refine lv_if_eq (tgt := 46) hx hb dX11_addAcrobat_32 (by decide) (fun q9 => ?_) (fun q9 => ?_)
      · have hf := wk_t hf q9
        exact wl_X11_addAcrobat_L46 C0 hK hA M_g M_kept M_changes M_code hf H locs hP hD hS ls (lv_sub hl [0, 1, 2, 3, 4] rfl)
      · have hf := wk_f hf q9
        refine lv_iload hx hb dX11_addAcrobat_35 (lv_at hl 4 rfl) ?_
        refine lv_iconst (v := 1) hx hb dX11_addAcrobat_37 (by decide) ?_
        refine lv_bipush (v := 50) hx hb dX11_addAcrobat_38 (by decide) ?_
        obtain ⟨r10, hr11, hf⟩ := wkb1_s hf
        have hPc := hP.sub (ws' := ([] : va_W)) [] rfl
        refine wk_si (As := [.int x4, .int 1, .int 50]) (rest := [.ref (a 0)]) ⟨hx, hb, hml, hown, hts⟩ (c_X11_in l dC dI Y x4 1 50 r10 hr11) (va_cwS 3 hts gX11_addAcrobat_X11_in rfl rfl rfl (by decide +kernel) ⟨Nat.le_of_ble_eq_true rfl, Nat.le_of_ble_eq_true rfl⟩) hK hPc rfl hl.1 rfl (Nat.le_of_ble_eq_true rfl) dX11_addAcrobat_40 ⟨Nat.le_of_ble_eq_true rfl, Nat.le_of_ble_eq_true rfl⟩ ?_
        refine lv_if_ne (tgt := 50) hx hb dX11_addAcrobat_43 (by decide) (fun q12 => ?_) (fun q12 => ?_)
        · have hf := wk_f hf q12
          refine lv_aload_n hx hb dX11_addAcrobat_50 rfl (lv_at hl 0 rfl) ?_
          refine va_get (D := (dC, dI)) (ci := 11) (v := .ref (a 1)) (C := RX11) (T := TX11) (N := 22) hx hb hts in_X11_addAcrobat_X11 hown hK hP 0 rfl rfl 0 (by decide) (hts _ lk_X11_addAcrobat_RX11_7) (fun _ h9 => h9) rfl dX11_addAcrobat_51 ?_
          refine lv_iconst (v := 0) hx hb dX11_addAcrobat_54 (by decide) ?_
          refine wk_iald hx hb hK hP 1 0 (k := 0) rfl rfl (vp_lit (by decide)) (by decide) dX11_addAcrobat_55 ?_
          refine lv_bipush (v := 6) hx hb dX11_addAcrobat_56 (by decide) ?_
          refine lv_icmp_ne (tgt := 65) hx hb dX11_addAcrobat_58 (by decide) (fun q13 => ?_) (fun q13 => ?_)
          · have hf := wk_f hf q13
            refine lv_iconst (v := 0) hx hb dX11_addAcrobat_65 (by decide) ?_
            exact wl_X11_addAcrobat_L66 C0 hK hA 0 M_g M_kept M_changes M_code hf H locs hP hD hS ls (lv_sub hl [0, 1, 2, 3, 4] rfl)
          · have hf := wk_t hf q13
            refine lv_iconst (v := 2) hx hb dX11_addAcrobat_61 (by decide) ?_
            refine lv_goto (tgt := 66) hx hb dX11_addAcrobat_62 (by decide) ?_
            exact wl_X11_addAcrobat_L66 C0 hK hA 2 M_g M_kept M_changes M_code hf H locs hP hD hS ls (lv_sub hl [0, 1, 2, 3, 4] rfl)
        · have hf := wk_t hf q12
          exact wl_X11_addAcrobat_L46 C0 hK hA M_g M_kept M_changes M_code hf H locs hP hD hS ls (lv_sub hl [0, 1, 2, 3, 4] rfl)
theorem lk_X11_books_RX11_7 : Cond.fieldLink RX11 7 "CircusLedgerModel" "g" "[I" ∈ wsX11_books := by decide +kernel
theorem in_X11_books_X11 : ∀ w ∈ u_ws RX11 TX11 22, w ∈ wsX11_books := by decide +kernel
def f_X11_books (M_g : Nat → Int32) (x1 : Int32) (x2 : Int32) (x3 : Int32) : Option ((Nat → Int32)) :=
  if x3 = 0 then
    (some (M_g))
  else
    (gin ((58 + (3 * (M_g 3))) + 0) 238 (wkl (upd M_g (((58 + (3 * (M_g 3))) + 0).toNatClampNeg) x1) (fun g2 =>
    gin ((58 + (3 * (M_g 3))) + 1) 238 (wkl (upd g2 (((58 + (3 * (M_g 3))) + 1).toNatClampNeg) x2) (fun g4 =>
    gin ((58 + (3 * (M_g 3))) + 2) 238 (wkl (upd g4 (((58 + (3 * (M_g 3))) + 2).toNatClampNeg) x3) (fun g6 =>
    wkl (upd g6 3 ((g6 3) + 1)) (fun g8 =>
    gin (36 + x1) 238 (gin (36 + x1) 238 (wkl (upd g8 ((36 + x1).toNatClampNeg) ((g8 (36 + x1).toNatClampNeg) + x3)) (fun g10 =>
    gin (36 + x2) 238 (gin (36 + x2) 238 (wkl (upd g10 ((36 + x2).toNatClampNeg) ((g10 (36 + x2).toNatClampNeg) - x3)) (fun g13 =>
    some (g13)))))))))))))))
set_option maxHeartbeats 4000000 in
set_option maxRecDepth 100000 in
theorem c_X11_books (l : Launch) (dC : Nat → ClassId) (dI : Nat → Nat → Nat) (Y : Nat → ClassId) (a : Nat → Nat) (M_g : Nat → Int32) (M_kept : Nat → Int32) (M_saved : Nat → Int32) (M_before : Nat → Int32) (M_isSaved : Int32) (M_changes : Int32) (M_isWithin : Int32) (M_code : Int32) (M_input : Nat → Int32) (M_length : Int32) (M_fault : Int32) (M_failed : Int32) (M_signs : Nat → Int32) (M_signMany : Int32) (M_column : Nat → Int32) (M_loads : Nat → Int32) (M_many : Int32) (M_sums : Nat → Int32) (M_groups : Nat → Int32) (M_at : Int32) (M_told : Nat → Int32) (M_toldMany : Int32) (x1 : Int32) (x2 : Int32) (x3 : Int32) (sz : Nat) (zM_g : Nat → Int32) (hf : f_X11_books M_g x1 x2 x3 = some (zM_g)) : Met l yX11_books wsX11_books ({ frames := 0, cells := 0, slots := 0, locals := 0 } : Room) (va_Pc [.ref (a 0), .int x1, .int x2, .int x3] (wk_E (dC, dI) Y (wX11 Y a M_g M_kept M_saved M_before M_isSaved M_changes M_isWithin M_code M_input M_length M_fault M_failed M_signs M_signMany M_column M_loads M_many M_sums M_groups M_at M_told M_toldMany) sz)) (va_Qv (fun (_ : Unit) => True) (fun _ t => wk_X (dC, dI) Y (wX11 Y a zM_g M_kept M_saved M_before M_isSaved M_changes M_isWithin M_code M_input M_length M_fault M_failed M_signs M_signMany M_column M_loads M_many M_sums M_groups M_at M_told M_toldMany) (va_A (wX11 Y a M_g M_kept M_saved M_before M_isSaved M_changes M_isWithin M_code M_input M_length M_fault M_failed M_signs M_signMany M_column M_loads M_many M_sums M_groups M_at M_told M_toldMany) sz) t) (va_A (wX11 Y a M_g M_kept M_saved M_before M_isSaved M_changes M_isWithin M_code M_input M_length M_fault M_failed M_signs M_signMany M_column M_loads M_many M_sums M_groups M_at M_told M_toldMany) sz)) 0 0 (va_A (wX11 Y a M_g M_kept M_saved M_before M_isSaved M_changes M_isWithin M_code M_input M_length M_fault M_failed M_signs M_signMany M_column M_loads M_many M_sums M_groups M_at M_told M_toldMany) sz) := by
  refine Met.ofW (cc := cX11_books) (maxL := 5) (ret := none) (by decide) rfl ?_
  intro p e s m args below meth c s₁ B hml hv
  obtain ⟨rfl, hsz, hP, hK, hD0⟩ := hv
  have hx := B.exec
  have hb := B.bytes
  have hr := B.returns
  have hts := atoms_spec (ws := wsX11_books) B.pre
  have hown : s.vm.findClass RX11 = some m.cls := findClass_of_methodNamed B.named
  have hlocks := B.notSynchronized
  have C0 : wk_C p s m _ meth c cX11_books 5 none wsX11_books RX11 := ⟨hx, hb, hml, hr, hlocks, hown, hts⟩
  subst hsz
  have hD := hD0.self (sz := s.heap.size)
  generalize hAe : va_A (wX11 Y a M_g M_kept M_saved M_before M_isSaved M_changes M_isWithin M_code M_input M_length M_fault M_failed M_signs M_signMany M_column M_loads M_many M_sums M_groups M_at M_told M_toldMany) s.heap.size = A at hD ⊢
  have hA : ∀ q : Nat, s.heap.size ≤ q → A q := fun q h => by rw [← hAe]; exact Or.inr h
  have hS : va_S A s.heap s.heap [] := va_S.rf
  obtain ⟨H, hHe⟩ : ∃ H, H = s.heap := ⟨_, rfl⟩
  have hS : va_S A s.heap H [] := by rw [hHe]; exact hS
  have hP : va_P (dC, dI) vwCl [(a 0, .inr (11, [.ref (a 1), .ref (a 2), .ref (a 3), .ref (a 4), .int M_isSaved, .int M_changes, .int M_isWithin, .int M_code, .ref (a 5), .int M_length, .int M_fault, .int M_failed, .ref (a 6), .int M_signMany, .ref (a 7), .ref (a 8), .int M_many, .ref (a 9), .ref (a 10), .int M_at, .ref (a 11), .int M_toldMany])), (a 1, .inl (Y 0, 238, .inl M_g)), (a 2, .inl (Y 0, 1904, .inl M_kept)), (a 3, .inl (Y 0, 238, .inl M_saved)), (a 4, .inl (Y 0, 238, .inl M_before)), (a 5, .inl (Y 0, 60, .inl M_input)), (a 6, .inl (Y 2, 100, .inl M_signs)), (a 7, .inl (Y 0, 6, .inl M_column)), (a 8, .inl (Y 0, 6, .inl M_loads)), (a 9, .inl (Y 0, 2048, .inl M_sums)), (a 10, .inl (Y 0, 2048, .inl M_groups)), (a 11, .inl (Y 0, 155, .inl M_told))] H := by rw [hHe]; exact hP
  have hD : va_D A [(a 0, .inr (11, [.ref (a 1), .ref (a 2), .ref (a 3), .ref (a 4), .int M_isSaved, .int M_changes, .int M_isWithin, .int M_code, .ref (a 5), .int M_length, .int M_fault, .int M_failed, .ref (a 6), .int M_signMany, .ref (a 7), .ref (a 8), .int M_many, .ref (a 9), .ref (a 10), .int M_at, .ref (a 11), .int M_toldMany])), (a 1, .inl (Y 0, 238, .inl M_g)), (a 2, .inl (Y 0, 1904, .inl M_kept)), (a 3, .inl (Y 0, 238, .inl M_saved)), (a 4, .inl (Y 0, 238, .inl M_before)), (a 5, .inl (Y 0, 60, .inl M_input)), (a 6, .inl (Y 2, 100, .inl M_signs)), (a 7, .inl (Y 0, 6, .inl M_column)), (a 8, .inl (Y 0, 6, .inl M_loads)), (a 9, .inl (Y 0, 2048, .inl M_sums)), (a 10, .inl (Y 0, 2048, .inl M_groups)), (a 11, .inl (Y 0, 155, .inl M_told))] := hD
  obtain ⟨locs, hlo⟩ : ∃ locs : List Loc, locs = [] := ⟨_, rfl⟩
  have hS : va_S A s.heap H locs := by rw [hlo]; exact hS
  have hl := lv_entry ([.ref (a 0), .int x1, .int x2, .int x3]) (n := 5) (Nat.le_of_ble_eq_true rfl)
  rw [lg_entry_eq]
  generalize (lg_sl ([.ref (a 0), .int x1, .int x2, .int x3]) ++ List.replicate (5 - (lg_sl ([.ref (a 0), .int x1, .int x2, .int x3])).length) Slot.unset).toArray = ls at hl ⊢
  have hl : lv_has ls 5 [(0, .ref (a 0)), (1, .int x1), (2, .int x2), (3, .int x3)] := hl
  refine wk_start hHe hlo ?_
  rw [f_X11_books] at hf
  refine lv_iload_n hx hb dX11_books_0 rfl (lv_at hl 3 rfl) ?_
  refine lv_if_ne (tgt := 5) hx hb dX11_books_1 (by decide) (fun q1 => ?_) (fun q1 => ?_)
  · have hf := wk_f hf q1
    refine lv_bipush (v := 58) hx hb dX11_books_5 (by decide) ?_
    refine lv_iconst (v := 3) hx hb dX11_books_7 (by decide) ?_
    refine lv_aload_n hx hb dX11_books_8 rfl (lv_at hl 0 rfl) ?_
    refine va_get (D := (dC, dI)) (ci := 11) (v := .ref (a 1)) (C := RX11) (T := TX11) (N := 22) hx hb hts in_X11_books_X11 hown hK hP 0 rfl rfl 0 (by decide) (hts _ lk_X11_books_RX11_7) (fun _ h9 => h9) rfl dX11_books_9 ?_
    refine lv_iconst (v := 3) hx hb dX11_books_12 (by decide) ?_
    refine wk_iald hx hb hK hP 1 0 (k := 3) rfl rfl (vp_lit (by decide)) (by decide) dX11_books_13 ?_
    refine lv_imul hx hb dX11_books_14 ?_
    refine lv_iadd hx hb dX11_books_15 ?_
    refine lv_istore (lv' := [(4, .int (58 + (3 * (M_g 3)))), (0, .ref (a 0)), (1, .int x1), (2, .int x2), (3, .int x3)]) hx hb dX11_books_16 hl (by decide) rfl (fun ls hl => ?_)
    refine lv_aload_n hx hb dX11_books_18 rfl (lv_at hl 1 rfl) ?_
    refine va_get (D := (dC, dI)) (ci := 11) (v := .ref (a 1)) (C := RX11) (T := TX11) (N := 22) hx hb hts in_X11_books_X11 hown hK hP 0 rfl rfl 0 (by decide) (hts _ lk_X11_books_RX11_7) (fun _ h9 => h9) rfl dX11_books_19 ?_
    refine lv_iload hx hb dX11_books_22 (lv_at hl 0 rfl) ?_
    refine lv_iconst (v := 0) hx hb dX11_books_24 (by decide) ?_
    refine lv_iadd hx hb dX11_books_25 ?_
    refine lv_iload_n hx hb dX11_books_26 rfl (lv_at hl 2 rfl) ?_
    obtain ⟨h3, hf⟩ := gin_s hf
    refine wk_iast hx hb hK hP hD hS 1 0 (k := ((58 + (3 * (M_g 3))) + 0).toNatClampNeg) rfl rfl h3 rfl dX11_books_27 (fun g2 H locs eg2 hP hD hS => ?_)
    have hP : va_P (dC, dI) vwCl [(a 0, .inr (11, [.ref (a 1), .ref (a 2), .ref (a 3), .ref (a 4), .int M_isSaved, .int M_changes, .int M_isWithin, .int M_code, .ref (a 5), .int M_length, .int M_fault, .int M_failed, .ref (a 6), .int M_signMany, .ref (a 7), .ref (a 8), .int M_many, .ref (a 9), .ref (a 10), .int M_at, .ref (a 11), .int M_toldMany])), (a 1, .inl (Y 0, 238, .inl g2)), (a 2, .inl (Y 0, 1904, .inl M_kept)), (a 3, .inl (Y 0, 238, .inl M_saved)), (a 4, .inl (Y 0, 238, .inl M_before)), (a 5, .inl (Y 0, 60, .inl M_input)), (a 6, .inl (Y 2, 100, .inl M_signs)), (a 7, .inl (Y 0, 6, .inl M_column)), (a 8, .inl (Y 0, 6, .inl M_loads)), (a 9, .inl (Y 0, 2048, .inl M_sums)), (a 10, .inl (Y 0, 2048, .inl M_groups)), (a 11, .inl (Y 0, 155, .inl M_told))] H := hP
    have hD : va_D A [(a 0, .inr (11, [.ref (a 1), .ref (a 2), .ref (a 3), .ref (a 4), .int M_isSaved, .int M_changes, .int M_isWithin, .int M_code, .ref (a 5), .int M_length, .int M_fault, .int M_failed, .ref (a 6), .int M_signMany, .ref (a 7), .ref (a 8), .int M_many, .ref (a 9), .ref (a 10), .int M_at, .ref (a 11), .int M_toldMany])), (a 1, .inl (Y 0, 238, .inl g2)), (a 2, .inl (Y 0, 1904, .inl M_kept)), (a 3, .inl (Y 0, 238, .inl M_saved)), (a 4, .inl (Y 0, 238, .inl M_before)), (a 5, .inl (Y 0, 60, .inl M_input)), (a 6, .inl (Y 2, 100, .inl M_signs)), (a 7, .inl (Y 0, 6, .inl M_column)), (a 8, .inl (Y 0, 6, .inl M_loads)), (a 9, .inl (Y 0, 2048, .inl M_sums)), (a 10, .inl (Y 0, 2048, .inl M_groups)), (a 11, .inl (Y 0, 155, .inl M_told))] := hD
    have hf := wkl_s hf eg2
    refine lv_aload_n hx hb dX11_books_28 rfl (lv_at hl 1 rfl) ?_
    refine va_get (D := (dC, dI)) (ci := 11) (v := .ref (a 1)) (C := RX11) (T := TX11) (N := 22) hx hb hts in_X11_books_X11 hown hK hP 0 rfl rfl 0 (by decide) (hts _ lk_X11_books_RX11_7) (fun _ h9 => h9) rfl dX11_books_29 ?_
    refine lv_iload hx hb dX11_books_32 (lv_at hl 0 rfl) ?_
    refine lv_iconst (v := 1) hx hb dX11_books_34 (by decide) ?_
    refine lv_iadd hx hb dX11_books_35 ?_
    refine lv_iload_n hx hb dX11_books_36 rfl (lv_at hl 3 rfl) ?_
    obtain ⟨h5, hf⟩ := gin_s hf
    refine wk_iast hx hb hK hP hD hS 1 0 (k := ((58 + (3 * (M_g 3))) + 1).toNatClampNeg) rfl rfl h5 rfl dX11_books_37 (fun g4 H locs eg4 hP hD hS => ?_)
    have hP : va_P (dC, dI) vwCl [(a 0, .inr (11, [.ref (a 1), .ref (a 2), .ref (a 3), .ref (a 4), .int M_isSaved, .int M_changes, .int M_isWithin, .int M_code, .ref (a 5), .int M_length, .int M_fault, .int M_failed, .ref (a 6), .int M_signMany, .ref (a 7), .ref (a 8), .int M_many, .ref (a 9), .ref (a 10), .int M_at, .ref (a 11), .int M_toldMany])), (a 1, .inl (Y 0, 238, .inl g4)), (a 2, .inl (Y 0, 1904, .inl M_kept)), (a 3, .inl (Y 0, 238, .inl M_saved)), (a 4, .inl (Y 0, 238, .inl M_before)), (a 5, .inl (Y 0, 60, .inl M_input)), (a 6, .inl (Y 2, 100, .inl M_signs)), (a 7, .inl (Y 0, 6, .inl M_column)), (a 8, .inl (Y 0, 6, .inl M_loads)), (a 9, .inl (Y 0, 2048, .inl M_sums)), (a 10, .inl (Y 0, 2048, .inl M_groups)), (a 11, .inl (Y 0, 155, .inl M_told))] H := hP
    have hD : va_D A [(a 0, .inr (11, [.ref (a 1), .ref (a 2), .ref (a 3), .ref (a 4), .int M_isSaved, .int M_changes, .int M_isWithin, .int M_code, .ref (a 5), .int M_length, .int M_fault, .int M_failed, .ref (a 6), .int M_signMany, .ref (a 7), .ref (a 8), .int M_many, .ref (a 9), .ref (a 10), .int M_at, .ref (a 11), .int M_toldMany])), (a 1, .inl (Y 0, 238, .inl g4)), (a 2, .inl (Y 0, 1904, .inl M_kept)), (a 3, .inl (Y 0, 238, .inl M_saved)), (a 4, .inl (Y 0, 238, .inl M_before)), (a 5, .inl (Y 0, 60, .inl M_input)), (a 6, .inl (Y 2, 100, .inl M_signs)), (a 7, .inl (Y 0, 6, .inl M_column)), (a 8, .inl (Y 0, 6, .inl M_loads)), (a 9, .inl (Y 0, 2048, .inl M_sums)), (a 10, .inl (Y 0, 2048, .inl M_groups)), (a 11, .inl (Y 0, 155, .inl M_told))] := hD
    have hf := wkl_s hf eg4
    refine lv_aload_n hx hb dX11_books_38 rfl (lv_at hl 1 rfl) ?_
    refine va_get (D := (dC, dI)) (ci := 11) (v := .ref (a 1)) (C := RX11) (T := TX11) (N := 22) hx hb hts in_X11_books_X11 hown hK hP 0 rfl rfl 0 (by decide) (hts _ lk_X11_books_RX11_7) (fun _ h9 => h9) rfl dX11_books_39 ?_
    refine lv_iload hx hb dX11_books_42 (lv_at hl 0 rfl) ?_
    refine lv_iconst (v := 2) hx hb dX11_books_44 (by decide) ?_
    refine lv_iadd hx hb dX11_books_45 ?_
    refine lv_iload_n hx hb dX11_books_46 rfl (lv_at hl 4 rfl) ?_
    obtain ⟨h7, hf⟩ := gin_s hf
    refine wk_iast hx hb hK hP hD hS 1 0 (k := ((58 + (3 * (M_g 3))) + 2).toNatClampNeg) rfl rfl h7 rfl dX11_books_47 (fun g6 H locs eg6 hP hD hS => ?_)
    have hP : va_P (dC, dI) vwCl [(a 0, .inr (11, [.ref (a 1), .ref (a 2), .ref (a 3), .ref (a 4), .int M_isSaved, .int M_changes, .int M_isWithin, .int M_code, .ref (a 5), .int M_length, .int M_fault, .int M_failed, .ref (a 6), .int M_signMany, .ref (a 7), .ref (a 8), .int M_many, .ref (a 9), .ref (a 10), .int M_at, .ref (a 11), .int M_toldMany])), (a 1, .inl (Y 0, 238, .inl g6)), (a 2, .inl (Y 0, 1904, .inl M_kept)), (a 3, .inl (Y 0, 238, .inl M_saved)), (a 4, .inl (Y 0, 238, .inl M_before)), (a 5, .inl (Y 0, 60, .inl M_input)), (a 6, .inl (Y 2, 100, .inl M_signs)), (a 7, .inl (Y 0, 6, .inl M_column)), (a 8, .inl (Y 0, 6, .inl M_loads)), (a 9, .inl (Y 0, 2048, .inl M_sums)), (a 10, .inl (Y 0, 2048, .inl M_groups)), (a 11, .inl (Y 0, 155, .inl M_told))] H := hP
    have hD : va_D A [(a 0, .inr (11, [.ref (a 1), .ref (a 2), .ref (a 3), .ref (a 4), .int M_isSaved, .int M_changes, .int M_isWithin, .int M_code, .ref (a 5), .int M_length, .int M_fault, .int M_failed, .ref (a 6), .int M_signMany, .ref (a 7), .ref (a 8), .int M_many, .ref (a 9), .ref (a 10), .int M_at, .ref (a 11), .int M_toldMany])), (a 1, .inl (Y 0, 238, .inl g6)), (a 2, .inl (Y 0, 1904, .inl M_kept)), (a 3, .inl (Y 0, 238, .inl M_saved)), (a 4, .inl (Y 0, 238, .inl M_before)), (a 5, .inl (Y 0, 60, .inl M_input)), (a 6, .inl (Y 2, 100, .inl M_signs)), (a 7, .inl (Y 0, 6, .inl M_column)), (a 8, .inl (Y 0, 6, .inl M_loads)), (a 9, .inl (Y 0, 2048, .inl M_sums)), (a 10, .inl (Y 0, 2048, .inl M_groups)), (a 11, .inl (Y 0, 155, .inl M_told))] := hD
    have hf := wkl_s hf eg6
    refine lv_aload_n hx hb dX11_books_48 rfl (lv_at hl 1 rfl) ?_
    refine va_get (D := (dC, dI)) (ci := 11) (v := .ref (a 1)) (C := RX11) (T := TX11) (N := 22) hx hb hts in_X11_books_X11 hown hK hP 0 rfl rfl 0 (by decide) (hts _ lk_X11_books_RX11_7) (fun _ h9 => h9) rfl dX11_books_49 ?_
    refine lv_iconst (v := 3) hx hb dX11_books_52 (by decide) ?_
    refine lv_dup2_11 hx hb dX11_books_53 rfl rfl ?_
    refine wk_iald hx hb hK hP 1 0 (k := 3) rfl rfl (vp_lit (by decide)) (by decide) dX11_books_54 ?_
    refine lv_iconst (v := 1) hx hb dX11_books_55 (by decide) ?_
    refine lv_iadd hx hb dX11_books_56 ?_
    refine wk_iast hx hb hK hP hD hS 1 0 (k := 3) rfl rfl (vp_lit (by decide)) (by decide) dX11_books_57 (fun g8 H locs eg8 hP hD hS => ?_)
    have hP : va_P (dC, dI) vwCl [(a 0, .inr (11, [.ref (a 1), .ref (a 2), .ref (a 3), .ref (a 4), .int M_isSaved, .int M_changes, .int M_isWithin, .int M_code, .ref (a 5), .int M_length, .int M_fault, .int M_failed, .ref (a 6), .int M_signMany, .ref (a 7), .ref (a 8), .int M_many, .ref (a 9), .ref (a 10), .int M_at, .ref (a 11), .int M_toldMany])), (a 1, .inl (Y 0, 238, .inl g8)), (a 2, .inl (Y 0, 1904, .inl M_kept)), (a 3, .inl (Y 0, 238, .inl M_saved)), (a 4, .inl (Y 0, 238, .inl M_before)), (a 5, .inl (Y 0, 60, .inl M_input)), (a 6, .inl (Y 2, 100, .inl M_signs)), (a 7, .inl (Y 0, 6, .inl M_column)), (a 8, .inl (Y 0, 6, .inl M_loads)), (a 9, .inl (Y 0, 2048, .inl M_sums)), (a 10, .inl (Y 0, 2048, .inl M_groups)), (a 11, .inl (Y 0, 155, .inl M_told))] H := hP
    have hD : va_D A [(a 0, .inr (11, [.ref (a 1), .ref (a 2), .ref (a 3), .ref (a 4), .int M_isSaved, .int M_changes, .int M_isWithin, .int M_code, .ref (a 5), .int M_length, .int M_fault, .int M_failed, .ref (a 6), .int M_signMany, .ref (a 7), .ref (a 8), .int M_many, .ref (a 9), .ref (a 10), .int M_at, .ref (a 11), .int M_toldMany])), (a 1, .inl (Y 0, 238, .inl g8)), (a 2, .inl (Y 0, 1904, .inl M_kept)), (a 3, .inl (Y 0, 238, .inl M_saved)), (a 4, .inl (Y 0, 238, .inl M_before)), (a 5, .inl (Y 0, 60, .inl M_input)), (a 6, .inl (Y 2, 100, .inl M_signs)), (a 7, .inl (Y 0, 6, .inl M_column)), (a 8, .inl (Y 0, 6, .inl M_loads)), (a 9, .inl (Y 0, 2048, .inl M_sums)), (a 10, .inl (Y 0, 2048, .inl M_groups)), (a 11, .inl (Y 0, 155, .inl M_told))] := hD
    have hf := wkl_s hf eg8
    refine lv_aload_n hx hb dX11_books_58 rfl (lv_at hl 1 rfl) ?_
    refine va_get (D := (dC, dI)) (ci := 11) (v := .ref (a 1)) (C := RX11) (T := TX11) (N := 22) hx hb hts in_X11_books_X11 hown hK hP 0 rfl rfl 0 (by decide) (hts _ lk_X11_books_RX11_7) (fun _ h9 => h9) rfl dX11_books_59 ?_
    refine lv_bipush (v := 36) hx hb dX11_books_62 (by decide) ?_
    refine lv_iload_n hx hb dX11_books_64 rfl (lv_at hl 2 rfl) ?_
    refine lv_iadd hx hb dX11_books_65 ?_
    refine lv_dup2_11 hx hb dX11_books_66 rfl rfl ?_
    obtain ⟨h9, hf⟩ := gin_s hf
    refine wk_iald hx hb hK hP 1 0 rfl rfl h9 rfl dX11_books_67 ?_
    refine lv_iload_n hx hb dX11_books_68 rfl (lv_at hl 4 rfl) ?_
    refine lv_iadd hx hb dX11_books_69 ?_
    obtain ⟨h11, hf⟩ := gin_s hf
    refine wk_iast hx hb hK hP hD hS 1 0 (k := (36 + x1).toNatClampNeg) rfl rfl h11 rfl dX11_books_70 (fun g10 H locs eg10 hP hD hS => ?_)
    have hP : va_P (dC, dI) vwCl [(a 0, .inr (11, [.ref (a 1), .ref (a 2), .ref (a 3), .ref (a 4), .int M_isSaved, .int M_changes, .int M_isWithin, .int M_code, .ref (a 5), .int M_length, .int M_fault, .int M_failed, .ref (a 6), .int M_signMany, .ref (a 7), .ref (a 8), .int M_many, .ref (a 9), .ref (a 10), .int M_at, .ref (a 11), .int M_toldMany])), (a 1, .inl (Y 0, 238, .inl g10)), (a 2, .inl (Y 0, 1904, .inl M_kept)), (a 3, .inl (Y 0, 238, .inl M_saved)), (a 4, .inl (Y 0, 238, .inl M_before)), (a 5, .inl (Y 0, 60, .inl M_input)), (a 6, .inl (Y 2, 100, .inl M_signs)), (a 7, .inl (Y 0, 6, .inl M_column)), (a 8, .inl (Y 0, 6, .inl M_loads)), (a 9, .inl (Y 0, 2048, .inl M_sums)), (a 10, .inl (Y 0, 2048, .inl M_groups)), (a 11, .inl (Y 0, 155, .inl M_told))] H := hP
    have hD : va_D A [(a 0, .inr (11, [.ref (a 1), .ref (a 2), .ref (a 3), .ref (a 4), .int M_isSaved, .int M_changes, .int M_isWithin, .int M_code, .ref (a 5), .int M_length, .int M_fault, .int M_failed, .ref (a 6), .int M_signMany, .ref (a 7), .ref (a 8), .int M_many, .ref (a 9), .ref (a 10), .int M_at, .ref (a 11), .int M_toldMany])), (a 1, .inl (Y 0, 238, .inl g10)), (a 2, .inl (Y 0, 1904, .inl M_kept)), (a 3, .inl (Y 0, 238, .inl M_saved)), (a 4, .inl (Y 0, 238, .inl M_before)), (a 5, .inl (Y 0, 60, .inl M_input)), (a 6, .inl (Y 2, 100, .inl M_signs)), (a 7, .inl (Y 0, 6, .inl M_column)), (a 8, .inl (Y 0, 6, .inl M_loads)), (a 9, .inl (Y 0, 2048, .inl M_sums)), (a 10, .inl (Y 0, 2048, .inl M_groups)), (a 11, .inl (Y 0, 155, .inl M_told))] := hD
    have hf := wkl_s hf eg10
    refine lv_aload_n hx hb dX11_books_71 rfl (lv_at hl 1 rfl) ?_
    refine va_get (D := (dC, dI)) (ci := 11) (v := .ref (a 1)) (C := RX11) (T := TX11) (N := 22) hx hb hts in_X11_books_X11 hown hK hP 0 rfl rfl 0 (by decide) (hts _ lk_X11_books_RX11_7) (fun _ h9 => h9) rfl dX11_books_72 ?_
    refine lv_bipush (v := 36) hx hb dX11_books_75 (by decide) ?_
    refine lv_iload_n hx hb dX11_books_77 rfl (lv_at hl 3 rfl) ?_
    refine lv_iadd hx hb dX11_books_78 ?_
    refine lv_dup2_11 hx hb dX11_books_79 rfl rfl ?_
    obtain ⟨h12, hf⟩ := gin_s hf
    refine wk_iald hx hb hK hP 1 0 rfl rfl h12 rfl dX11_books_80 ?_
    refine lv_iload_n hx hb dX11_books_81 rfl (lv_at hl 4 rfl) ?_
    refine lv_isub hx hb dX11_books_82 ?_
    obtain ⟨h14, hf⟩ := gin_s hf
    refine wk_iast hx hb hK hP hD hS 1 0 (k := (36 + x2).toNatClampNeg) rfl rfl h14 rfl dX11_books_83 (fun g13 H locs eg13 hP hD hS => ?_)
    have hP : va_P (dC, dI) vwCl [(a 0, .inr (11, [.ref (a 1), .ref (a 2), .ref (a 3), .ref (a 4), .int M_isSaved, .int M_changes, .int M_isWithin, .int M_code, .ref (a 5), .int M_length, .int M_fault, .int M_failed, .ref (a 6), .int M_signMany, .ref (a 7), .ref (a 8), .int M_many, .ref (a 9), .ref (a 10), .int M_at, .ref (a 11), .int M_toldMany])), (a 1, .inl (Y 0, 238, .inl g13)), (a 2, .inl (Y 0, 1904, .inl M_kept)), (a 3, .inl (Y 0, 238, .inl M_saved)), (a 4, .inl (Y 0, 238, .inl M_before)), (a 5, .inl (Y 0, 60, .inl M_input)), (a 6, .inl (Y 2, 100, .inl M_signs)), (a 7, .inl (Y 0, 6, .inl M_column)), (a 8, .inl (Y 0, 6, .inl M_loads)), (a 9, .inl (Y 0, 2048, .inl M_sums)), (a 10, .inl (Y 0, 2048, .inl M_groups)), (a 11, .inl (Y 0, 155, .inl M_told))] H := hP
    have hD : va_D A [(a 0, .inr (11, [.ref (a 1), .ref (a 2), .ref (a 3), .ref (a 4), .int M_isSaved, .int M_changes, .int M_isWithin, .int M_code, .ref (a 5), .int M_length, .int M_fault, .int M_failed, .ref (a 6), .int M_signMany, .ref (a 7), .ref (a 8), .int M_many, .ref (a 9), .ref (a 10), .int M_at, .ref (a 11), .int M_toldMany])), (a 1, .inl (Y 0, 238, .inl g13)), (a 2, .inl (Y 0, 1904, .inl M_kept)), (a 3, .inl (Y 0, 238, .inl M_saved)), (a 4, .inl (Y 0, 238, .inl M_before)), (a 5, .inl (Y 0, 60, .inl M_input)), (a 6, .inl (Y 2, 100, .inl M_signs)), (a 7, .inl (Y 0, 6, .inl M_column)), (a 8, .inl (Y 0, 6, .inl M_loads)), (a 9, .inl (Y 0, 2048, .inl M_sums)), (a 10, .inl (Y 0, 2048, .inl M_groups)), (a 11, .inl (Y 0, 155, .inl M_told))] := hD
    have hf := wkl_s hf eg13
    have e0 := wke1 hf
    subst e0
    have hP9 := hP.sub (ws' := (wX11 Y a g13 M_kept M_saved M_before M_isSaved M_changes M_isWithin M_code M_input M_length M_fault M_failed M_signs M_signMany M_column M_loads M_many M_sums M_groups M_at M_told M_toldMany)) [0, 1, 2, 3, 4, 5, 6, 7, 8, 9, 10, 11] rfl
    have hD9 := hD.sub (ws' := (wX11 Y a g13 M_kept M_saved M_before M_isSaved M_changes M_isWithin M_code M_input M_length M_fault M_failed M_signs M_signMany M_column M_loads M_many M_sums M_groups M_at M_told M_toldMany)) [0, 1, 2, 3, 4, 5, 6, 7, 8, 9, 10, 11] (by decide) rfl
    exact W.vret hx hb hr (fun t ht hW => ⟨⟨(), rfl, trivial, by rw [ht]; exact hP9, va_K.moved hW.alike hK, hD9⟩, hS.F ht⟩) hS.2.2 dX11_books_84
  · have hf := wk_t hf q1
    have e0 := wke1 hf
    subst e0
    have hP9 := hP.sub (ws' := (wX11 Y a M_g M_kept M_saved M_before M_isSaved M_changes M_isWithin M_code M_input M_length M_fault M_failed M_signs M_signMany M_column M_loads M_many M_sums M_groups M_at M_told M_toldMany)) [0, 1, 2, 3, 4, 5, 6, 7, 8, 9, 10, 11] rfl
    have hD9 := hD.sub (ws' := (wX11 Y a M_g M_kept M_saved M_before M_isSaved M_changes M_isWithin M_code M_input M_length M_fault M_failed M_signs M_signMany M_column M_loads M_many M_sums M_groups M_at M_told M_toldMany)) [0, 1, 2, 3, 4, 5, 6, 7, 8, 9, 10, 11] (by decide) rfl
    exact W.vret hx hb hr (fun t ht hW => ⟨⟨(), rfl, trivial, by rw [ht]; exact hP9, va_K.moved hW.alike hK, hD9⟩, hS.F ht⟩) hS.2.2 dX11_books_4
theorem lk_X11_isShort_RX11_7 : Cond.fieldLink RX11 7 "CircusLedgerModel" "g" "[I" ∈ wsX11_isShort := by decide +kernel
theorem in_X11_isShort_X11 : ∀ w ∈ u_ws RX11 TX11 22, w ∈ wsX11_isShort := by decide +kernel
def f_X11_isShort (M_g : Nat → Int32) (x1 : Int32) (x2 : Int32) : Option (Int32) :=
  if x1 = 0 then
    (gin (36 + x1) 238 (if x2 ≤ (M_g (36 + x1).toNatClampNeg) then
      (some (0))
    else
      (some (1))))
  else
    (if x1 = 1 then
      (gin (36 + x1) 238 (if x2 ≤ (M_g (36 + x1).toNatClampNeg) then
        (some (0))
      else
        (some (1))))
    else
      (some (0)))
set_option maxHeartbeats 4000000 in
set_option maxRecDepth 100000 in
theorem c_X11_isShort (l : Launch) (dC : Nat → ClassId) (dI : Nat → Nat → Nat) (Y : Nat → ClassId) (a : Nat → Nat) (M_g : Nat → Int32) (M_kept : Nat → Int32) (M_saved : Nat → Int32) (M_before : Nat → Int32) (M_isSaved : Int32) (M_changes : Int32) (M_isWithin : Int32) (M_code : Int32) (M_input : Nat → Int32) (M_length : Int32) (M_fault : Int32) (M_failed : Int32) (M_signs : Nat → Int32) (M_signMany : Int32) (M_column : Nat → Int32) (M_loads : Nat → Int32) (M_many : Int32) (M_sums : Nat → Int32) (M_groups : Nat → Int32) (M_at : Int32) (M_told : Nat → Int32) (M_toldMany : Int32) (x1 : Int32) (x2 : Int32) (r : Int32) (hf : f_X11_isShort M_g x1 x2 = some (r)) : Met l yX11_isShort wsX11_isShort ({ frames := 0, cells := 0, slots := 0, locals := 0 } : Room) (va_Pc [.ref (a 0), .int x1, .int x2] (wk_B (dC, dI) Y (wX11 Y a M_g M_kept M_saved M_before M_isSaved M_changes M_isWithin M_code M_input M_length M_fault M_failed M_signs M_signMany M_column M_loads M_many M_sums M_groups M_at M_told M_toldMany))) (vp_Si (fun r2 => r2 = r)) 0 0 (fun _ => False) := by
  refine Met.ofW (cc := cX11_isShort) (maxL := 3) (ret := (some .boolean)) (by decide) rfl ?_
  intro p e s m args below meth c s₁ B hml hv
  obtain ⟨rfl, hP, hK⟩ := hv
  have hx := B.exec
  have hb := B.bytes
  have hr := B.returns
  have hts := atoms_spec (ws := wsX11_isShort) B.pre
  have hown : s.vm.findClass RX11 = some m.cls := findClass_of_methodNamed B.named
  have hlocks := B.notSynchronized
  have C0 : wk_C p s m _ meth c cX11_isShort 3 (some .boolean) wsX11_isShort RX11 := ⟨hx, hb, hml, hr, hlocks, hown, hts⟩
  have hP : va_P (dC, dI) vwCl [(a 0, .inr (11, [.ref (a 1), .ref (a 2), .ref (a 3), .ref (a 4), .int M_isSaved, .int M_changes, .int M_isWithin, .int M_code, .ref (a 5), .int M_length, .int M_fault, .int M_failed, .ref (a 6), .int M_signMany, .ref (a 7), .ref (a 8), .int M_many, .ref (a 9), .ref (a 10), .int M_at, .ref (a 11), .int M_toldMany])), (a 1, .inl (Y 0, 238, .inl M_g)), (a 2, .inl (Y 0, 1904, .inl M_kept)), (a 3, .inl (Y 0, 238, .inl M_saved)), (a 4, .inl (Y 0, 238, .inl M_before)), (a 5, .inl (Y 0, 60, .inl M_input)), (a 6, .inl (Y 2, 100, .inl M_signs)), (a 7, .inl (Y 0, 6, .inl M_column)), (a 8, .inl (Y 0, 6, .inl M_loads)), (a 9, .inl (Y 0, 2048, .inl M_sums)), (a 10, .inl (Y 0, 2048, .inl M_groups)), (a 11, .inl (Y 0, 155, .inl M_told))] s.heap := hP
  have hl := lv_entry ([.ref (a 0), .int x1, .int x2]) (n := 3) (Nat.le_of_ble_eq_true rfl)
  rw [lg_entry_eq]
  generalize (lg_sl ([.ref (a 0), .int x1, .int x2]) ++ List.replicate (3 - (lg_sl ([.ref (a 0), .int x1, .int x2])).length) Slot.unset).toArray = ls at hl ⊢
  have hl : lv_has ls 3 [(0, .ref (a 0)), (1, .int x1), (2, .int x2)] := hl
  rw [f_X11_isShort] at hf
  refine lv_iload_n hx hb dX11_isShort_0 rfl (lv_at hl 1 rfl) ?_
  refine lv_if_eq (tgt := 9) hx hb dX11_isShort_1 (by decide) (fun q1 => ?_) (fun q1 => ?_)
  · have hf := wk_t hf q1
    refine lv_aload_n hx hb dX11_isShort_9 rfl (lv_at hl 0 rfl) ?_
    refine va_get (D := (dC, dI)) (ci := 11) (v := .ref (a 1)) (C := RX11) (T := TX11) (N := 22) hx hb hts in_X11_isShort_X11 hown hK hP 0 rfl rfl 0 (by decide) (hts _ lk_X11_isShort_RX11_7) (fun _ h9 => h9) rfl dX11_isShort_10 ?_
    refine lv_bipush (v := 36) hx hb dX11_isShort_13 (by decide) ?_
    refine lv_iload_n hx hb dX11_isShort_15 rfl (lv_at hl 1 rfl) ?_
    refine lv_iadd hx hb dX11_isShort_16 ?_
    obtain ⟨h2, hf⟩ := gin_s hf
    refine wk_iald hx hb hK hP 1 0 rfl rfl h2 rfl dX11_isShort_17 ?_
    refine lv_iload_n hx hb dX11_isShort_18 rfl (lv_at hl 2 rfl) ?_
    refine lv_icmp_ge (tgt := 26) hx hb dX11_isShort_19 (by decide) (fun q3 => ?_) (fun q3 => ?_)
    · have hf := wk_t hf q3
      refine lv_iconst (v := 0) hx hb dX11_isShort_26 (by decide) ?_
      have e0 := wke1 hf
      subst e0
      exact W.zret (v := 0) (ty := .boolean) hx hb hr rfl (fun t ht hW => ⟨0, rfl, rfl, ht⟩) (fun q h => absurd h List.not_mem_nil) dX11_isShort_27
    · have hf := wk_f hf q3
      refine lv_iconst (v := 1) hx hb dX11_isShort_22 (by decide) ?_
      refine lv_goto (tgt := 27) hx hb dX11_isShort_23 (by decide) ?_
      have e0 := wke1 hf
      subst e0
      exact W.zret (v := 1) (ty := .boolean) hx hb hr rfl (fun t ht hW => ⟨1, rfl, rfl, ht⟩) (fun q h => absurd h List.not_mem_nil) dX11_isShort_27
  · have hf := wk_f hf q1
    refine lv_iload_n hx hb dX11_isShort_4 rfl (lv_at hl 1 rfl) ?_
    refine lv_iconst (v := 1) hx hb dX11_isShort_5 (by decide) ?_
    refine lv_icmp_ne (tgt := 26) hx hb dX11_isShort_6 (by decide) (fun q4 => ?_) (fun q4 => ?_)
    · have hf := wk_f hf q4
      refine lv_iconst (v := 0) hx hb dX11_isShort_26 (by decide) ?_
      have e0 := wke1 hf
      subst e0
      exact W.zret (v := 0) (ty := .boolean) hx hb hr rfl (fun t ht hW => ⟨0, rfl, rfl, ht⟩) (fun q h => absurd h List.not_mem_nil) dX11_isShort_27
    · have hf := wk_t hf q4
      refine lv_aload_n hx hb dX11_isShort_9 rfl (lv_at hl 0 rfl) ?_
      refine va_get (D := (dC, dI)) (ci := 11) (v := .ref (a 1)) (C := RX11) (T := TX11) (N := 22) hx hb hts in_X11_isShort_X11 hown hK hP 0 rfl rfl 0 (by decide) (hts _ lk_X11_isShort_RX11_7) (fun _ h9 => h9) rfl dX11_isShort_10 ?_
      refine lv_bipush (v := 36) hx hb dX11_isShort_13 (by decide) ?_
      refine lv_iload_n hx hb dX11_isShort_15 rfl (lv_at hl 1 rfl) ?_
      refine lv_iadd hx hb dX11_isShort_16 ?_
      obtain ⟨h5, hf⟩ := gin_s hf
      refine wk_iald hx hb hK hP 1 0 rfl rfl h5 rfl dX11_isShort_17 ?_
      refine lv_iload_n hx hb dX11_isShort_18 rfl (lv_at hl 2 rfl) ?_
      refine lv_icmp_ge (tgt := 26) hx hb dX11_isShort_19 (by decide) (fun q6 => ?_) (fun q6 => ?_)
      · have hf := wk_t hf q6
        refine lv_iconst (v := 0) hx hb dX11_isShort_26 (by decide) ?_
        have e0 := wke1 hf
        subst e0
        exact W.zret (v := 0) (ty := .boolean) hx hb hr rfl (fun t ht hW => ⟨0, rfl, rfl, ht⟩) (fun q h => absurd h List.not_mem_nil) dX11_isShort_27
      · have hf := wk_f hf q6
        refine lv_iconst (v := 1) hx hb dX11_isShort_22 (by decide) ?_
        refine lv_goto (tgt := 27) hx hb dX11_isShort_23 (by decide) ?_
        have e0 := wke1 hf
        subst e0
        exact W.zret (v := 1) (ty := .boolean) hx hb hr rfl (fun t ht hW => ⟨1, rfl, rfl, ht⟩) (fun q h => absurd h List.not_mem_nil) dX11_isShort_27
theorem lk_X11_post_RX11_7 : Cond.fieldLink RX11 7 "CircusLedgerModel" "g" "[I" ∈ wsX11_post := by decide +kernel
theorem in_X11_post_X11 : ∀ w ∈ u_ws RX11 TX11 22, w ∈ wsX11_post := by decide +kernel
def f_X11_post_L70 (M_isWithin : Int32) (x1 : Int32) (x2 : Int32) (x3 : Int32) (y0 : Int32) (M_g : (Nat → Int32)) (M_kept : (Nat → Int32)) (M_changes : Int32) (M_code : Int32) : Option (Int32 × (Nat → Int32) × (Nat → Int32) × Int32 × Int32) :=
    wkb2 (f_X11_fails M_code y0) (fun r1 w2 =>
    if r1 = 0 then
      (wkb3 (f_X11_keeps_g M_g M_kept M_changes M_isWithin w2) (fun w5 w6 w7 =>
      wkb1 (f_X11_books M_g x1 x2 x3) (fun w9 =>
      some (((w9 3) - 1), w9, w5, w6, w7))))
    else
      (some (0, M_g, M_kept, M_changes, w2)))
def f_X11_post_L17 (M_isWithin : Int32) (x1 : Int32) (x2 : Int32) (x3 : Int32) (M_g : (Nat → Int32)) (M_kept : (Nat → Int32)) (M_changes : Int32) (M_code : Int32) : Option (Int32 × (Nat → Int32) × (Nat → Int32) × Int32 × Int32) :=
    f_X11_post_L70 M_isWithin x1 x2 x3 1 M_g M_kept M_changes M_code
def f_X11_post_L37 (M_isWithin : Int32) (x1 : Int32) (x2 : Int32) (x3 : Int32) (M_g : (Nat → Int32)) (M_kept : (Nat → Int32)) (M_changes : Int32) (M_code : Int32) : Option (Int32 × (Nat → Int32) × (Nat → Int32) × Int32 × Int32) :=
    f_X11_post_L70 M_isWithin x1 x2 x3 2 M_g M_kept M_changes M_code
def f_X11_post (M_g : Nat → Int32) (M_kept : Nat → Int32) (M_changes : Int32) (M_isWithin : Int32) (M_code : Int32) (x1 : Int32) (x2 : Int32) (x3 : Int32) : Option (Int32 × (Nat → Int32) × (Nat → Int32) × Int32 × Int32) :=
  wkb1 (f_X11_isAccount M_g x1) (fun r1 =>
  if r1 = 0 then
    (f_X11_post_L17 M_isWithin x1 x2 x3 M_g M_kept M_changes M_code)
  else
    (wkb1 (f_X11_isAccount M_g x2) (fun r4 =>
    if r4 = 0 then
      (f_X11_post_L17 M_isWithin x1 x2 x3 M_g M_kept M_changes M_code)
    else
      (if x1 = x2 then
        (f_X11_post_L37 M_isWithin x1 x2 x3 M_g M_kept M_changes M_code)
      else
        (wkb1 (f_X11_in x3 1 9999) (fun r8 =>
        if r8 = 0 then
          (f_X11_post_L37 M_isWithin x1 x2 x3 M_g M_kept M_changes M_code)
        else
          (if (M_g 3) = 60 then
            (f_X11_post_L70 M_isWithin x1 x2 x3 3 M_g M_kept M_changes M_code)
          else
            (wkb1 (f_X11_isShort M_g x2 x3) (fun r12 =>
            if r12 = 0 then
              (f_X11_post_L70 M_isWithin x1 x2 x3 0 M_g M_kept M_changes M_code)
            else
              (f_X11_post_L70 M_isWithin x1 x2 x3 4 M_g M_kept M_changes M_code))))))))))
set_option maxHeartbeats 4000000 in
set_option maxRecDepth 100000 in
theorem wl_X11_post_L70 {p : Program} {l : Launch} {e : Env} {s : State} {m : MethodId} {args : Array Value} {below : List Frame} {meth : Method} {c : Code} {dC : Nat → ClassId} {dI : Nat → Nat → Nat} {Y : Nat → ClassId} {a : Nat → Nat} {M_saved : Nat → Int32} {M_before : Nat → Int32} {M_isSaved : Int32} {M_isWithin : Int32} {M_input : Nat → Int32} {M_length : Int32} {M_fault : Int32} {M_failed : Int32} {M_signs : Nat → Int32} {M_signMany : Int32} {M_column : Nat → Int32} {M_loads : Nat → Int32} {M_many : Int32} {M_sums : Nat → Int32} {M_groups : Nat → Int32} {M_at : Int32} {M_told : Nat → Int32} {M_toldMany : Int32} {x1 : Int32} {x2 : Int32} {x3 : Int32} {r : Int32} {zM_g : Nat → Int32} {zM_kept : Nat → Int32} {zM_changes : Int32} {zM_code : Int32}  (C0 : wk_C p s m args meth c cX11_post 4 (some .int) wsX11_post RX11) {A : Nat → Prop} (hK : va_K (dC, dI) vwCl (vTy Y) s) (hA : ∀ q, s.heap.size ≤ q → A q) : ∀  (y0 : Int32) (M_g : Nat → Int32) (M_kept : Nat → Int32) (M_changes : Int32) (M_code : Int32), f_X11_post_L70 M_isWithin x1 x2 x3 y0 M_g M_kept M_changes M_code = some (r, zM_g, zM_kept, zM_changes, zM_code) → ∀ (H : Heap) (locs : List Loc), va_P (dC, dI) vwCl (wX11 Y a M_g M_kept M_saved M_before M_isSaved M_changes M_isWithin M_code M_input M_length M_fault M_failed M_signs M_signMany M_column M_loads M_many M_sums M_groups M_at M_told M_toldMany) H → va_D A (wX11 Y a M_g M_kept M_saved M_before M_isSaved M_changes M_isWithin M_code M_input M_length M_fault M_failed M_signs M_signMany M_column M_loads M_many M_sums M_groups M_at M_told M_toldMany) → va_S A s.heap H locs → ∀ (ls : Array Slot), lv_has ls 4 [(0, .ref (a 0)), (1, .int x1), (2, .int x2), (3, .int x3)] → W p l e (headSpec wsX11_post ({ frames := 2, cells := 0, slots := 0, locals := 46 } : Room)).room s m args below meth c H locs 0 0 (MQ below (va_Qi (fun r2 (_ : Unit) => r2 = r) (fun _ t => wk_X (dC, dI) Y (wX11 Y a zM_g zM_kept M_saved M_before M_isSaved zM_changes M_isWithin zM_code M_input M_length M_fault M_failed M_signs M_signMany M_column M_loads M_many M_sums M_groups M_at M_told M_toldMany) A t) A) args s 0 0 A) (F0 m 70 ls [.int y0, .ref (a 0)]) := by
  obtain ⟨hx, hb, hml, hr, hlocks, hown, hts⟩ := id C0
  intro y0 M_g M_kept M_changes M_code hf H locs hP hD hS ls hl
  rw [f_X11_post_L70] at hf
  have hP : va_P (dC, dI) vwCl [(a 0, .inr (11, [.ref (a 1), .ref (a 2), .ref (a 3), .ref (a 4), .int M_isSaved, .int M_changes, .int M_isWithin, .int M_code, .ref (a 5), .int M_length, .int M_fault, .int M_failed, .ref (a 6), .int M_signMany, .ref (a 7), .ref (a 8), .int M_many, .ref (a 9), .ref (a 10), .int M_at, .ref (a 11), .int M_toldMany])), (a 1, .inl (Y 0, 238, .inl M_g)), (a 2, .inl (Y 0, 1904, .inl M_kept)), (a 3, .inl (Y 0, 238, .inl M_saved)), (a 4, .inl (Y 0, 238, .inl M_before)), (a 5, .inl (Y 0, 60, .inl M_input)), (a 6, .inl (Y 2, 100, .inl M_signs)), (a 7, .inl (Y 0, 6, .inl M_column)), (a 8, .inl (Y 0, 6, .inl M_loads)), (a 9, .inl (Y 0, 2048, .inl M_sums)), (a 10, .inl (Y 0, 2048, .inl M_groups)), (a 11, .inl (Y 0, 155, .inl M_told))] H := hP
  have hD : va_D A [(a 0, .inr (11, [.ref (a 1), .ref (a 2), .ref (a 3), .ref (a 4), .int M_isSaved, .int M_changes, .int M_isWithin, .int M_code, .ref (a 5), .int M_length, .int M_fault, .int M_failed, .ref (a 6), .int M_signMany, .ref (a 7), .ref (a 8), .int M_many, .ref (a 9), .ref (a 10), .int M_at, .ref (a 11), .int M_toldMany])), (a 1, .inl (Y 0, 238, .inl M_g)), (a 2, .inl (Y 0, 1904, .inl M_kept)), (a 3, .inl (Y 0, 238, .inl M_saved)), (a 4, .inl (Y 0, 238, .inl M_before)), (a 5, .inl (Y 0, 60, .inl M_input)), (a 6, .inl (Y 2, 100, .inl M_signs)), (a 7, .inl (Y 0, 6, .inl M_column)), (a 8, .inl (Y 0, 6, .inl M_loads)), (a 9, .inl (Y 0, 2048, .inl M_sums)), (a 10, .inl (Y 0, 2048, .inl M_groups)), (a 11, .inl (Y 0, 155, .inl M_told))] := hD
  obtain ⟨r1, w2, hr3, hf⟩ := wkb2_s hf
  refine wk_evi (As := [.int y0]) (rest := []) (wc := (wX11 Y a M_g M_kept M_saved M_before M_isSaved M_changes M_isWithin M_code M_input M_length M_fault M_failed M_signs M_signMany M_column M_loads M_many M_sums M_groups M_at M_told M_toldMany)) (w1 := (wX11 Y a M_g M_kept M_saved M_before M_isSaved M_changes M_isWithin w2 M_input M_length M_fault M_failed M_signs M_signMany M_column M_loads M_many M_sums M_groups M_at M_told M_toldMany)) (wr := []) ⟨hx, hb, hml, hown, hts⟩ (c_X11_fails l dC dI Y a M_g M_kept M_saved M_before M_isSaved M_changes M_isWithin M_code M_input M_length M_fault M_failed M_signs M_signMany M_column M_loads M_many M_sums M_groups M_at M_told M_toldMany y0 H.size r1 w2 hr3) (cwV 1 hts gX11_post_X11_fails rfl rfl rfl (by decide +kernel) ⟨Nat.le_of_ble_eq_true rfl, Nat.le_of_ble_eq_true rfl⟩) hK hP hD hS hA [0, 1, 2, 3, 4, 5, 6, 7, 8, 9, 10, 11] [] rfl rfl (by decide) (by decide) (by decide) (va_recv hK hP (ci := 11) (q0 := 0) rfl rfl) rfl hl.1 rfl (Nat.le_of_ble_eq_true rfl) dX11_post_70 ⟨Nat.le_of_ble_eq_true rfl, Nat.le_of_ble_eq_true rfl⟩ (fun H locs hP hD hS => ?_)
  have hP : va_P (dC, dI) vwCl [(a 0, .inr (11, [.ref (a 1), .ref (a 2), .ref (a 3), .ref (a 4), .int M_isSaved, .int M_changes, .int M_isWithin, .int w2, .ref (a 5), .int M_length, .int M_fault, .int M_failed, .ref (a 6), .int M_signMany, .ref (a 7), .ref (a 8), .int M_many, .ref (a 9), .ref (a 10), .int M_at, .ref (a 11), .int M_toldMany])), (a 1, .inl (Y 0, 238, .inl M_g)), (a 2, .inl (Y 0, 1904, .inl M_kept)), (a 3, .inl (Y 0, 238, .inl M_saved)), (a 4, .inl (Y 0, 238, .inl M_before)), (a 5, .inl (Y 0, 60, .inl M_input)), (a 6, .inl (Y 2, 100, .inl M_signs)), (a 7, .inl (Y 0, 6, .inl M_column)), (a 8, .inl (Y 0, 6, .inl M_loads)), (a 9, .inl (Y 0, 2048, .inl M_sums)), (a 10, .inl (Y 0, 2048, .inl M_groups)), (a 11, .inl (Y 0, 155, .inl M_told))] H := hP
  have hD : va_D A [(a 0, .inr (11, [.ref (a 1), .ref (a 2), .ref (a 3), .ref (a 4), .int M_isSaved, .int M_changes, .int M_isWithin, .int w2, .ref (a 5), .int M_length, .int M_fault, .int M_failed, .ref (a 6), .int M_signMany, .ref (a 7), .ref (a 8), .int M_many, .ref (a 9), .ref (a 10), .int M_at, .ref (a 11), .int M_toldMany])), (a 1, .inl (Y 0, 238, .inl M_g)), (a 2, .inl (Y 0, 1904, .inl M_kept)), (a 3, .inl (Y 0, 238, .inl M_saved)), (a 4, .inl (Y 0, 238, .inl M_before)), (a 5, .inl (Y 0, 60, .inl M_input)), (a 6, .inl (Y 2, 100, .inl M_signs)), (a 7, .inl (Y 0, 6, .inl M_column)), (a 8, .inl (Y 0, 6, .inl M_loads)), (a 9, .inl (Y 0, 2048, .inl M_sums)), (a 10, .inl (Y 0, 2048, .inl M_groups)), (a 11, .inl (Y 0, 155, .inl M_told))] := hD
  refine lv_if_eq (tgt := 78) hx hb dX11_post_73 (by decide) (fun q4 => ?_) (fun q4 => ?_)
  · have hf := wk_t hf q4
    refine lv_aload_n hx hb dX11_post_78 rfl (lv_at hl 0 rfl) ?_
    refine lv_aload_n hx hb dX11_post_79 rfl (lv_at hl 0 rfl) ?_
    refine va_get (D := (dC, dI)) (ci := 11) (v := .ref (a 1)) (C := RX11) (T := TX11) (N := 22) hx hb hts in_X11_post_X11 hown hK hP 0 rfl rfl 0 (by decide) (hts _ lk_X11_post_RX11_7) (fun _ h9 => h9) rfl dX11_post_80 ?_
    obtain ⟨w5, w6, w7, hr8, hf⟩ := wkb3_s hf
    refine wk_evv (As := [.ref (a 1)]) (rest := []) (wc := (wX11 Y a M_g M_kept M_saved M_before M_isSaved M_changes M_isWithin w2 M_input M_length M_fault M_failed M_signs M_signMany M_column M_loads M_many M_sums M_groups M_at M_told M_toldMany)) (w1 := (wX11 Y a M_g w5 M_saved M_before M_isSaved w6 M_isWithin w7 M_input M_length M_fault M_failed M_signs M_signMany M_column M_loads M_many M_sums M_groups M_at M_told M_toldMany)) (wr := []) ⟨hx, hb, hml, hown, hts⟩ (c_X11_keeps_g l dC dI Y a M_g M_kept M_saved M_before M_isSaved M_changes M_isWithin w2 M_input M_length M_fault M_failed M_signs M_signMany M_column M_loads M_many M_sums M_groups M_at M_told M_toldMany H.size w5 w6 w7 hr8) (cwV 1 hts gX11_post_X11_keeps rfl rfl rfl (by decide +kernel) ⟨Nat.le_of_ble_eq_true rfl, Nat.le_of_ble_eq_true rfl⟩) hK hP hD hS hA [0, 1, 2, 3, 4, 5, 6, 7, 8, 9, 10, 11] [] rfl rfl (by decide) (by decide) (by decide) (va_recv hK hP (ci := 11) (q0 := 0) rfl rfl) rfl hl.1 rfl (Nat.le_of_ble_eq_true rfl) dX11_post_83 ⟨Nat.le_of_ble_eq_true rfl, Nat.le_of_ble_eq_true rfl⟩ (fun H locs hP hD hS => ?_)
    have hP : va_P (dC, dI) vwCl [(a 0, .inr (11, [.ref (a 1), .ref (a 2), .ref (a 3), .ref (a 4), .int M_isSaved, .int w6, .int M_isWithin, .int w7, .ref (a 5), .int M_length, .int M_fault, .int M_failed, .ref (a 6), .int M_signMany, .ref (a 7), .ref (a 8), .int M_many, .ref (a 9), .ref (a 10), .int M_at, .ref (a 11), .int M_toldMany])), (a 1, .inl (Y 0, 238, .inl M_g)), (a 2, .inl (Y 0, 1904, .inl w5)), (a 3, .inl (Y 0, 238, .inl M_saved)), (a 4, .inl (Y 0, 238, .inl M_before)), (a 5, .inl (Y 0, 60, .inl M_input)), (a 6, .inl (Y 2, 100, .inl M_signs)), (a 7, .inl (Y 0, 6, .inl M_column)), (a 8, .inl (Y 0, 6, .inl M_loads)), (a 9, .inl (Y 0, 2048, .inl M_sums)), (a 10, .inl (Y 0, 2048, .inl M_groups)), (a 11, .inl (Y 0, 155, .inl M_told))] H := hP
    have hD : va_D A [(a 0, .inr (11, [.ref (a 1), .ref (a 2), .ref (a 3), .ref (a 4), .int M_isSaved, .int w6, .int M_isWithin, .int w7, .ref (a 5), .int M_length, .int M_fault, .int M_failed, .ref (a 6), .int M_signMany, .ref (a 7), .ref (a 8), .int M_many, .ref (a 9), .ref (a 10), .int M_at, .ref (a 11), .int M_toldMany])), (a 1, .inl (Y 0, 238, .inl M_g)), (a 2, .inl (Y 0, 1904, .inl w5)), (a 3, .inl (Y 0, 238, .inl M_saved)), (a 4, .inl (Y 0, 238, .inl M_before)), (a 5, .inl (Y 0, 60, .inl M_input)), (a 6, .inl (Y 2, 100, .inl M_signs)), (a 7, .inl (Y 0, 6, .inl M_column)), (a 8, .inl (Y 0, 6, .inl M_loads)), (a 9, .inl (Y 0, 2048, .inl M_sums)), (a 10, .inl (Y 0, 2048, .inl M_groups)), (a 11, .inl (Y 0, 155, .inl M_told))] := hD
    refine lv_aload_n hx hb dX11_post_86 rfl (lv_at hl 0 rfl) ?_
    refine lv_iload_n hx hb dX11_post_87 rfl (lv_at hl 1 rfl) ?_
    refine lv_iload_n hx hb dX11_post_88 rfl (lv_at hl 2 rfl) ?_
    refine lv_iload_n hx hb dX11_post_89 rfl (lv_at hl 3 rfl) ?_
    obtain ⟨w9, hr10, hf⟩ := wkb1_s hf
    refine wk_evv (As := [.int x1, .int x2, .int x3]) (rest := []) (wc := (wX11 Y a M_g w5 M_saved M_before M_isSaved w6 M_isWithin w7 M_input M_length M_fault M_failed M_signs M_signMany M_column M_loads M_many M_sums M_groups M_at M_told M_toldMany)) (w1 := (wX11 Y a w9 w5 M_saved M_before M_isSaved w6 M_isWithin w7 M_input M_length M_fault M_failed M_signs M_signMany M_column M_loads M_many M_sums M_groups M_at M_told M_toldMany)) (wr := []) ⟨hx, hb, hml, hown, hts⟩ (c_X11_books l dC dI Y a M_g w5 M_saved M_before M_isSaved w6 M_isWithin w7 M_input M_length M_fault M_failed M_signs M_signMany M_column M_loads M_many M_sums M_groups M_at M_told M_toldMany x1 x2 x3 H.size w9 hr10) (cwV 3 hts gX11_post_X11_books rfl rfl rfl (by decide +kernel) ⟨Nat.le_of_ble_eq_true rfl, Nat.le_of_ble_eq_true rfl⟩) hK hP hD hS hA [0, 1, 2, 3, 4, 5, 6, 7, 8, 9, 10, 11] [] rfl rfl (by decide) (by decide) (by decide) (va_recv hK hP (ci := 11) (q0 := 0) rfl rfl) rfl hl.1 rfl (Nat.le_of_ble_eq_true rfl) dX11_post_90 ⟨Nat.le_of_ble_eq_true rfl, Nat.le_of_ble_eq_true rfl⟩ (fun H locs hP hD hS => ?_)
    have hP : va_P (dC, dI) vwCl [(a 0, .inr (11, [.ref (a 1), .ref (a 2), .ref (a 3), .ref (a 4), .int M_isSaved, .int w6, .int M_isWithin, .int w7, .ref (a 5), .int M_length, .int M_fault, .int M_failed, .ref (a 6), .int M_signMany, .ref (a 7), .ref (a 8), .int M_many, .ref (a 9), .ref (a 10), .int M_at, .ref (a 11), .int M_toldMany])), (a 1, .inl (Y 0, 238, .inl w9)), (a 2, .inl (Y 0, 1904, .inl w5)), (a 3, .inl (Y 0, 238, .inl M_saved)), (a 4, .inl (Y 0, 238, .inl M_before)), (a 5, .inl (Y 0, 60, .inl M_input)), (a 6, .inl (Y 2, 100, .inl M_signs)), (a 7, .inl (Y 0, 6, .inl M_column)), (a 8, .inl (Y 0, 6, .inl M_loads)), (a 9, .inl (Y 0, 2048, .inl M_sums)), (a 10, .inl (Y 0, 2048, .inl M_groups)), (a 11, .inl (Y 0, 155, .inl M_told))] H := hP
    have hD : va_D A [(a 0, .inr (11, [.ref (a 1), .ref (a 2), .ref (a 3), .ref (a 4), .int M_isSaved, .int w6, .int M_isWithin, .int w7, .ref (a 5), .int M_length, .int M_fault, .int M_failed, .ref (a 6), .int M_signMany, .ref (a 7), .ref (a 8), .int M_many, .ref (a 9), .ref (a 10), .int M_at, .ref (a 11), .int M_toldMany])), (a 1, .inl (Y 0, 238, .inl w9)), (a 2, .inl (Y 0, 1904, .inl w5)), (a 3, .inl (Y 0, 238, .inl M_saved)), (a 4, .inl (Y 0, 238, .inl M_before)), (a 5, .inl (Y 0, 60, .inl M_input)), (a 6, .inl (Y 2, 100, .inl M_signs)), (a 7, .inl (Y 0, 6, .inl M_column)), (a 8, .inl (Y 0, 6, .inl M_loads)), (a 9, .inl (Y 0, 2048, .inl M_sums)), (a 10, .inl (Y 0, 2048, .inl M_groups)), (a 11, .inl (Y 0, 155, .inl M_told))] := hD
    refine lv_aload_n hx hb dX11_post_93 rfl (lv_at hl 0 rfl) ?_
    refine va_get (D := (dC, dI)) (ci := 11) (v := .ref (a 1)) (C := RX11) (T := TX11) (N := 22) hx hb hts in_X11_post_X11 hown hK hP 0 rfl rfl 0 (by decide) (hts _ lk_X11_post_RX11_7) (fun _ h9 => h9) rfl dX11_post_94 ?_
    refine lv_iconst (v := 3) hx hb dX11_post_97 (by decide) ?_
    refine wk_iald hx hb hK hP 1 0 (k := 3) rfl rfl (vp_lit (by decide)) (by decide) dX11_post_98 ?_
    refine lv_iconst (v := 1) hx hb dX11_post_99 (by decide) ?_
    refine lv_isub hx hb dX11_post_100 ?_
    obtain ⟨e0, e1, e2, e3, e4⟩ := wke5 hf
    subst e0
    subst e1
    subst e2
    subst e3
    subst e4
    have hP9 := hP.sub (ws' := (wX11 Y a w9 w5 M_saved M_before M_isSaved w6 M_isWithin w7 M_input M_length M_fault M_failed M_signs M_signMany M_column M_loads M_many M_sums M_groups M_at M_told M_toldMany)) [0, 1, 2, 3, 4, 5, 6, 7, 8, 9, 10, 11] rfl
    have hD9 := hD.sub (ws' := (wX11 Y a w9 w5 M_saved M_before M_isSaved w6 M_isWithin w7 M_input M_length M_fault M_failed M_signs M_signMany M_column M_loads M_many M_sums M_groups M_at M_told M_toldMany)) [0, 1, 2, 3, 4, 5, 6, 7, 8, 9, 10, 11] (by decide) rfl
    exact W.iret (v := ((w9 3) - 1)) hx hb hr (fun t ht hW => ⟨⟨((w9 3) - 1), (), rfl, rfl, by rw [ht]; exact hP9, va_K.moved hW.alike hK, hD9⟩, hS.F ht⟩) hS.2.2 dX11_post_101
  · have hf := wk_f hf q4
    refine lv_iconst (v := 0) hx hb dX11_post_76 (by decide) ?_
    obtain ⟨e0, e1, e2, e3, e4⟩ := wke5 hf
    subst e0
    subst e1
    subst e2
    subst e3
    subst e4
    have hP9 := hP.sub (ws' := (wX11 Y a M_g M_kept M_saved M_before M_isSaved M_changes M_isWithin w2 M_input M_length M_fault M_failed M_signs M_signMany M_column M_loads M_many M_sums M_groups M_at M_told M_toldMany)) [0, 1, 2, 3, 4, 5, 6, 7, 8, 9, 10, 11] rfl
    have hD9 := hD.sub (ws' := (wX11 Y a M_g M_kept M_saved M_before M_isSaved M_changes M_isWithin w2 M_input M_length M_fault M_failed M_signs M_signMany M_column M_loads M_many M_sums M_groups M_at M_told M_toldMany)) [0, 1, 2, 3, 4, 5, 6, 7, 8, 9, 10, 11] (by decide) rfl
    exact W.iret (v := 0) hx hb hr (fun t ht hW => ⟨⟨0, (), rfl, rfl, by rw [ht]; exact hP9, va_K.moved hW.alike hK, hD9⟩, hS.F ht⟩) hS.2.2 dX11_post_77
set_option maxHeartbeats 4000000 in
set_option maxRecDepth 100000 in
theorem wl_X11_post_L17 {p : Program} {l : Launch} {e : Env} {s : State} {m : MethodId} {args : Array Value} {below : List Frame} {meth : Method} {c : Code} {dC : Nat → ClassId} {dI : Nat → Nat → Nat} {Y : Nat → ClassId} {a : Nat → Nat} {M_saved : Nat → Int32} {M_before : Nat → Int32} {M_isSaved : Int32} {M_isWithin : Int32} {M_input : Nat → Int32} {M_length : Int32} {M_fault : Int32} {M_failed : Int32} {M_signs : Nat → Int32} {M_signMany : Int32} {M_column : Nat → Int32} {M_loads : Nat → Int32} {M_many : Int32} {M_sums : Nat → Int32} {M_groups : Nat → Int32} {M_at : Int32} {M_told : Nat → Int32} {M_toldMany : Int32} {x1 : Int32} {x2 : Int32} {x3 : Int32} {r : Int32} {zM_g : Nat → Int32} {zM_kept : Nat → Int32} {zM_changes : Int32} {zM_code : Int32}  (C0 : wk_C p s m args meth c cX11_post 4 (some .int) wsX11_post RX11) {A : Nat → Prop} (hK : va_K (dC, dI) vwCl (vTy Y) s) (hA : ∀ q, s.heap.size ≤ q → A q) : ∀   (M_g : Nat → Int32) (M_kept : Nat → Int32) (M_changes : Int32) (M_code : Int32), f_X11_post_L17 M_isWithin x1 x2 x3 M_g M_kept M_changes M_code = some (r, zM_g, zM_kept, zM_changes, zM_code) → ∀ (H : Heap) (locs : List Loc), va_P (dC, dI) vwCl (wX11 Y a M_g M_kept M_saved M_before M_isSaved M_changes M_isWithin M_code M_input M_length M_fault M_failed M_signs M_signMany M_column M_loads M_many M_sums M_groups M_at M_told M_toldMany) H → va_D A (wX11 Y a M_g M_kept M_saved M_before M_isSaved M_changes M_isWithin M_code M_input M_length M_fault M_failed M_signs M_signMany M_column M_loads M_many M_sums M_groups M_at M_told M_toldMany) → va_S A s.heap H locs → ∀ (ls : Array Slot), lv_has ls 4 [(0, .ref (a 0)), (1, .int x1), (2, .int x2), (3, .int x3)] → W p l e (headSpec wsX11_post ({ frames := 2, cells := 0, slots := 0, locals := 46 } : Room)).room s m args below meth c H locs 0 0 (MQ below (va_Qi (fun r2 (_ : Unit) => r2 = r) (fun _ t => wk_X (dC, dI) Y (wX11 Y a zM_g zM_kept M_saved M_before M_isSaved zM_changes M_isWithin zM_code M_input M_length M_fault M_failed M_signs M_signMany M_column M_loads M_many M_sums M_groups M_at M_told M_toldMany) A t) A) args s 0 0 A) (F0 m 17 ls [.ref (a 0)]) := by
  obtain ⟨hx, hb, hml, hr, hlocks, hown, hts⟩ := id C0
  intro M_g M_kept M_changes M_code hf H locs hP hD hS ls hl
  rw [f_X11_post_L17] at hf
  have hP : va_P (dC, dI) vwCl [(a 0, .inr (11, [.ref (a 1), .ref (a 2), .ref (a 3), .ref (a 4), .int M_isSaved, .int M_changes, .int M_isWithin, .int M_code, .ref (a 5), .int M_length, .int M_fault, .int M_failed, .ref (a 6), .int M_signMany, .ref (a 7), .ref (a 8), .int M_many, .ref (a 9), .ref (a 10), .int M_at, .ref (a 11), .int M_toldMany])), (a 1, .inl (Y 0, 238, .inl M_g)), (a 2, .inl (Y 0, 1904, .inl M_kept)), (a 3, .inl (Y 0, 238, .inl M_saved)), (a 4, .inl (Y 0, 238, .inl M_before)), (a 5, .inl (Y 0, 60, .inl M_input)), (a 6, .inl (Y 2, 100, .inl M_signs)), (a 7, .inl (Y 0, 6, .inl M_column)), (a 8, .inl (Y 0, 6, .inl M_loads)), (a 9, .inl (Y 0, 2048, .inl M_sums)), (a 10, .inl (Y 0, 2048, .inl M_groups)), (a 11, .inl (Y 0, 155, .inl M_told))] H := hP
  have hD : va_D A [(a 0, .inr (11, [.ref (a 1), .ref (a 2), .ref (a 3), .ref (a 4), .int M_isSaved, .int M_changes, .int M_isWithin, .int M_code, .ref (a 5), .int M_length, .int M_fault, .int M_failed, .ref (a 6), .int M_signMany, .ref (a 7), .ref (a 8), .int M_many, .ref (a 9), .ref (a 10), .int M_at, .ref (a 11), .int M_toldMany])), (a 1, .inl (Y 0, 238, .inl M_g)), (a 2, .inl (Y 0, 1904, .inl M_kept)), (a 3, .inl (Y 0, 238, .inl M_saved)), (a 4, .inl (Y 0, 238, .inl M_before)), (a 5, .inl (Y 0, 60, .inl M_input)), (a 6, .inl (Y 2, 100, .inl M_signs)), (a 7, .inl (Y 0, 6, .inl M_column)), (a 8, .inl (Y 0, 6, .inl M_loads)), (a 9, .inl (Y 0, 2048, .inl M_sums)), (a 10, .inl (Y 0, 2048, .inl M_groups)), (a 11, .inl (Y 0, 155, .inl M_told))] := hD
  refine lv_iconst (v := 1) hx hb dX11_post_17 (by decide) ?_
  refine lv_goto (tgt := 70) hx hb dX11_post_18 (by decide) ?_
  exact wl_X11_post_L70 C0 hK hA 1 M_g M_kept M_changes M_code hf H locs hP hD hS ls (lv_sub hl [0, 1, 2, 3] rfl)
set_option maxHeartbeats 4000000 in
set_option maxRecDepth 100000 in
theorem wl_X11_post_L37 {p : Program} {l : Launch} {e : Env} {s : State} {m : MethodId} {args : Array Value} {below : List Frame} {meth : Method} {c : Code} {dC : Nat → ClassId} {dI : Nat → Nat → Nat} {Y : Nat → ClassId} {a : Nat → Nat} {M_saved : Nat → Int32} {M_before : Nat → Int32} {M_isSaved : Int32} {M_isWithin : Int32} {M_input : Nat → Int32} {M_length : Int32} {M_fault : Int32} {M_failed : Int32} {M_signs : Nat → Int32} {M_signMany : Int32} {M_column : Nat → Int32} {M_loads : Nat → Int32} {M_many : Int32} {M_sums : Nat → Int32} {M_groups : Nat → Int32} {M_at : Int32} {M_told : Nat → Int32} {M_toldMany : Int32} {x1 : Int32} {x2 : Int32} {x3 : Int32} {r : Int32} {zM_g : Nat → Int32} {zM_kept : Nat → Int32} {zM_changes : Int32} {zM_code : Int32}  (C0 : wk_C p s m args meth c cX11_post 4 (some .int) wsX11_post RX11) {A : Nat → Prop} (hK : va_K (dC, dI) vwCl (vTy Y) s) (hA : ∀ q, s.heap.size ≤ q → A q) : ∀   (M_g : Nat → Int32) (M_kept : Nat → Int32) (M_changes : Int32) (M_code : Int32), f_X11_post_L37 M_isWithin x1 x2 x3 M_g M_kept M_changes M_code = some (r, zM_g, zM_kept, zM_changes, zM_code) → ∀ (H : Heap) (locs : List Loc), va_P (dC, dI) vwCl (wX11 Y a M_g M_kept M_saved M_before M_isSaved M_changes M_isWithin M_code M_input M_length M_fault M_failed M_signs M_signMany M_column M_loads M_many M_sums M_groups M_at M_told M_toldMany) H → va_D A (wX11 Y a M_g M_kept M_saved M_before M_isSaved M_changes M_isWithin M_code M_input M_length M_fault M_failed M_signs M_signMany M_column M_loads M_many M_sums M_groups M_at M_told M_toldMany) → va_S A s.heap H locs → ∀ (ls : Array Slot), lv_has ls 4 [(0, .ref (a 0)), (1, .int x1), (2, .int x2), (3, .int x3)] → W p l e (headSpec wsX11_post ({ frames := 2, cells := 0, slots := 0, locals := 46 } : Room)).room s m args below meth c H locs 0 0 (MQ below (va_Qi (fun r2 (_ : Unit) => r2 = r) (fun _ t => wk_X (dC, dI) Y (wX11 Y a zM_g zM_kept M_saved M_before M_isSaved zM_changes M_isWithin zM_code M_input M_length M_fault M_failed M_signs M_signMany M_column M_loads M_many M_sums M_groups M_at M_told M_toldMany) A t) A) args s 0 0 A) (F0 m 37 ls [.ref (a 0)]) := by
  obtain ⟨hx, hb, hml, hr, hlocks, hown, hts⟩ := id C0
  intro M_g M_kept M_changes M_code hf H locs hP hD hS ls hl
  rw [f_X11_post_L37] at hf
  have hP : va_P (dC, dI) vwCl [(a 0, .inr (11, [.ref (a 1), .ref (a 2), .ref (a 3), .ref (a 4), .int M_isSaved, .int M_changes, .int M_isWithin, .int M_code, .ref (a 5), .int M_length, .int M_fault, .int M_failed, .ref (a 6), .int M_signMany, .ref (a 7), .ref (a 8), .int M_many, .ref (a 9), .ref (a 10), .int M_at, .ref (a 11), .int M_toldMany])), (a 1, .inl (Y 0, 238, .inl M_g)), (a 2, .inl (Y 0, 1904, .inl M_kept)), (a 3, .inl (Y 0, 238, .inl M_saved)), (a 4, .inl (Y 0, 238, .inl M_before)), (a 5, .inl (Y 0, 60, .inl M_input)), (a 6, .inl (Y 2, 100, .inl M_signs)), (a 7, .inl (Y 0, 6, .inl M_column)), (a 8, .inl (Y 0, 6, .inl M_loads)), (a 9, .inl (Y 0, 2048, .inl M_sums)), (a 10, .inl (Y 0, 2048, .inl M_groups)), (a 11, .inl (Y 0, 155, .inl M_told))] H := hP
  have hD : va_D A [(a 0, .inr (11, [.ref (a 1), .ref (a 2), .ref (a 3), .ref (a 4), .int M_isSaved, .int M_changes, .int M_isWithin, .int M_code, .ref (a 5), .int M_length, .int M_fault, .int M_failed, .ref (a 6), .int M_signMany, .ref (a 7), .ref (a 8), .int M_many, .ref (a 9), .ref (a 10), .int M_at, .ref (a 11), .int M_toldMany])), (a 1, .inl (Y 0, 238, .inl M_g)), (a 2, .inl (Y 0, 1904, .inl M_kept)), (a 3, .inl (Y 0, 238, .inl M_saved)), (a 4, .inl (Y 0, 238, .inl M_before)), (a 5, .inl (Y 0, 60, .inl M_input)), (a 6, .inl (Y 2, 100, .inl M_signs)), (a 7, .inl (Y 0, 6, .inl M_column)), (a 8, .inl (Y 0, 6, .inl M_loads)), (a 9, .inl (Y 0, 2048, .inl M_sums)), (a 10, .inl (Y 0, 2048, .inl M_groups)), (a 11, .inl (Y 0, 155, .inl M_told))] := hD
  refine lv_iconst (v := 2) hx hb dX11_post_37 (by decide) ?_
  refine lv_goto (tgt := 70) hx hb dX11_post_38 (by decide) ?_
  exact wl_X11_post_L70 C0 hK hA 2 M_g M_kept M_changes M_code hf H locs hP hD hS ls (lv_sub hl [0, 1, 2, 3] rfl)
set_option maxHeartbeats 4000000 in
set_option maxRecDepth 100000 in
theorem c_X11_post (l : Launch) (dC : Nat → ClassId) (dI : Nat → Nat → Nat) (Y : Nat → ClassId) (a : Nat → Nat) (M_g : Nat → Int32) (M_kept : Nat → Int32) (M_saved : Nat → Int32) (M_before : Nat → Int32) (M_isSaved : Int32) (M_changes : Int32) (M_isWithin : Int32) (M_code : Int32) (M_input : Nat → Int32) (M_length : Int32) (M_fault : Int32) (M_failed : Int32) (M_signs : Nat → Int32) (M_signMany : Int32) (M_column : Nat → Int32) (M_loads : Nat → Int32) (M_many : Int32) (M_sums : Nat → Int32) (M_groups : Nat → Int32) (M_at : Int32) (M_told : Nat → Int32) (M_toldMany : Int32) (x1 : Int32) (x2 : Int32) (x3 : Int32) (sz : Nat) (r : Int32) (zM_g : Nat → Int32) (zM_kept : Nat → Int32) (zM_changes : Int32) (zM_code : Int32) (hf : f_X11_post M_g M_kept M_changes M_isWithin M_code x1 x2 x3 = some (r, zM_g, zM_kept, zM_changes, zM_code)) : Met l yX11_post wsX11_post ({ frames := 2, cells := 0, slots := 0, locals := 46 } : Room) (va_Pc [.ref (a 0), .int x1, .int x2, .int x3] (wk_E (dC, dI) Y (wX11 Y a M_g M_kept M_saved M_before M_isSaved M_changes M_isWithin M_code M_input M_length M_fault M_failed M_signs M_signMany M_column M_loads M_many M_sums M_groups M_at M_told M_toldMany) sz)) (va_Qi (fun r2 (_ : Unit) => r2 = r) (fun _ t => wk_X (dC, dI) Y (wX11 Y a zM_g zM_kept M_saved M_before M_isSaved zM_changes M_isWithin zM_code M_input M_length M_fault M_failed M_signs M_signMany M_column M_loads M_many M_sums M_groups M_at M_told M_toldMany) (va_A (wX11 Y a M_g M_kept M_saved M_before M_isSaved M_changes M_isWithin M_code M_input M_length M_fault M_failed M_signs M_signMany M_column M_loads M_many M_sums M_groups M_at M_told M_toldMany) sz) t) (va_A (wX11 Y a M_g M_kept M_saved M_before M_isSaved M_changes M_isWithin M_code M_input M_length M_fault M_failed M_signs M_signMany M_column M_loads M_many M_sums M_groups M_at M_told M_toldMany) sz)) 0 0 (va_A (wX11 Y a M_g M_kept M_saved M_before M_isSaved M_changes M_isWithin M_code M_input M_length M_fault M_failed M_signs M_signMany M_column M_loads M_many M_sums M_groups M_at M_told M_toldMany) sz) := by
  refine Met.ofW (cc := cX11_post) (maxL := 4) (ret := (some .int)) (by decide) rfl ?_
  intro p e s m args below meth c s₁ B hml hv
  obtain ⟨rfl, hsz, hP, hK, hD0⟩ := hv
  have hx := B.exec
  have hb := B.bytes
  have hr := B.returns
  have hts := atoms_spec (ws := wsX11_post) B.pre
  have hown : s.vm.findClass RX11 = some m.cls := findClass_of_methodNamed B.named
  have hlocks := B.notSynchronized
  have C0 : wk_C p s m _ meth c cX11_post 4 (some .int) wsX11_post RX11 := ⟨hx, hb, hml, hr, hlocks, hown, hts⟩
  subst hsz
  have hD := hD0.self (sz := s.heap.size)
  generalize hAe : va_A (wX11 Y a M_g M_kept M_saved M_before M_isSaved M_changes M_isWithin M_code M_input M_length M_fault M_failed M_signs M_signMany M_column M_loads M_many M_sums M_groups M_at M_told M_toldMany) s.heap.size = A at hD ⊢
  have hA : ∀ q : Nat, s.heap.size ≤ q → A q := fun q h => by rw [← hAe]; exact Or.inr h
  have hS : va_S A s.heap s.heap [] := va_S.rf
  obtain ⟨H, hHe⟩ : ∃ H, H = s.heap := ⟨_, rfl⟩
  have hS : va_S A s.heap H [] := by rw [hHe]; exact hS
  have hP : va_P (dC, dI) vwCl [(a 0, .inr (11, [.ref (a 1), .ref (a 2), .ref (a 3), .ref (a 4), .int M_isSaved, .int M_changes, .int M_isWithin, .int M_code, .ref (a 5), .int M_length, .int M_fault, .int M_failed, .ref (a 6), .int M_signMany, .ref (a 7), .ref (a 8), .int M_many, .ref (a 9), .ref (a 10), .int M_at, .ref (a 11), .int M_toldMany])), (a 1, .inl (Y 0, 238, .inl M_g)), (a 2, .inl (Y 0, 1904, .inl M_kept)), (a 3, .inl (Y 0, 238, .inl M_saved)), (a 4, .inl (Y 0, 238, .inl M_before)), (a 5, .inl (Y 0, 60, .inl M_input)), (a 6, .inl (Y 2, 100, .inl M_signs)), (a 7, .inl (Y 0, 6, .inl M_column)), (a 8, .inl (Y 0, 6, .inl M_loads)), (a 9, .inl (Y 0, 2048, .inl M_sums)), (a 10, .inl (Y 0, 2048, .inl M_groups)), (a 11, .inl (Y 0, 155, .inl M_told))] H := by rw [hHe]; exact hP
  have hD : va_D A [(a 0, .inr (11, [.ref (a 1), .ref (a 2), .ref (a 3), .ref (a 4), .int M_isSaved, .int M_changes, .int M_isWithin, .int M_code, .ref (a 5), .int M_length, .int M_fault, .int M_failed, .ref (a 6), .int M_signMany, .ref (a 7), .ref (a 8), .int M_many, .ref (a 9), .ref (a 10), .int M_at, .ref (a 11), .int M_toldMany])), (a 1, .inl (Y 0, 238, .inl M_g)), (a 2, .inl (Y 0, 1904, .inl M_kept)), (a 3, .inl (Y 0, 238, .inl M_saved)), (a 4, .inl (Y 0, 238, .inl M_before)), (a 5, .inl (Y 0, 60, .inl M_input)), (a 6, .inl (Y 2, 100, .inl M_signs)), (a 7, .inl (Y 0, 6, .inl M_column)), (a 8, .inl (Y 0, 6, .inl M_loads)), (a 9, .inl (Y 0, 2048, .inl M_sums)), (a 10, .inl (Y 0, 2048, .inl M_groups)), (a 11, .inl (Y 0, 155, .inl M_told))] := hD
  obtain ⟨locs, hlo⟩ : ∃ locs : List Loc, locs = [] := ⟨_, rfl⟩
  have hS : va_S A s.heap H locs := by rw [hlo]; exact hS
  have hl := lv_entry ([.ref (a 0), .int x1, .int x2, .int x3]) (n := 4) (Nat.le_of_ble_eq_true rfl)
  rw [lg_entry_eq]
  generalize (lg_sl ([.ref (a 0), .int x1, .int x2, .int x3]) ++ List.replicate (4 - (lg_sl ([.ref (a 0), .int x1, .int x2, .int x3])).length) Slot.unset).toArray = ls at hl ⊢
  have hl : lv_has ls 4 [(0, .ref (a 0)), (1, .int x1), (2, .int x2), (3, .int x3)] := hl
  refine wk_start hHe hlo ?_
  rw [f_X11_post] at hf
  refine lv_aload_n hx hb dX11_post_0 rfl (lv_at hl 0 rfl) ?_
  refine lv_aload_n hx hb dX11_post_1 rfl (lv_at hl 0 rfl) ?_
  refine lv_iload_n hx hb dX11_post_2 rfl (lv_at hl 1 rfl) ?_
  obtain ⟨r1, hr2, hf⟩ := wkb1_s hf
  have hPc := hP.sub (ws' := (wX11 Y a M_g M_kept M_saved M_before M_isSaved M_changes M_isWithin M_code M_input M_length M_fault M_failed M_signs M_signMany M_column M_loads M_many M_sums M_groups M_at M_told M_toldMany)) [0, 1, 2, 3, 4, 5, 6, 7, 8, 9, 10, 11] rfl
  refine wk_vi (As := [.int x1]) (rest := [.ref (a 0)]) ⟨hx, hb, hml, hown, hts⟩ (c_X11_isAccount l dC dI Y a M_g M_kept M_saved M_before M_isSaved M_changes M_isWithin M_code M_input M_length M_fault M_failed M_signs M_signMany M_column M_loads M_many M_sums M_groups M_at M_told M_toldMany x1 r1 hr2) (cwV 1 hts gX11_post_X11_isAccount rfl rfl rfl (by decide +kernel) ⟨Nat.le_of_ble_eq_true rfl, Nat.le_of_ble_eq_true rfl⟩) hK hPc (va_recv hK hP (ci := 11) (q0 := 0) rfl rfl) rfl hl.1 rfl (Nat.le_of_ble_eq_true rfl) dX11_post_3 ⟨Nat.le_of_ble_eq_true rfl, Nat.le_of_ble_eq_true rfl⟩ ?_
  refine lv_if_eq (tgt := 17) hx hb dX11_post_6 (by decide) (fun q3 => ?_) (fun q3 => ?_)
  · have hf := wk_t hf q3
    exact wl_X11_post_L17 C0 hK hA M_g M_kept M_changes M_code hf H locs hP hD hS ls (lv_sub hl [0, 1, 2, 3] rfl)
  · have hf := wk_f hf q3
    refine lv_aload_n hx hb dX11_post_9 rfl (lv_at hl 0 rfl) ?_
    refine lv_iload_n hx hb dX11_post_10 rfl (lv_at hl 2 rfl) ?_
    obtain ⟨r4, hr5, hf⟩ := wkb1_s hf
    have hPc := hP.sub (ws' := (wX11 Y a M_g M_kept M_saved M_before M_isSaved M_changes M_isWithin M_code M_input M_length M_fault M_failed M_signs M_signMany M_column M_loads M_many M_sums M_groups M_at M_told M_toldMany)) [0, 1, 2, 3, 4, 5, 6, 7, 8, 9, 10, 11] rfl
    refine wk_vi (As := [.int x2]) (rest := [.ref (a 0)]) ⟨hx, hb, hml, hown, hts⟩ (c_X11_isAccount l dC dI Y a M_g M_kept M_saved M_before M_isSaved M_changes M_isWithin M_code M_input M_length M_fault M_failed M_signs M_signMany M_column M_loads M_many M_sums M_groups M_at M_told M_toldMany x2 r4 hr5) (cwV 1 hts gX11_post_X11_isAccount rfl rfl rfl (by decide +kernel) ⟨Nat.le_of_ble_eq_true rfl, Nat.le_of_ble_eq_true rfl⟩) hK hPc (va_recv hK hP (ci := 11) (q0 := 0) rfl rfl) rfl hl.1 rfl (Nat.le_of_ble_eq_true rfl) dX11_post_11 ⟨Nat.le_of_ble_eq_true rfl, Nat.le_of_ble_eq_true rfl⟩ ?_
    refine lv_if_ne (tgt := 21) hx hb dX11_post_14 (by decide) (fun q6 => ?_) (fun q6 => ?_)
    · have hf := wk_f hf q6
      refine lv_iload_n hx hb dX11_post_21 rfl (lv_at hl 1 rfl) ?_
      refine lv_iload_n hx hb dX11_post_22 rfl (lv_at hl 2 rfl) ?_
      refine lv_icmp_eq (tgt := 37) hx hb dX11_post_23 (by decide) (fun q7 => ?_) (fun q7 => ?_)
      · have hf := wk_t hf q7
        exact wl_X11_post_L37 C0 hK hA M_g M_kept M_changes M_code hf H locs hP hD hS ls (lv_sub hl [0, 1, 2, 3] rfl)
      · have hf := wk_f hf q7
        refine lv_iload_n hx hb dX11_post_26 rfl (lv_at hl 3 rfl) ?_
        refine lv_iconst (v := 1) hx hb dX11_post_27 (by decide) ?_
        refine lv_sipush (v := 9999) hx hb dX11_post_28 (by decide) ?_
        obtain ⟨r8, hr9, hf⟩ := wkb1_s hf
        have hPc := hP.sub (ws' := ([] : va_W)) [] rfl
        refine wk_si (As := [.int x3, .int 1, .int 9999]) (rest := [.ref (a 0)]) ⟨hx, hb, hml, hown, hts⟩ (c_X11_in l dC dI Y x3 1 9999 r8 hr9) (va_cwS 3 hts gX11_post_X11_in rfl rfl rfl (by decide +kernel) ⟨Nat.le_of_ble_eq_true rfl, Nat.le_of_ble_eq_true rfl⟩) hK hPc rfl hl.1 rfl (Nat.le_of_ble_eq_true rfl) dX11_post_31 ⟨Nat.le_of_ble_eq_true rfl, Nat.le_of_ble_eq_true rfl⟩ ?_
        refine lv_if_ne (tgt := 41) hx hb dX11_post_34 (by decide) (fun q10 => ?_) (fun q10 => ?_)
        · have hf := wk_f hf q10
          refine lv_aload_n hx hb dX11_post_41 rfl (lv_at hl 0 rfl) ?_
          refine va_get (D := (dC, dI)) (ci := 11) (v := .ref (a 1)) (C := RX11) (T := TX11) (N := 22) hx hb hts in_X11_post_X11 hown hK hP 0 rfl rfl 0 (by decide) (hts _ lk_X11_post_RX11_7) (fun _ h9 => h9) rfl dX11_post_42 ?_
          refine lv_iconst (v := 3) hx hb dX11_post_45 (by decide) ?_
          refine wk_iald hx hb hK hP 1 0 (k := 3) rfl rfl (vp_lit (by decide)) (by decide) dX11_post_46 ?_
          refine lv_bipush (v := 60) hx hb dX11_post_47 (by decide) ?_
          refine lv_icmp_ne (tgt := 56) hx hb dX11_post_49 (by decide) (fun q11 => ?_) (fun q11 => ?_)
          · have hf := wk_f hf q11
            refine lv_aload_n hx hb dX11_post_56 rfl (lv_at hl 0 rfl) ?_
            refine lv_iload_n hx hb dX11_post_57 rfl (lv_at hl 2 rfl) ?_
            refine lv_iload_n hx hb dX11_post_58 rfl (lv_at hl 3 rfl) ?_
            obtain ⟨r12, hr13, hf⟩ := wkb1_s hf
            have hPc := hP.sub (ws' := (wX11 Y a M_g M_kept M_saved M_before M_isSaved M_changes M_isWithin M_code M_input M_length M_fault M_failed M_signs M_signMany M_column M_loads M_many M_sums M_groups M_at M_told M_toldMany)) [0, 1, 2, 3, 4, 5, 6, 7, 8, 9, 10, 11] rfl
            refine wk_vi (As := [.int x2, .int x3]) (rest := [.ref (a 0)]) ⟨hx, hb, hml, hown, hts⟩ (c_X11_isShort l dC dI Y a M_g M_kept M_saved M_before M_isSaved M_changes M_isWithin M_code M_input M_length M_fault M_failed M_signs M_signMany M_column M_loads M_many M_sums M_groups M_at M_told M_toldMany x2 x3 r12 hr13) (cwV 2 hts gX11_post_X11_isShort rfl rfl rfl (by decide +kernel) ⟨Nat.le_of_ble_eq_true rfl, Nat.le_of_ble_eq_true rfl⟩) hK hPc (va_recv hK hP (ci := 11) (q0 := 0) rfl rfl) rfl hl.1 rfl (Nat.le_of_ble_eq_true rfl) dX11_post_59 ⟨Nat.le_of_ble_eq_true rfl, Nat.le_of_ble_eq_true rfl⟩ ?_
            refine lv_if_eq (tgt := 69) hx hb dX11_post_62 (by decide) (fun q14 => ?_) (fun q14 => ?_)
            · have hf := wk_t hf q14
              refine lv_iconst (v := 0) hx hb dX11_post_69 (by decide) ?_
              exact wl_X11_post_L70 C0 hK hA 0 M_g M_kept M_changes M_code hf H locs hP hD hS ls (lv_sub hl [0, 1, 2, 3] rfl)
            · have hf := wk_f hf q14
              refine lv_iconst (v := 4) hx hb dX11_post_65 (by decide) ?_
              refine lv_goto (tgt := 70) hx hb dX11_post_66 (by decide) ?_
              exact wl_X11_post_L70 C0 hK hA 4 M_g M_kept M_changes M_code hf H locs hP hD hS ls (lv_sub hl [0, 1, 2, 3] rfl)
          · have hf := wk_t hf q11
            refine lv_iconst (v := 3) hx hb dX11_post_52 (by decide) ?_
            refine lv_goto (tgt := 70) hx hb dX11_post_53 (by decide) ?_
            exact wl_X11_post_L70 C0 hK hA 3 M_g M_kept M_changes M_code hf H locs hP hD hS ls (lv_sub hl [0, 1, 2, 3] rfl)
        · have hf := wk_t hf q10
          exact wl_X11_post_L37 C0 hK hA M_g M_kept M_changes M_code hf H locs hP hD hS ls (lv_sub hl [0, 1, 2, 3] rfl)
    · have hf := wk_t hf q6
      exact wl_X11_post_L17 C0 hK hA M_g M_kept M_changes M_code hf H locs hP hD hS ls (lv_sub hl [0, 1, 2, 3] rfl)
theorem lk_X11_payOut_RX11_7 : Cond.fieldLink RX11 7 "CircusLedgerModel" "g" "[I" ∈ wsX11_payOut := by decide +kernel
theorem in_X11_payOut_X11 : ∀ w ∈ u_ws RX11 TX11 22, w ∈ wsX11_payOut := by decide +kernel
def f_X11_payOut_L57 (M_isWithin : Int32) (x1 : Int32) (x2 : Int32) (y0 : Int32) (M_g : (Nat → Int32)) (M_kept : (Nat → Int32)) (M_changes : Int32) (M_code : Int32) : Option (Int32 × (Nat → Int32) × (Nat → Int32) × Int32 × Int32) :=
    wkb2 (f_X11_fails M_code y0) (fun r1 w2 =>
    if r1 = 0 then
      (wkb3 (f_X11_keeps_g M_g M_kept M_changes M_isWithin w2) (fun w5 w6 w7 =>
      wkb1 (f_X11_books M_g (5 + x1) 0 x2) (fun w9 =>
      gin (41 + x1) 238 (some ((w9 (41 + x1).toNatClampNeg), w9, w5, w6, w7)))))
    else
      (some (0, M_g, M_kept, M_changes, w2)))
def f_X11_payOut (M_g : Nat → Int32) (M_kept : Nat → Int32) (M_changes : Int32) (M_isWithin : Int32) (M_code : Int32) (x1 : Int32) (x2 : Int32) : Option (Int32 × (Nat → Int32) × (Nat → Int32) × Int32 × Int32) :=
  wkb1 (f_X11_isAcrobat M_g x1) (fun r1 =>
  if r1 = 0 then
    (f_X11_payOut_L57 M_isWithin x1 x2 1 M_g M_kept M_changes M_code)
  else
    (wkb1 (f_X11_in x2 1 9999) (fun r4 =>
    if r4 = 0 then
      (f_X11_payOut_L57 M_isWithin x1 x2 2 M_g M_kept M_changes M_code)
    else
      (if (M_g 3) = 60 then
        (f_X11_payOut_L57 M_isWithin x1 x2 3 M_g M_kept M_changes M_code)
      else
        (wkb1 (f_X11_isShort M_g 0 x2) (fun r8 =>
        if r8 = 0 then
          (f_X11_payOut_L57 M_isWithin x1 x2 0 M_g M_kept M_changes M_code)
        else
          (f_X11_payOut_L57 M_isWithin x1 x2 4 M_g M_kept M_changes M_code)))))))
set_option maxHeartbeats 4000000 in
set_option maxRecDepth 100000 in
theorem wl_X11_payOut_L57 {p : Program} {l : Launch} {e : Env} {s : State} {m : MethodId} {args : Array Value} {below : List Frame} {meth : Method} {c : Code} {dC : Nat → ClassId} {dI : Nat → Nat → Nat} {Y : Nat → ClassId} {a : Nat → Nat} {M_saved : Nat → Int32} {M_before : Nat → Int32} {M_isSaved : Int32} {M_isWithin : Int32} {M_input : Nat → Int32} {M_length : Int32} {M_fault : Int32} {M_failed : Int32} {M_signs : Nat → Int32} {M_signMany : Int32} {M_column : Nat → Int32} {M_loads : Nat → Int32} {M_many : Int32} {M_sums : Nat → Int32} {M_groups : Nat → Int32} {M_at : Int32} {M_told : Nat → Int32} {M_toldMany : Int32} {x1 : Int32} {x2 : Int32} {r : Int32} {zM_g : Nat → Int32} {zM_kept : Nat → Int32} {zM_changes : Int32} {zM_code : Int32}  (C0 : wk_C p s m args meth c cX11_payOut 3 (some .int) wsX11_payOut RX11) {A : Nat → Prop} (hK : va_K (dC, dI) vwCl (vTy Y) s) (hA : ∀ q, s.heap.size ≤ q → A q) : ∀  (y0 : Int32) (M_g : Nat → Int32) (M_kept : Nat → Int32) (M_changes : Int32) (M_code : Int32), f_X11_payOut_L57 M_isWithin x1 x2 y0 M_g M_kept M_changes M_code = some (r, zM_g, zM_kept, zM_changes, zM_code) → ∀ (H : Heap) (locs : List Loc), va_P (dC, dI) vwCl (wX11 Y a M_g M_kept M_saved M_before M_isSaved M_changes M_isWithin M_code M_input M_length M_fault M_failed M_signs M_signMany M_column M_loads M_many M_sums M_groups M_at M_told M_toldMany) H → va_D A (wX11 Y a M_g M_kept M_saved M_before M_isSaved M_changes M_isWithin M_code M_input M_length M_fault M_failed M_signs M_signMany M_column M_loads M_many M_sums M_groups M_at M_told M_toldMany) → va_S A s.heap H locs → ∀ (ls : Array Slot), lv_has ls 3 [(0, .ref (a 0)), (1, .int x1), (2, .int x2)] → W p l e (headSpec wsX11_payOut ({ frames := 2, cells := 0, slots := 0, locals := 46 } : Room)).room s m args below meth c H locs 0 0 (MQ below (va_Qi (fun r2 (_ : Unit) => r2 = r) (fun _ t => wk_X (dC, dI) Y (wX11 Y a zM_g zM_kept M_saved M_before M_isSaved zM_changes M_isWithin zM_code M_input M_length M_fault M_failed M_signs M_signMany M_column M_loads M_many M_sums M_groups M_at M_told M_toldMany) A t) A) args s 0 0 A) (F0 m 57 ls [.int y0, .ref (a 0)]) := by
  obtain ⟨hx, hb, hml, hr, hlocks, hown, hts⟩ := id C0
  intro y0 M_g M_kept M_changes M_code hf H locs hP hD hS ls hl
  rw [f_X11_payOut_L57] at hf
  have hP : va_P (dC, dI) vwCl [(a 0, .inr (11, [.ref (a 1), .ref (a 2), .ref (a 3), .ref (a 4), .int M_isSaved, .int M_changes, .int M_isWithin, .int M_code, .ref (a 5), .int M_length, .int M_fault, .int M_failed, .ref (a 6), .int M_signMany, .ref (a 7), .ref (a 8), .int M_many, .ref (a 9), .ref (a 10), .int M_at, .ref (a 11), .int M_toldMany])), (a 1, .inl (Y 0, 238, .inl M_g)), (a 2, .inl (Y 0, 1904, .inl M_kept)), (a 3, .inl (Y 0, 238, .inl M_saved)), (a 4, .inl (Y 0, 238, .inl M_before)), (a 5, .inl (Y 0, 60, .inl M_input)), (a 6, .inl (Y 2, 100, .inl M_signs)), (a 7, .inl (Y 0, 6, .inl M_column)), (a 8, .inl (Y 0, 6, .inl M_loads)), (a 9, .inl (Y 0, 2048, .inl M_sums)), (a 10, .inl (Y 0, 2048, .inl M_groups)), (a 11, .inl (Y 0, 155, .inl M_told))] H := hP
  have hD : va_D A [(a 0, .inr (11, [.ref (a 1), .ref (a 2), .ref (a 3), .ref (a 4), .int M_isSaved, .int M_changes, .int M_isWithin, .int M_code, .ref (a 5), .int M_length, .int M_fault, .int M_failed, .ref (a 6), .int M_signMany, .ref (a 7), .ref (a 8), .int M_many, .ref (a 9), .ref (a 10), .int M_at, .ref (a 11), .int M_toldMany])), (a 1, .inl (Y 0, 238, .inl M_g)), (a 2, .inl (Y 0, 1904, .inl M_kept)), (a 3, .inl (Y 0, 238, .inl M_saved)), (a 4, .inl (Y 0, 238, .inl M_before)), (a 5, .inl (Y 0, 60, .inl M_input)), (a 6, .inl (Y 2, 100, .inl M_signs)), (a 7, .inl (Y 0, 6, .inl M_column)), (a 8, .inl (Y 0, 6, .inl M_loads)), (a 9, .inl (Y 0, 2048, .inl M_sums)), (a 10, .inl (Y 0, 2048, .inl M_groups)), (a 11, .inl (Y 0, 155, .inl M_told))] := hD
  obtain ⟨r1, w2, hr3, hf⟩ := wkb2_s hf
  refine wk_evi (As := [.int y0]) (rest := []) (wc := (wX11 Y a M_g M_kept M_saved M_before M_isSaved M_changes M_isWithin M_code M_input M_length M_fault M_failed M_signs M_signMany M_column M_loads M_many M_sums M_groups M_at M_told M_toldMany)) (w1 := (wX11 Y a M_g M_kept M_saved M_before M_isSaved M_changes M_isWithin w2 M_input M_length M_fault M_failed M_signs M_signMany M_column M_loads M_many M_sums M_groups M_at M_told M_toldMany)) (wr := []) ⟨hx, hb, hml, hown, hts⟩ (c_X11_fails l dC dI Y a M_g M_kept M_saved M_before M_isSaved M_changes M_isWithin M_code M_input M_length M_fault M_failed M_signs M_signMany M_column M_loads M_many M_sums M_groups M_at M_told M_toldMany y0 H.size r1 w2 hr3) (cwV 1 hts gX11_payOut_X11_fails rfl rfl rfl (by decide +kernel) ⟨Nat.le_of_ble_eq_true rfl, Nat.le_of_ble_eq_true rfl⟩) hK hP hD hS hA [0, 1, 2, 3, 4, 5, 6, 7, 8, 9, 10, 11] [] rfl rfl (by decide) (by decide) (by decide) (va_recv hK hP (ci := 11) (q0 := 0) rfl rfl) rfl hl.1 rfl (Nat.le_of_ble_eq_true rfl) dX11_payOut_57 ⟨Nat.le_of_ble_eq_true rfl, Nat.le_of_ble_eq_true rfl⟩ (fun H locs hP hD hS => ?_)
  have hP : va_P (dC, dI) vwCl [(a 0, .inr (11, [.ref (a 1), .ref (a 2), .ref (a 3), .ref (a 4), .int M_isSaved, .int M_changes, .int M_isWithin, .int w2, .ref (a 5), .int M_length, .int M_fault, .int M_failed, .ref (a 6), .int M_signMany, .ref (a 7), .ref (a 8), .int M_many, .ref (a 9), .ref (a 10), .int M_at, .ref (a 11), .int M_toldMany])), (a 1, .inl (Y 0, 238, .inl M_g)), (a 2, .inl (Y 0, 1904, .inl M_kept)), (a 3, .inl (Y 0, 238, .inl M_saved)), (a 4, .inl (Y 0, 238, .inl M_before)), (a 5, .inl (Y 0, 60, .inl M_input)), (a 6, .inl (Y 2, 100, .inl M_signs)), (a 7, .inl (Y 0, 6, .inl M_column)), (a 8, .inl (Y 0, 6, .inl M_loads)), (a 9, .inl (Y 0, 2048, .inl M_sums)), (a 10, .inl (Y 0, 2048, .inl M_groups)), (a 11, .inl (Y 0, 155, .inl M_told))] H := hP
  have hD : va_D A [(a 0, .inr (11, [.ref (a 1), .ref (a 2), .ref (a 3), .ref (a 4), .int M_isSaved, .int M_changes, .int M_isWithin, .int w2, .ref (a 5), .int M_length, .int M_fault, .int M_failed, .ref (a 6), .int M_signMany, .ref (a 7), .ref (a 8), .int M_many, .ref (a 9), .ref (a 10), .int M_at, .ref (a 11), .int M_toldMany])), (a 1, .inl (Y 0, 238, .inl M_g)), (a 2, .inl (Y 0, 1904, .inl M_kept)), (a 3, .inl (Y 0, 238, .inl M_saved)), (a 4, .inl (Y 0, 238, .inl M_before)), (a 5, .inl (Y 0, 60, .inl M_input)), (a 6, .inl (Y 2, 100, .inl M_signs)), (a 7, .inl (Y 0, 6, .inl M_column)), (a 8, .inl (Y 0, 6, .inl M_loads)), (a 9, .inl (Y 0, 2048, .inl M_sums)), (a 10, .inl (Y 0, 2048, .inl M_groups)), (a 11, .inl (Y 0, 155, .inl M_told))] := hD
  refine lv_if_eq (tgt := 65) hx hb dX11_payOut_60 (by decide) (fun q4 => ?_) (fun q4 => ?_)
  · have hf := wk_t hf q4
    refine lv_aload_n hx hb dX11_payOut_65 rfl (lv_at hl 0 rfl) ?_
    refine lv_aload_n hx hb dX11_payOut_66 rfl (lv_at hl 0 rfl) ?_
    refine va_get (D := (dC, dI)) (ci := 11) (v := .ref (a 1)) (C := RX11) (T := TX11) (N := 22) hx hb hts in_X11_payOut_X11 hown hK hP 0 rfl rfl 0 (by decide) (hts _ lk_X11_payOut_RX11_7) (fun _ h9 => h9) rfl dX11_payOut_67 ?_
    obtain ⟨w5, w6, w7, hr8, hf⟩ := wkb3_s hf
    refine wk_evv (As := [.ref (a 1)]) (rest := []) (wc := (wX11 Y a M_g M_kept M_saved M_before M_isSaved M_changes M_isWithin w2 M_input M_length M_fault M_failed M_signs M_signMany M_column M_loads M_many M_sums M_groups M_at M_told M_toldMany)) (w1 := (wX11 Y a M_g w5 M_saved M_before M_isSaved w6 M_isWithin w7 M_input M_length M_fault M_failed M_signs M_signMany M_column M_loads M_many M_sums M_groups M_at M_told M_toldMany)) (wr := []) ⟨hx, hb, hml, hown, hts⟩ (c_X11_keeps_g l dC dI Y a M_g M_kept M_saved M_before M_isSaved M_changes M_isWithin w2 M_input M_length M_fault M_failed M_signs M_signMany M_column M_loads M_many M_sums M_groups M_at M_told M_toldMany H.size w5 w6 w7 hr8) (cwV 1 hts gX11_payOut_X11_keeps rfl rfl rfl (by decide +kernel) ⟨Nat.le_of_ble_eq_true rfl, Nat.le_of_ble_eq_true rfl⟩) hK hP hD hS hA [0, 1, 2, 3, 4, 5, 6, 7, 8, 9, 10, 11] [] rfl rfl (by decide) (by decide) (by decide) (va_recv hK hP (ci := 11) (q0 := 0) rfl rfl) rfl hl.1 rfl (Nat.le_of_ble_eq_true rfl) dX11_payOut_70 ⟨Nat.le_of_ble_eq_true rfl, Nat.le_of_ble_eq_true rfl⟩ (fun H locs hP hD hS => ?_)
    have hP : va_P (dC, dI) vwCl [(a 0, .inr (11, [.ref (a 1), .ref (a 2), .ref (a 3), .ref (a 4), .int M_isSaved, .int w6, .int M_isWithin, .int w7, .ref (a 5), .int M_length, .int M_fault, .int M_failed, .ref (a 6), .int M_signMany, .ref (a 7), .ref (a 8), .int M_many, .ref (a 9), .ref (a 10), .int M_at, .ref (a 11), .int M_toldMany])), (a 1, .inl (Y 0, 238, .inl M_g)), (a 2, .inl (Y 0, 1904, .inl w5)), (a 3, .inl (Y 0, 238, .inl M_saved)), (a 4, .inl (Y 0, 238, .inl M_before)), (a 5, .inl (Y 0, 60, .inl M_input)), (a 6, .inl (Y 2, 100, .inl M_signs)), (a 7, .inl (Y 0, 6, .inl M_column)), (a 8, .inl (Y 0, 6, .inl M_loads)), (a 9, .inl (Y 0, 2048, .inl M_sums)), (a 10, .inl (Y 0, 2048, .inl M_groups)), (a 11, .inl (Y 0, 155, .inl M_told))] H := hP
    have hD : va_D A [(a 0, .inr (11, [.ref (a 1), .ref (a 2), .ref (a 3), .ref (a 4), .int M_isSaved, .int w6, .int M_isWithin, .int w7, .ref (a 5), .int M_length, .int M_fault, .int M_failed, .ref (a 6), .int M_signMany, .ref (a 7), .ref (a 8), .int M_many, .ref (a 9), .ref (a 10), .int M_at, .ref (a 11), .int M_toldMany])), (a 1, .inl (Y 0, 238, .inl M_g)), (a 2, .inl (Y 0, 1904, .inl w5)), (a 3, .inl (Y 0, 238, .inl M_saved)), (a 4, .inl (Y 0, 238, .inl M_before)), (a 5, .inl (Y 0, 60, .inl M_input)), (a 6, .inl (Y 2, 100, .inl M_signs)), (a 7, .inl (Y 0, 6, .inl M_column)), (a 8, .inl (Y 0, 6, .inl M_loads)), (a 9, .inl (Y 0, 2048, .inl M_sums)), (a 10, .inl (Y 0, 2048, .inl M_groups)), (a 11, .inl (Y 0, 155, .inl M_told))] := hD
    refine lv_aload_n hx hb dX11_payOut_73 rfl (lv_at hl 0 rfl) ?_
    refine lv_iconst (v := 5) hx hb dX11_payOut_74 (by decide) ?_
    refine lv_iload_n hx hb dX11_payOut_75 rfl (lv_at hl 1 rfl) ?_
    refine lv_iadd hx hb dX11_payOut_76 ?_
    refine lv_iconst (v := 0) hx hb dX11_payOut_77 (by decide) ?_
    refine lv_iload_n hx hb dX11_payOut_78 rfl (lv_at hl 2 rfl) ?_
    obtain ⟨w9, hr10, hf⟩ := wkb1_s hf
    refine wk_evv (As := [.int (5 + x1), .int 0, .int x2]) (rest := []) (wc := (wX11 Y a M_g w5 M_saved M_before M_isSaved w6 M_isWithin w7 M_input M_length M_fault M_failed M_signs M_signMany M_column M_loads M_many M_sums M_groups M_at M_told M_toldMany)) (w1 := (wX11 Y a w9 w5 M_saved M_before M_isSaved w6 M_isWithin w7 M_input M_length M_fault M_failed M_signs M_signMany M_column M_loads M_many M_sums M_groups M_at M_told M_toldMany)) (wr := []) ⟨hx, hb, hml, hown, hts⟩ (c_X11_books l dC dI Y a M_g w5 M_saved M_before M_isSaved w6 M_isWithin w7 M_input M_length M_fault M_failed M_signs M_signMany M_column M_loads M_many M_sums M_groups M_at M_told M_toldMany (5 + x1) 0 x2 H.size w9 hr10) (cwV 3 hts gX11_payOut_X11_books rfl rfl rfl (by decide +kernel) ⟨Nat.le_of_ble_eq_true rfl, Nat.le_of_ble_eq_true rfl⟩) hK hP hD hS hA [0, 1, 2, 3, 4, 5, 6, 7, 8, 9, 10, 11] [] rfl rfl (by decide) (by decide) (by decide) (va_recv hK hP (ci := 11) (q0 := 0) rfl rfl) rfl hl.1 rfl (Nat.le_of_ble_eq_true rfl) dX11_payOut_79 ⟨Nat.le_of_ble_eq_true rfl, Nat.le_of_ble_eq_true rfl⟩ (fun H locs hP hD hS => ?_)
    have hP : va_P (dC, dI) vwCl [(a 0, .inr (11, [.ref (a 1), .ref (a 2), .ref (a 3), .ref (a 4), .int M_isSaved, .int w6, .int M_isWithin, .int w7, .ref (a 5), .int M_length, .int M_fault, .int M_failed, .ref (a 6), .int M_signMany, .ref (a 7), .ref (a 8), .int M_many, .ref (a 9), .ref (a 10), .int M_at, .ref (a 11), .int M_toldMany])), (a 1, .inl (Y 0, 238, .inl w9)), (a 2, .inl (Y 0, 1904, .inl w5)), (a 3, .inl (Y 0, 238, .inl M_saved)), (a 4, .inl (Y 0, 238, .inl M_before)), (a 5, .inl (Y 0, 60, .inl M_input)), (a 6, .inl (Y 2, 100, .inl M_signs)), (a 7, .inl (Y 0, 6, .inl M_column)), (a 8, .inl (Y 0, 6, .inl M_loads)), (a 9, .inl (Y 0, 2048, .inl M_sums)), (a 10, .inl (Y 0, 2048, .inl M_groups)), (a 11, .inl (Y 0, 155, .inl M_told))] H := hP
    have hD : va_D A [(a 0, .inr (11, [.ref (a 1), .ref (a 2), .ref (a 3), .ref (a 4), .int M_isSaved, .int w6, .int M_isWithin, .int w7, .ref (a 5), .int M_length, .int M_fault, .int M_failed, .ref (a 6), .int M_signMany, .ref (a 7), .ref (a 8), .int M_many, .ref (a 9), .ref (a 10), .int M_at, .ref (a 11), .int M_toldMany])), (a 1, .inl (Y 0, 238, .inl w9)), (a 2, .inl (Y 0, 1904, .inl w5)), (a 3, .inl (Y 0, 238, .inl M_saved)), (a 4, .inl (Y 0, 238, .inl M_before)), (a 5, .inl (Y 0, 60, .inl M_input)), (a 6, .inl (Y 2, 100, .inl M_signs)), (a 7, .inl (Y 0, 6, .inl M_column)), (a 8, .inl (Y 0, 6, .inl M_loads)), (a 9, .inl (Y 0, 2048, .inl M_sums)), (a 10, .inl (Y 0, 2048, .inl M_groups)), (a 11, .inl (Y 0, 155, .inl M_told))] := hD
    refine lv_aload_n hx hb dX11_payOut_82 rfl (lv_at hl 0 rfl) ?_
    refine va_get (D := (dC, dI)) (ci := 11) (v := .ref (a 1)) (C := RX11) (T := TX11) (N := 22) hx hb hts in_X11_payOut_X11 hown hK hP 0 rfl rfl 0 (by decide) (hts _ lk_X11_payOut_RX11_7) (fun _ h9 => h9) rfl dX11_payOut_83 ?_
    refine lv_bipush (v := 41) hx hb dX11_payOut_86 (by decide) ?_
    refine lv_iload_n hx hb dX11_payOut_88 rfl (lv_at hl 1 rfl) ?_
    refine lv_iadd hx hb dX11_payOut_89 ?_
    obtain ⟨h11, hf⟩ := gin_s hf
    refine wk_iald hx hb hK hP 1 0 rfl rfl h11 rfl dX11_payOut_90 ?_
    obtain ⟨e0, e1, e2, e3, e4⟩ := wke5 hf
    subst e0
    subst e1
    subst e2
    subst e3
    subst e4
    have hP9 := hP.sub (ws' := (wX11 Y a w9 w5 M_saved M_before M_isSaved w6 M_isWithin w7 M_input M_length M_fault M_failed M_signs M_signMany M_column M_loads M_many M_sums M_groups M_at M_told M_toldMany)) [0, 1, 2, 3, 4, 5, 6, 7, 8, 9, 10, 11] rfl
    have hD9 := hD.sub (ws' := (wX11 Y a w9 w5 M_saved M_before M_isSaved w6 M_isWithin w7 M_input M_length M_fault M_failed M_signs M_signMany M_column M_loads M_many M_sums M_groups M_at M_told M_toldMany)) [0, 1, 2, 3, 4, 5, 6, 7, 8, 9, 10, 11] (by decide) rfl
    exact W.iret (v := (w9 (41 + x1).toNatClampNeg)) hx hb hr (fun t ht hW => ⟨⟨(w9 (41 + x1).toNatClampNeg), (), rfl, rfl, by rw [ht]; exact hP9, va_K.moved hW.alike hK, hD9⟩, hS.F ht⟩) hS.2.2 dX11_payOut_91
  · have hf := wk_f hf q4
    refine lv_iconst (v := 0) hx hb dX11_payOut_63 (by decide) ?_
    obtain ⟨e0, e1, e2, e3, e4⟩ := wke5 hf
    subst e0
    subst e1
    subst e2
    subst e3
    subst e4
    have hP9 := hP.sub (ws' := (wX11 Y a M_g M_kept M_saved M_before M_isSaved M_changes M_isWithin w2 M_input M_length M_fault M_failed M_signs M_signMany M_column M_loads M_many M_sums M_groups M_at M_told M_toldMany)) [0, 1, 2, 3, 4, 5, 6, 7, 8, 9, 10, 11] rfl
    have hD9 := hD.sub (ws' := (wX11 Y a M_g M_kept M_saved M_before M_isSaved M_changes M_isWithin w2 M_input M_length M_fault M_failed M_signs M_signMany M_column M_loads M_many M_sums M_groups M_at M_told M_toldMany)) [0, 1, 2, 3, 4, 5, 6, 7, 8, 9, 10, 11] (by decide) rfl
    exact W.iret (v := 0) hx hb hr (fun t ht hW => ⟨⟨0, (), rfl, rfl, by rw [ht]; exact hP9, va_K.moved hW.alike hK, hD9⟩, hS.F ht⟩) hS.2.2 dX11_payOut_64
set_option maxHeartbeats 4000000 in
set_option maxRecDepth 100000 in
theorem c_X11_payOut (l : Launch) (dC : Nat → ClassId) (dI : Nat → Nat → Nat) (Y : Nat → ClassId) (a : Nat → Nat) (M_g : Nat → Int32) (M_kept : Nat → Int32) (M_saved : Nat → Int32) (M_before : Nat → Int32) (M_isSaved : Int32) (M_changes : Int32) (M_isWithin : Int32) (M_code : Int32) (M_input : Nat → Int32) (M_length : Int32) (M_fault : Int32) (M_failed : Int32) (M_signs : Nat → Int32) (M_signMany : Int32) (M_column : Nat → Int32) (M_loads : Nat → Int32) (M_many : Int32) (M_sums : Nat → Int32) (M_groups : Nat → Int32) (M_at : Int32) (M_told : Nat → Int32) (M_toldMany : Int32) (x1 : Int32) (x2 : Int32) (sz : Nat) (r : Int32) (zM_g : Nat → Int32) (zM_kept : Nat → Int32) (zM_changes : Int32) (zM_code : Int32) (hf : f_X11_payOut M_g M_kept M_changes M_isWithin M_code x1 x2 = some (r, zM_g, zM_kept, zM_changes, zM_code)) : Met l yX11_payOut wsX11_payOut ({ frames := 2, cells := 0, slots := 0, locals := 46 } : Room) (va_Pc [.ref (a 0), .int x1, .int x2] (wk_E (dC, dI) Y (wX11 Y a M_g M_kept M_saved M_before M_isSaved M_changes M_isWithin M_code M_input M_length M_fault M_failed M_signs M_signMany M_column M_loads M_many M_sums M_groups M_at M_told M_toldMany) sz)) (va_Qi (fun r2 (_ : Unit) => r2 = r) (fun _ t => wk_X (dC, dI) Y (wX11 Y a zM_g zM_kept M_saved M_before M_isSaved zM_changes M_isWithin zM_code M_input M_length M_fault M_failed M_signs M_signMany M_column M_loads M_many M_sums M_groups M_at M_told M_toldMany) (va_A (wX11 Y a M_g M_kept M_saved M_before M_isSaved M_changes M_isWithin M_code M_input M_length M_fault M_failed M_signs M_signMany M_column M_loads M_many M_sums M_groups M_at M_told M_toldMany) sz) t) (va_A (wX11 Y a M_g M_kept M_saved M_before M_isSaved M_changes M_isWithin M_code M_input M_length M_fault M_failed M_signs M_signMany M_column M_loads M_many M_sums M_groups M_at M_told M_toldMany) sz)) 0 0 (va_A (wX11 Y a M_g M_kept M_saved M_before M_isSaved M_changes M_isWithin M_code M_input M_length M_fault M_failed M_signs M_signMany M_column M_loads M_many M_sums M_groups M_at M_told M_toldMany) sz) := by
  refine Met.ofW (cc := cX11_payOut) (maxL := 3) (ret := (some .int)) (by decide) rfl ?_
  intro p e s m args below meth c s₁ B hml hv
  obtain ⟨rfl, hsz, hP, hK, hD0⟩ := hv
  have hx := B.exec
  have hb := B.bytes
  have hr := B.returns
  have hts := atoms_spec (ws := wsX11_payOut) B.pre
  have hown : s.vm.findClass RX11 = some m.cls := findClass_of_methodNamed B.named
  have hlocks := B.notSynchronized
  have C0 : wk_C p s m _ meth c cX11_payOut 3 (some .int) wsX11_payOut RX11 := ⟨hx, hb, hml, hr, hlocks, hown, hts⟩
  subst hsz
  have hD := hD0.self (sz := s.heap.size)
  generalize hAe : va_A (wX11 Y a M_g M_kept M_saved M_before M_isSaved M_changes M_isWithin M_code M_input M_length M_fault M_failed M_signs M_signMany M_column M_loads M_many M_sums M_groups M_at M_told M_toldMany) s.heap.size = A at hD ⊢
  have hA : ∀ q : Nat, s.heap.size ≤ q → A q := fun q h => by rw [← hAe]; exact Or.inr h
  have hS : va_S A s.heap s.heap [] := va_S.rf
  obtain ⟨H, hHe⟩ : ∃ H, H = s.heap := ⟨_, rfl⟩
  have hS : va_S A s.heap H [] := by rw [hHe]; exact hS
  have hP : va_P (dC, dI) vwCl [(a 0, .inr (11, [.ref (a 1), .ref (a 2), .ref (a 3), .ref (a 4), .int M_isSaved, .int M_changes, .int M_isWithin, .int M_code, .ref (a 5), .int M_length, .int M_fault, .int M_failed, .ref (a 6), .int M_signMany, .ref (a 7), .ref (a 8), .int M_many, .ref (a 9), .ref (a 10), .int M_at, .ref (a 11), .int M_toldMany])), (a 1, .inl (Y 0, 238, .inl M_g)), (a 2, .inl (Y 0, 1904, .inl M_kept)), (a 3, .inl (Y 0, 238, .inl M_saved)), (a 4, .inl (Y 0, 238, .inl M_before)), (a 5, .inl (Y 0, 60, .inl M_input)), (a 6, .inl (Y 2, 100, .inl M_signs)), (a 7, .inl (Y 0, 6, .inl M_column)), (a 8, .inl (Y 0, 6, .inl M_loads)), (a 9, .inl (Y 0, 2048, .inl M_sums)), (a 10, .inl (Y 0, 2048, .inl M_groups)), (a 11, .inl (Y 0, 155, .inl M_told))] H := by rw [hHe]; exact hP
  have hD : va_D A [(a 0, .inr (11, [.ref (a 1), .ref (a 2), .ref (a 3), .ref (a 4), .int M_isSaved, .int M_changes, .int M_isWithin, .int M_code, .ref (a 5), .int M_length, .int M_fault, .int M_failed, .ref (a 6), .int M_signMany, .ref (a 7), .ref (a 8), .int M_many, .ref (a 9), .ref (a 10), .int M_at, .ref (a 11), .int M_toldMany])), (a 1, .inl (Y 0, 238, .inl M_g)), (a 2, .inl (Y 0, 1904, .inl M_kept)), (a 3, .inl (Y 0, 238, .inl M_saved)), (a 4, .inl (Y 0, 238, .inl M_before)), (a 5, .inl (Y 0, 60, .inl M_input)), (a 6, .inl (Y 2, 100, .inl M_signs)), (a 7, .inl (Y 0, 6, .inl M_column)), (a 8, .inl (Y 0, 6, .inl M_loads)), (a 9, .inl (Y 0, 2048, .inl M_sums)), (a 10, .inl (Y 0, 2048, .inl M_groups)), (a 11, .inl (Y 0, 155, .inl M_told))] := hD
  obtain ⟨locs, hlo⟩ : ∃ locs : List Loc, locs = [] := ⟨_, rfl⟩
  have hS : va_S A s.heap H locs := by rw [hlo]; exact hS
  have hl := lv_entry ([.ref (a 0), .int x1, .int x2]) (n := 3) (Nat.le_of_ble_eq_true rfl)
  rw [lg_entry_eq]
  generalize (lg_sl ([.ref (a 0), .int x1, .int x2]) ++ List.replicate (3 - (lg_sl ([.ref (a 0), .int x1, .int x2])).length) Slot.unset).toArray = ls at hl ⊢
  have hl : lv_has ls 3 [(0, .ref (a 0)), (1, .int x1), (2, .int x2)] := hl
  refine wk_start hHe hlo ?_
  rw [f_X11_payOut] at hf
  refine lv_aload_n hx hb dX11_payOut_0 rfl (lv_at hl 0 rfl) ?_
  refine lv_aload_n hx hb dX11_payOut_1 rfl (lv_at hl 0 rfl) ?_
  refine lv_iload_n hx hb dX11_payOut_2 rfl (lv_at hl 1 rfl) ?_
  obtain ⟨r1, hr2, hf⟩ := wkb1_s hf
  have hPc := hP.sub (ws' := (wX11 Y a M_g M_kept M_saved M_before M_isSaved M_changes M_isWithin M_code M_input M_length M_fault M_failed M_signs M_signMany M_column M_loads M_many M_sums M_groups M_at M_told M_toldMany)) [0, 1, 2, 3, 4, 5, 6, 7, 8, 9, 10, 11] rfl
  refine wk_vi (As := [.int x1]) (rest := [.ref (a 0)]) ⟨hx, hb, hml, hown, hts⟩ (c_X11_isAcrobat l dC dI Y a M_g M_kept M_saved M_before M_isSaved M_changes M_isWithin M_code M_input M_length M_fault M_failed M_signs M_signMany M_column M_loads M_many M_sums M_groups M_at M_told M_toldMany x1 r1 hr2) (cwV 1 hts gX11_payOut_X11_isAcrobat rfl rfl rfl (by decide +kernel) ⟨Nat.le_of_ble_eq_true rfl, Nat.le_of_ble_eq_true rfl⟩) hK hPc (va_recv hK hP (ci := 11) (q0 := 0) rfl rfl) rfl hl.1 rfl (Nat.le_of_ble_eq_true rfl) dX11_payOut_3 ⟨Nat.le_of_ble_eq_true rfl, Nat.le_of_ble_eq_true rfl⟩ ?_
  refine lv_if_ne (tgt := 13) hx hb dX11_payOut_6 (by decide) (fun q3 => ?_) (fun q3 => ?_)
  · have hf := wk_f hf q3
    refine lv_iload_n hx hb dX11_payOut_13 rfl (lv_at hl 2 rfl) ?_
    refine lv_iconst (v := 1) hx hb dX11_payOut_14 (by decide) ?_
    refine lv_sipush (v := 9999) hx hb dX11_payOut_15 (by decide) ?_
    obtain ⟨r4, hr5, hf⟩ := wkb1_s hf
    have hPc := hP.sub (ws' := ([] : va_W)) [] rfl
    refine wk_si (As := [.int x2, .int 1, .int 9999]) (rest := [.ref (a 0)]) ⟨hx, hb, hml, hown, hts⟩ (c_X11_in l dC dI Y x2 1 9999 r4 hr5) (va_cwS 3 hts gX11_payOut_X11_in rfl rfl rfl (by decide +kernel) ⟨Nat.le_of_ble_eq_true rfl, Nat.le_of_ble_eq_true rfl⟩) hK hPc rfl hl.1 rfl (Nat.le_of_ble_eq_true rfl) dX11_payOut_18 ⟨Nat.le_of_ble_eq_true rfl, Nat.le_of_ble_eq_true rfl⟩ ?_
    refine lv_if_ne (tgt := 28) hx hb dX11_payOut_21 (by decide) (fun q6 => ?_) (fun q6 => ?_)
    · have hf := wk_f hf q6
      refine lv_aload_n hx hb dX11_payOut_28 rfl (lv_at hl 0 rfl) ?_
      refine va_get (D := (dC, dI)) (ci := 11) (v := .ref (a 1)) (C := RX11) (T := TX11) (N := 22) hx hb hts in_X11_payOut_X11 hown hK hP 0 rfl rfl 0 (by decide) (hts _ lk_X11_payOut_RX11_7) (fun _ h9 => h9) rfl dX11_payOut_29 ?_
      refine lv_iconst (v := 3) hx hb dX11_payOut_32 (by decide) ?_
      refine wk_iald hx hb hK hP 1 0 (k := 3) rfl rfl (vp_lit (by decide)) (by decide) dX11_payOut_33 ?_
      refine lv_bipush (v := 60) hx hb dX11_payOut_34 (by decide) ?_
      refine lv_icmp_ne (tgt := 43) hx hb dX11_payOut_36 (by decide) (fun q7 => ?_) (fun q7 => ?_)
      · have hf := wk_f hf q7
        refine lv_aload_n hx hb dX11_payOut_43 rfl (lv_at hl 0 rfl) ?_
        refine lv_iconst (v := 0) hx hb dX11_payOut_44 (by decide) ?_
        refine lv_iload_n hx hb dX11_payOut_45 rfl (lv_at hl 2 rfl) ?_
        obtain ⟨r8, hr9, hf⟩ := wkb1_s hf
        have hPc := hP.sub (ws' := (wX11 Y a M_g M_kept M_saved M_before M_isSaved M_changes M_isWithin M_code M_input M_length M_fault M_failed M_signs M_signMany M_column M_loads M_many M_sums M_groups M_at M_told M_toldMany)) [0, 1, 2, 3, 4, 5, 6, 7, 8, 9, 10, 11] rfl
        refine wk_vi (As := [.int 0, .int x2]) (rest := [.ref (a 0)]) ⟨hx, hb, hml, hown, hts⟩ (c_X11_isShort l dC dI Y a M_g M_kept M_saved M_before M_isSaved M_changes M_isWithin M_code M_input M_length M_fault M_failed M_signs M_signMany M_column M_loads M_many M_sums M_groups M_at M_told M_toldMany 0 x2 r8 hr9) (cwV 2 hts gX11_payOut_X11_isShort rfl rfl rfl (by decide +kernel) ⟨Nat.le_of_ble_eq_true rfl, Nat.le_of_ble_eq_true rfl⟩) hK hPc (va_recv hK hP (ci := 11) (q0 := 0) rfl rfl) rfl hl.1 rfl (Nat.le_of_ble_eq_true rfl) dX11_payOut_46 ⟨Nat.le_of_ble_eq_true rfl, Nat.le_of_ble_eq_true rfl⟩ ?_
        refine lv_if_eq (tgt := 56) hx hb dX11_payOut_49 (by decide) (fun q10 => ?_) (fun q10 => ?_)
        · have hf := wk_t hf q10
          refine lv_iconst (v := 0) hx hb dX11_payOut_56 (by decide) ?_
          exact wl_X11_payOut_L57 C0 hK hA 0 M_g M_kept M_changes M_code hf H locs hP hD hS ls (lv_sub hl [0, 1, 2] rfl)
        · have hf := wk_f hf q10
          refine lv_iconst (v := 4) hx hb dX11_payOut_52 (by decide) ?_
          refine lv_goto (tgt := 57) hx hb dX11_payOut_53 (by decide) ?_
          exact wl_X11_payOut_L57 C0 hK hA 4 M_g M_kept M_changes M_code hf H locs hP hD hS ls (lv_sub hl [0, 1, 2] rfl)
      · have hf := wk_t hf q7
        refine lv_iconst (v := 3) hx hb dX11_payOut_39 (by decide) ?_
        refine lv_goto (tgt := 57) hx hb dX11_payOut_40 (by decide) ?_
        exact wl_X11_payOut_L57 C0 hK hA 3 M_g M_kept M_changes M_code hf H locs hP hD hS ls (lv_sub hl [0, 1, 2] rfl)
    · have hf := wk_t hf q6
      refine lv_iconst (v := 2) hx hb dX11_payOut_24 (by decide) ?_
      refine lv_goto (tgt := 57) hx hb dX11_payOut_25 (by decide) ?_
      exact wl_X11_payOut_L57 C0 hK hA 2 M_g M_kept M_changes M_code hf H locs hP hD hS ls (lv_sub hl [0, 1, 2] rfl)
  · have hf := wk_t hf q3
    refine lv_iconst (v := 1) hx hb dX11_payOut_9 (by decide) ?_
    refine lv_goto (tgt := 57) hx hb dX11_payOut_10 (by decide) ?_
    exact wl_X11_payOut_L57 C0 hK hA 1 M_g M_kept M_changes M_code hf H locs hP hD hS ls (lv_sub hl [0, 1, 2] rfl)
theorem lk_X11_isSet_RX11_7 : Cond.fieldLink RX11 7 "CircusLedgerModel" "g" "[I" ∈ wsX11_isSet := by decide +kernel
theorem in_X11_isSet_X11 : ∀ w ∈ u_ws RX11 TX11 22, w ∈ wsX11_isSet := by decide +kernel
def f_X11_isSet (M_g : Nat → Int32) (x1 : Int32) : Option (Int32) :=
  if x1 ≤ 0 then
    (some (0))
  else
    (if ((1 : Int32) <<< ((M_g 0) &&& 31)) ≤ x1 then
      (some (0))
    else
      (some (1)))
set_option maxHeartbeats 4000000 in
set_option maxRecDepth 100000 in
theorem c_X11_isSet (l : Launch) (dC : Nat → ClassId) (dI : Nat → Nat → Nat) (Y : Nat → ClassId) (a : Nat → Nat) (M_g : Nat → Int32) (M_kept : Nat → Int32) (M_saved : Nat → Int32) (M_before : Nat → Int32) (M_isSaved : Int32) (M_changes : Int32) (M_isWithin : Int32) (M_code : Int32) (M_input : Nat → Int32) (M_length : Int32) (M_fault : Int32) (M_failed : Int32) (M_signs : Nat → Int32) (M_signMany : Int32) (M_column : Nat → Int32) (M_loads : Nat → Int32) (M_many : Int32) (M_sums : Nat → Int32) (M_groups : Nat → Int32) (M_at : Int32) (M_told : Nat → Int32) (M_toldMany : Int32) (x1 : Int32) (r : Int32) (hf : f_X11_isSet M_g x1 = some (r)) : Met l yX11_isSet wsX11_isSet ({ frames := 0, cells := 0, slots := 0, locals := 0 } : Room) (va_Pc [.ref (a 0), .int x1] (wk_B (dC, dI) Y (wX11 Y a M_g M_kept M_saved M_before M_isSaved M_changes M_isWithin M_code M_input M_length M_fault M_failed M_signs M_signMany M_column M_loads M_many M_sums M_groups M_at M_told M_toldMany))) (vp_Si (fun r2 => r2 = r)) 0 0 (fun _ => False) := by
  refine Met.ofW (cc := cX11_isSet) (maxL := 2) (ret := (some .boolean)) (by decide) rfl ?_
  intro p e s m args below meth c s₁ B hml hv
  obtain ⟨rfl, hP, hK⟩ := hv
  have hx := B.exec
  have hb := B.bytes
  have hr := B.returns
  have hts := atoms_spec (ws := wsX11_isSet) B.pre
  have hown : s.vm.findClass RX11 = some m.cls := findClass_of_methodNamed B.named
  have hlocks := B.notSynchronized
  have C0 : wk_C p s m _ meth c cX11_isSet 2 (some .boolean) wsX11_isSet RX11 := ⟨hx, hb, hml, hr, hlocks, hown, hts⟩
  have hP : va_P (dC, dI) vwCl [(a 0, .inr (11, [.ref (a 1), .ref (a 2), .ref (a 3), .ref (a 4), .int M_isSaved, .int M_changes, .int M_isWithin, .int M_code, .ref (a 5), .int M_length, .int M_fault, .int M_failed, .ref (a 6), .int M_signMany, .ref (a 7), .ref (a 8), .int M_many, .ref (a 9), .ref (a 10), .int M_at, .ref (a 11), .int M_toldMany])), (a 1, .inl (Y 0, 238, .inl M_g)), (a 2, .inl (Y 0, 1904, .inl M_kept)), (a 3, .inl (Y 0, 238, .inl M_saved)), (a 4, .inl (Y 0, 238, .inl M_before)), (a 5, .inl (Y 0, 60, .inl M_input)), (a 6, .inl (Y 2, 100, .inl M_signs)), (a 7, .inl (Y 0, 6, .inl M_column)), (a 8, .inl (Y 0, 6, .inl M_loads)), (a 9, .inl (Y 0, 2048, .inl M_sums)), (a 10, .inl (Y 0, 2048, .inl M_groups)), (a 11, .inl (Y 0, 155, .inl M_told))] s.heap := hP
  have hl := lv_entry ([.ref (a 0), .int x1]) (n := 2) (Nat.le_of_ble_eq_true rfl)
  rw [lg_entry_eq]
  generalize (lg_sl ([.ref (a 0), .int x1]) ++ List.replicate (2 - (lg_sl ([.ref (a 0), .int x1])).length) Slot.unset).toArray = ls at hl ⊢
  have hl : lv_has ls 2 [(0, .ref (a 0)), (1, .int x1)] := hl
  rw [f_X11_isSet] at hf
  refine lv_iload_n hx hb dX11_isSet_0 rfl (lv_at hl 1 rfl) ?_
  refine lv_if_le (tgt := 20) hx hb dX11_isSet_1 (by decide) (fun q1 => ?_) (fun q1 => ?_)
  · have hf := wk_t hf q1
    refine lv_iconst (v := 0) hx hb dX11_isSet_20 (by decide) ?_
    have e0 := wke1 hf
    subst e0
    exact W.zret (v := 0) (ty := .boolean) hx hb hr rfl (fun t ht hW => ⟨0, rfl, rfl, ht⟩) (fun q h => absurd h List.not_mem_nil) dX11_isSet_21
  · have hf := wk_f hf q1
    refine lv_iload_n hx hb dX11_isSet_4 rfl (lv_at hl 1 rfl) ?_
    refine lv_iconst (v := 1) hx hb dX11_isSet_5 (by decide) ?_
    refine lv_aload_n hx hb dX11_isSet_6 rfl (lv_at hl 0 rfl) ?_
    refine va_get (D := (dC, dI)) (ci := 11) (v := .ref (a 1)) (C := RX11) (T := TX11) (N := 22) hx hb hts in_X11_isSet_X11 hown hK hP 0 rfl rfl 0 (by decide) (hts _ lk_X11_isSet_RX11_7) (fun _ h9 => h9) rfl dX11_isSet_7 ?_
    refine lv_iconst (v := 0) hx hb dX11_isSet_10 (by decide) ?_
    refine wk_iald hx hb hK hP 1 0 (k := 0) rfl rfl (vp_lit (by decide)) (by decide) dX11_isSet_11 ?_
    refine lv_ishl hx hb dX11_isSet_12 ?_
    refine lv_icmp_ge (tgt := 20) hx hb dX11_isSet_13 (by decide) (fun q2 => ?_) (fun q2 => ?_)
    · have hf := wk_t hf q2
      refine lv_iconst (v := 0) hx hb dX11_isSet_20 (by decide) ?_
      have e0 := wke1 hf
      subst e0
      exact W.zret (v := 0) (ty := .boolean) hx hb hr rfl (fun t ht hW => ⟨0, rfl, rfl, ht⟩) (fun q h => absurd h List.not_mem_nil) dX11_isSet_21
    · have hf := wk_f hf q2
      refine lv_iconst (v := 1) hx hb dX11_isSet_16 (by decide) ?_
      refine lv_goto (tgt := 21) hx hb dX11_isSet_17 (by decide) ?_
      have e0 := wke1 hf
      subst e0
      exact W.zret (v := 1) (ty := .boolean) hx hb hr rfl (fun t ht hW => ⟨1, rfl, rfl, ht⟩) (fun q h => absurd h List.not_mem_nil) dX11_isSet_21
def f_X11_isLower (M_g : Nat → Int32) (x1 : Int32) (x2 : Int32) : Option (Int32) :=
  wkb1 (f_X11_of M_g x1 0) (fun r1 =>
  wkb1 (f_X11_of M_g x1 1) (fun r3 =>
  wkb1 (f_X11_of M_g x2 0) (fun r5 =>
  wkb1 (f_X11_of M_g x2 1) (fun r7 =>
  if (0 : Int32) < (((r1 + r3) - r5) - r7) then
    (some (1))
  else
    (if (((r1 + r3) - r5) - r7) = 0 then
      (if x2 ≤ x1 then
        (some (0))
      else
        (some (1)))
    else
      (some (0)))))))
set_option maxHeartbeats 4000000 in
set_option maxRecDepth 100000 in
theorem c_X11_isLower (l : Launch) (dC : Nat → ClassId) (dI : Nat → Nat → Nat) (Y : Nat → ClassId) (a : Nat → Nat) (M_g : Nat → Int32) (M_kept : Nat → Int32) (M_saved : Nat → Int32) (M_before : Nat → Int32) (M_isSaved : Int32) (M_changes : Int32) (M_isWithin : Int32) (M_code : Int32) (M_input : Nat → Int32) (M_length : Int32) (M_fault : Int32) (M_failed : Int32) (M_signs : Nat → Int32) (M_signMany : Int32) (M_column : Nat → Int32) (M_loads : Nat → Int32) (M_many : Int32) (M_sums : Nat → Int32) (M_groups : Nat → Int32) (M_at : Int32) (M_told : Nat → Int32) (M_toldMany : Int32) (x1 : Int32) (x2 : Int32) (r : Int32) (hf : f_X11_isLower M_g x1 x2 = some (r)) : Met l yX11_isLower wsX11_isLower ({ frames := 1, cells := 0, slots := 0, locals := 22 } : Room) (va_Pc [.ref (a 0), .int x1, .int x2] (wk_B (dC, dI) Y (wX11 Y a M_g M_kept M_saved M_before M_isSaved M_changes M_isWithin M_code M_input M_length M_fault M_failed M_signs M_signMany M_column M_loads M_many M_sums M_groups M_at M_told M_toldMany))) (vp_Si (fun r2 => r2 = r)) 0 0 (fun _ => False) := by
  refine Met.ofW (cc := cX11_isLower) (maxL := 4) (ret := (some .boolean)) (by decide) rfl ?_
  intro p e s m args below meth c s₁ B hml hv
  obtain ⟨rfl, hP, hK⟩ := hv
  have hx := B.exec
  have hb := B.bytes
  have hr := B.returns
  have hts := atoms_spec (ws := wsX11_isLower) B.pre
  have hown : s.vm.findClass RX11 = some m.cls := findClass_of_methodNamed B.named
  have hlocks := B.notSynchronized
  have C0 : wk_C p s m _ meth c cX11_isLower 4 (some .boolean) wsX11_isLower RX11 := ⟨hx, hb, hml, hr, hlocks, hown, hts⟩
  have hP : va_P (dC, dI) vwCl [(a 0, .inr (11, [.ref (a 1), .ref (a 2), .ref (a 3), .ref (a 4), .int M_isSaved, .int M_changes, .int M_isWithin, .int M_code, .ref (a 5), .int M_length, .int M_fault, .int M_failed, .ref (a 6), .int M_signMany, .ref (a 7), .ref (a 8), .int M_many, .ref (a 9), .ref (a 10), .int M_at, .ref (a 11), .int M_toldMany])), (a 1, .inl (Y 0, 238, .inl M_g)), (a 2, .inl (Y 0, 1904, .inl M_kept)), (a 3, .inl (Y 0, 238, .inl M_saved)), (a 4, .inl (Y 0, 238, .inl M_before)), (a 5, .inl (Y 0, 60, .inl M_input)), (a 6, .inl (Y 2, 100, .inl M_signs)), (a 7, .inl (Y 0, 6, .inl M_column)), (a 8, .inl (Y 0, 6, .inl M_loads)), (a 9, .inl (Y 0, 2048, .inl M_sums)), (a 10, .inl (Y 0, 2048, .inl M_groups)), (a 11, .inl (Y 0, 155, .inl M_told))] s.heap := hP
  have hl := lv_entry ([.ref (a 0), .int x1, .int x2]) (n := 4) (Nat.le_of_ble_eq_true rfl)
  rw [lg_entry_eq]
  generalize (lg_sl ([.ref (a 0), .int x1, .int x2]) ++ List.replicate (4 - (lg_sl ([.ref (a 0), .int x1, .int x2])).length) Slot.unset).toArray = ls at hl ⊢
  have hl : lv_has ls 4 [(0, .ref (a 0)), (1, .int x1), (2, .int x2)] := hl
  rw [f_X11_isLower] at hf
  refine lv_aload_n hx hb dX11_isLower_0 rfl (lv_at hl 0 rfl) ?_
  refine lv_iload_n hx hb dX11_isLower_1 rfl (lv_at hl 1 rfl) ?_
  refine lv_iconst (v := 0) hx hb dX11_isLower_2 (by decide) ?_
  obtain ⟨r1, hr2, hf⟩ := wkb1_s hf
  have hPc := hP.sub (ws' := (wX11 Y a M_g M_kept M_saved M_before M_isSaved M_changes M_isWithin M_code M_input M_length M_fault M_failed M_signs M_signMany M_column M_loads M_many M_sums M_groups M_at M_told M_toldMany)) [0, 1, 2, 3, 4, 5, 6, 7, 8, 9, 10, 11] rfl
  refine wk_vi (As := [.int x1, .int 0]) (rest := []) ⟨hx, hb, hml, hown, hts⟩ (c_X11_of l dC dI Y a M_g M_kept M_saved M_before M_isSaved M_changes M_isWithin M_code M_input M_length M_fault M_failed M_signs M_signMany M_column M_loads M_many M_sums M_groups M_at M_told M_toldMany x1 0 r1 hr2) (cwV 2 hts gX11_isLower_X11_of rfl rfl rfl (by decide +kernel) ⟨Nat.le_of_ble_eq_true rfl, Nat.le_of_ble_eq_true rfl⟩) hK hPc (va_recv hK hP (ci := 11) (q0 := 0) rfl rfl) rfl hl.1 rfl (Nat.le_of_ble_eq_true rfl) dX11_isLower_3 ⟨Nat.le_of_ble_eq_true rfl, Nat.le_of_ble_eq_true rfl⟩ ?_
  refine lv_aload_n hx hb dX11_isLower_6 rfl (lv_at hl 0 rfl) ?_
  refine lv_iload_n hx hb dX11_isLower_7 rfl (lv_at hl 1 rfl) ?_
  refine lv_iconst (v := 1) hx hb dX11_isLower_8 (by decide) ?_
  obtain ⟨r3, hr4, hf⟩ := wkb1_s hf
  have hPc := hP.sub (ws' := (wX11 Y a M_g M_kept M_saved M_before M_isSaved M_changes M_isWithin M_code M_input M_length M_fault M_failed M_signs M_signMany M_column M_loads M_many M_sums M_groups M_at M_told M_toldMany)) [0, 1, 2, 3, 4, 5, 6, 7, 8, 9, 10, 11] rfl
  refine wk_vi (As := [.int x1, .int 1]) (rest := [.int r1]) ⟨hx, hb, hml, hown, hts⟩ (c_X11_of l dC dI Y a M_g M_kept M_saved M_before M_isSaved M_changes M_isWithin M_code M_input M_length M_fault M_failed M_signs M_signMany M_column M_loads M_many M_sums M_groups M_at M_told M_toldMany x1 1 r3 hr4) (cwV 2 hts gX11_isLower_X11_of rfl rfl rfl (by decide +kernel) ⟨Nat.le_of_ble_eq_true rfl, Nat.le_of_ble_eq_true rfl⟩) hK hPc (va_recv hK hP (ci := 11) (q0 := 0) rfl rfl) rfl hl.1 rfl (Nat.le_of_ble_eq_true rfl) dX11_isLower_9 ⟨Nat.le_of_ble_eq_true rfl, Nat.le_of_ble_eq_true rfl⟩ ?_
  refine lv_iadd hx hb dX11_isLower_12 ?_
  refine lv_aload_n hx hb dX11_isLower_13 rfl (lv_at hl 0 rfl) ?_
  refine lv_iload_n hx hb dX11_isLower_14 rfl (lv_at hl 2 rfl) ?_
  refine lv_iconst (v := 0) hx hb dX11_isLower_15 (by decide) ?_
  obtain ⟨r5, hr6, hf⟩ := wkb1_s hf
  have hPc := hP.sub (ws' := (wX11 Y a M_g M_kept M_saved M_before M_isSaved M_changes M_isWithin M_code M_input M_length M_fault M_failed M_signs M_signMany M_column M_loads M_many M_sums M_groups M_at M_told M_toldMany)) [0, 1, 2, 3, 4, 5, 6, 7, 8, 9, 10, 11] rfl
  refine wk_vi (As := [.int x2, .int 0]) (rest := [.int (r1 + r3)]) ⟨hx, hb, hml, hown, hts⟩ (c_X11_of l dC dI Y a M_g M_kept M_saved M_before M_isSaved M_changes M_isWithin M_code M_input M_length M_fault M_failed M_signs M_signMany M_column M_loads M_many M_sums M_groups M_at M_told M_toldMany x2 0 r5 hr6) (cwV 2 hts gX11_isLower_X11_of rfl rfl rfl (by decide +kernel) ⟨Nat.le_of_ble_eq_true rfl, Nat.le_of_ble_eq_true rfl⟩) hK hPc (va_recv hK hP (ci := 11) (q0 := 0) rfl rfl) rfl hl.1 rfl (Nat.le_of_ble_eq_true rfl) dX11_isLower_16 ⟨Nat.le_of_ble_eq_true rfl, Nat.le_of_ble_eq_true rfl⟩ ?_
  refine lv_isub hx hb dX11_isLower_19 ?_
  refine lv_aload_n hx hb dX11_isLower_20 rfl (lv_at hl 0 rfl) ?_
  refine lv_iload_n hx hb dX11_isLower_21 rfl (lv_at hl 2 rfl) ?_
  refine lv_iconst (v := 1) hx hb dX11_isLower_22 (by decide) ?_
  obtain ⟨r7, hr8, hf⟩ := wkb1_s hf
  have hPc := hP.sub (ws' := (wX11 Y a M_g M_kept M_saved M_before M_isSaved M_changes M_isWithin M_code M_input M_length M_fault M_failed M_signs M_signMany M_column M_loads M_many M_sums M_groups M_at M_told M_toldMany)) [0, 1, 2, 3, 4, 5, 6, 7, 8, 9, 10, 11] rfl
  refine wk_vi (As := [.int x2, .int 1]) (rest := [.int ((r1 + r3) - r5)]) ⟨hx, hb, hml, hown, hts⟩ (c_X11_of l dC dI Y a M_g M_kept M_saved M_before M_isSaved M_changes M_isWithin M_code M_input M_length M_fault M_failed M_signs M_signMany M_column M_loads M_many M_sums M_groups M_at M_told M_toldMany x2 1 r7 hr8) (cwV 2 hts gX11_isLower_X11_of rfl rfl rfl (by decide +kernel) ⟨Nat.le_of_ble_eq_true rfl, Nat.le_of_ble_eq_true rfl⟩) hK hPc (va_recv hK hP (ci := 11) (q0 := 0) rfl rfl) rfl hl.1 rfl (Nat.le_of_ble_eq_true rfl) dX11_isLower_23 ⟨Nat.le_of_ble_eq_true rfl, Nat.le_of_ble_eq_true rfl⟩ ?_
  refine lv_isub hx hb dX11_isLower_26 ?_
  refine lv_istore_n (lv' := [(3, .int (((r1 + r3) - r5) - r7)), (0, .ref (a 0)), (1, .int x1), (2, .int x2)]) hx hb dX11_isLower_27 rfl hl (by decide) rfl (fun ls hl => ?_)
  refine lv_iload_n hx hb dX11_isLower_28 rfl (lv_at hl 0 rfl) ?_
  refine lv_if_gt (tgt := 41) hx hb dX11_isLower_29 (by decide) (fun q9 => ?_) (fun q9 => ?_)
  · have hf := wk_t hf q9
    refine lv_iconst (v := 1) hx hb dX11_isLower_41 (by decide) ?_
    refine lv_goto (tgt := 46) hx hb dX11_isLower_42 (by decide) ?_
    have e0 := wke1 hf
    subst e0
    exact W.zret (v := 1) (ty := .boolean) hx hb hr rfl (fun t ht hW => ⟨1, rfl, rfl, ht⟩) (fun q h => absurd h List.not_mem_nil) dX11_isLower_46
  · have hf := wk_f hf q9
    refine lv_iload_n hx hb dX11_isLower_32 rfl (lv_at hl 0 rfl) ?_
    refine lv_if_ne (tgt := 45) hx hb dX11_isLower_33 (by decide) (fun q10 => ?_) (fun q10 => ?_)
    · have hf := wk_f hf q10
      refine lv_iconst (v := 0) hx hb dX11_isLower_45 (by decide) ?_
      have e0 := wke1 hf
      subst e0
      exact W.zret (v := 0) (ty := .boolean) hx hb hr rfl (fun t ht hW => ⟨0, rfl, rfl, ht⟩) (fun q h => absurd h List.not_mem_nil) dX11_isLower_46
    · have hf := wk_t hf q10
      refine lv_iload_n hx hb dX11_isLower_36 rfl (lv_at hl 2 rfl) ?_
      refine lv_iload_n hx hb dX11_isLower_37 rfl (lv_at hl 3 rfl) ?_
      refine lv_icmp_ge (tgt := 45) hx hb dX11_isLower_38 (by decide) (fun q11 => ?_) (fun q11 => ?_)
      · have hf := wk_t hf q11
        refine lv_iconst (v := 0) hx hb dX11_isLower_45 (by decide) ?_
        have e0 := wke1 hf
        subst e0
        exact W.zret (v := 0) (ty := .boolean) hx hb hr rfl (fun t ht hW => ⟨0, rfl, rfl, ht⟩) (fun q h => absurd h List.not_mem_nil) dX11_isLower_46
      · have hf := wk_f hf q11
        refine lv_iconst (v := 1) hx hb dX11_isLower_41 (by decide) ?_
        refine lv_goto (tgt := 46) hx hb dX11_isLower_42 (by decide) ?_
        have e0 := wke1 hf
        subst e0
        exact W.zret (v := 1) (ty := .boolean) hx hb hr rfl (fun t ht hW => ⟨1, rfl, rfl, ht⟩) (fun q h => absurd h List.not_mem_nil) dX11_isLower_46
theorem lk_X11_lays_RX11_7 : Cond.fieldLink RX11 7 "CircusLedgerModel" "g" "[I" ∈ wsX11_lays := by decide +kernel
theorem lk_X11_lays_RX11_36 : Cond.fieldLink RX11 36 "CircusLedgerModel" "column" "[I" ∈ wsX11_lays := by decide +kernel
theorem lk_X11_lays_RX11_39 : Cond.fieldLink RX11 39 "CircusLedgerModel" "loads" "[I" ∈ wsX11_lays := by decide +kernel
theorem lk_X11_lays_RX11_95 : Cond.fieldLink RX11 95 "CircusLedgerModel" "many" "I" ∈ wsX11_lays := by decide +kernel
theorem in_X11_lays_X11 : ∀ w ∈ u_ws RX11 TX11 22, w ∈ wsX11_lays := by decide +kernel
def f_X11_lays_L105 (M_g : Nat → Int32) (x1 : Int32) : Nat → Int32 → Int32 → (Nat → Int32) → (Nat → Int32) → Int32 → Option ((Nat → Int32) × (Nat → Int32) × Int32)
  | 0, _, _, _, _, _ => none
  | nn + 1, x2, x3, M_column, M_loads, M_many =>
    if x3 < 0 then
      (some (M_column, M_loads, M_many))
    else
      (gin x3 6 (wkl (upd M_loads x3.toNatClampNeg x2) (fun g2 =>
      gin x3 6 (wkb1 (f_X11_of M_g (M_column x3.toNatClampNeg) 0) (fun r5 =>
      f_X11_lays_L105 M_g x1 nn (x2 + r5) (x3 + (-1)) M_column g2 M_many)))))
def f_X11_lays_L33 (M_g : Nat → Int32) (x1 : Int32) (K7 : Int32 → (Nat → Int32) → (Nat → Int32) → Int32 → Option ((Nat → Int32) × (Nat → Int32) × Int32)) : Nat → Int32 → Int32 → (Nat → Int32) → (Nat → Int32) → Int32 → Option ((Nat → Int32) × (Nat → Int32) × Int32)
  | 0, _, _, _, _, _ => none
  | nn + 1, x2, x3, M_column, M_loads, M_many =>
    if x3 ≤ 0 then
      (gin x3 6 (wkl (upd M_column x3.toNatClampNeg x2) (fun g2 =>
      wkl ((M_many + 1)) (fun v4 =>
      K7 (x2 + 1) g2 M_loads v4))))
    else
      (gin (x3 - 1) 6 (wkb1 (f_X11_isLower M_g x2 (M_column (x3 - 1).toNatClampNeg)) (fun r6 =>
      if r6 = 0 then
        (gin x3 6 (wkl (upd M_column x3.toNatClampNeg x2) (fun g9 =>
        wkl ((M_many + 1)) (fun v11 =>
        K7 (x2 + 1) g9 M_loads v11))))
      else
        (gin (x3 - 1) 6 (gin x3 6 (wkl (upd M_column x3.toNatClampNeg (M_column (x3 - 1).toNatClampNeg)) (fun g13 =>
        f_X11_lays_L33 M_g x1 K7 nn x2 (x3 + (-1)) g13 M_loads M_many)))))))
def f_X11_lays_L7 (M_g : Nat → Int32) (x1 : Int32) : Nat → Int32 → (Nat → Int32) → (Nat → Int32) → Int32 → Option ((Nat → Int32) × (Nat → Int32) × Int32)
  | 0, _, _, _, _ => none
  | nn + 1, x2, M_column, M_loads, M_many =>
    if (M_g 0) ≤ x2 then
      (f_X11_lays_L105 M_g x1 FU 0 (M_many - 1) M_column M_loads M_many)
    else
      (if ((x1 >>> (x2 &&& 31)) &&& 1) = 0 then
        (f_X11_lays_L7 M_g x1 nn (x2 + 1) M_column M_loads M_many)
      else
        (f_X11_lays_L33 M_g x1 (f_X11_lays_L7 M_g x1 nn) FU x2 M_many M_column M_loads M_many))
def f_X11_lays (M_g : Nat → Int32) (M_column : Nat → Int32) (M_loads : Nat → Int32) (M_many : Int32) (x1 : Int32) : Option ((Nat → Int32) × (Nat → Int32) × Int32) :=
  f_X11_lays_L7 M_g x1 FU 0 M_column M_loads 0
set_option maxHeartbeats 4000000 in
set_option maxRecDepth 100000 in
theorem wl_X11_lays_L105 {p : Program} {l : Launch} {e : Env} {s : State} {m : MethodId} {args : Array Value} {below : List Frame} {meth : Method} {c : Code} {dC : Nat → ClassId} {dI : Nat → Nat → Nat} {Y : Nat → ClassId} {a : Nat → Nat} {M_g : Nat → Int32} {M_kept : Nat → Int32} {M_saved : Nat → Int32} {M_before : Nat → Int32} {M_isSaved : Int32} {M_changes : Int32} {M_isWithin : Int32} {M_code : Int32} {M_input : Nat → Int32} {M_length : Int32} {M_fault : Int32} {M_failed : Int32} {M_signs : Nat → Int32} {M_signMany : Int32} {M_sums : Nat → Int32} {M_groups : Nat → Int32} {M_at : Int32} {M_told : Nat → Int32} {M_toldMany : Int32} {x1 : Int32} {zM_column : Nat → Int32} {zM_loads : Nat → Int32} {zM_many : Int32}  (C0 : wk_C p s m args meth c cX11_lays 4 none wsX11_lays RX11) {A : Nat → Prop} (hK : va_K (dC, dI) vwCl (vTy Y) s) (hA : ∀ q, s.heap.size ≤ q → A q) : ∀ (nn : Nat) (x2 : Int32) (x3 : Int32)  (M_column : Nat → Int32) (M_loads : Nat → Int32) (M_many : Int32), f_X11_lays_L105 M_g x1 nn x2 x3 M_column M_loads M_many = some (zM_column, zM_loads, zM_many) → ∀ (H : Heap) (locs : List Loc), va_P (dC, dI) vwCl (wX11 Y a M_g M_kept M_saved M_before M_isSaved M_changes M_isWithin M_code M_input M_length M_fault M_failed M_signs M_signMany M_column M_loads M_many M_sums M_groups M_at M_told M_toldMany) H → va_D A (wX11 Y a M_g M_kept M_saved M_before M_isSaved M_changes M_isWithin M_code M_input M_length M_fault M_failed M_signs M_signMany M_column M_loads M_many M_sums M_groups M_at M_told M_toldMany) → va_S A s.heap H locs → ∀ (ls : Array Slot), lv_has ls 4 [(0, .ref (a 0)), (2, .int x2), (3, .int x3)] → W p l e (headSpec wsX11_lays ({ frames := 2, cells := 0, slots := 0, locals := 45 } : Room)).room s m args below meth c H locs 0 0 (MQ below (va_Qv (fun (_ : Unit) => True) (fun _ t => wk_X (dC, dI) Y (wX11 Y a M_g M_kept M_saved M_before M_isSaved M_changes M_isWithin M_code M_input M_length M_fault M_failed M_signs M_signMany zM_column zM_loads zM_many M_sums M_groups M_at M_told M_toldMany) A t) A) args s 0 0 A) (F0 m 105 ls []) := by
  have C0 := C0
  obtain ⟨hx, hb, hml, hr, hlocks, hown, hts⟩ := id C0
  intro nn
  induction nn with
  | zero =>
    intro x2 x3 M_column M_loads M_many hf
    rw [f_X11_lays_L105] at hf
    cases hf
  | succ nn ih =>
    intro x2 x3 M_column M_loads M_many hf H locs hP hD hS ls hl
    rw [f_X11_lays_L105] at hf
    have hP : va_P (dC, dI) vwCl [(a 0, .inr (11, [.ref (a 1), .ref (a 2), .ref (a 3), .ref (a 4), .int M_isSaved, .int M_changes, .int M_isWithin, .int M_code, .ref (a 5), .int M_length, .int M_fault, .int M_failed, .ref (a 6), .int M_signMany, .ref (a 7), .ref (a 8), .int M_many, .ref (a 9), .ref (a 10), .int M_at, .ref (a 11), .int M_toldMany])), (a 1, .inl (Y 0, 238, .inl M_g)), (a 2, .inl (Y 0, 1904, .inl M_kept)), (a 3, .inl (Y 0, 238, .inl M_saved)), (a 4, .inl (Y 0, 238, .inl M_before)), (a 5, .inl (Y 0, 60, .inl M_input)), (a 6, .inl (Y 2, 100, .inl M_signs)), (a 7, .inl (Y 0, 6, .inl M_column)), (a 8, .inl (Y 0, 6, .inl M_loads)), (a 9, .inl (Y 0, 2048, .inl M_sums)), (a 10, .inl (Y 0, 2048, .inl M_groups)), (a 11, .inl (Y 0, 155, .inl M_told))] H := hP
    have hD : va_D A [(a 0, .inr (11, [.ref (a 1), .ref (a 2), .ref (a 3), .ref (a 4), .int M_isSaved, .int M_changes, .int M_isWithin, .int M_code, .ref (a 5), .int M_length, .int M_fault, .int M_failed, .ref (a 6), .int M_signMany, .ref (a 7), .ref (a 8), .int M_many, .ref (a 9), .ref (a 10), .int M_at, .ref (a 11), .int M_toldMany])), (a 1, .inl (Y 0, 238, .inl M_g)), (a 2, .inl (Y 0, 1904, .inl M_kept)), (a 3, .inl (Y 0, 238, .inl M_saved)), (a 4, .inl (Y 0, 238, .inl M_before)), (a 5, .inl (Y 0, 60, .inl M_input)), (a 6, .inl (Y 2, 100, .inl M_signs)), (a 7, .inl (Y 0, 6, .inl M_column)), (a 8, .inl (Y 0, 6, .inl M_loads)), (a 9, .inl (Y 0, 2048, .inl M_sums)), (a 10, .inl (Y 0, 2048, .inl M_groups)), (a 11, .inl (Y 0, 155, .inl M_told))] := hD
    refine lv_iload_n hx hb dX11_lays_105 rfl (lv_at hl 2 rfl) ?_
    refine lv_if_lt (tgt := 136) hx hb dX11_lays_106 (by decide) (fun q1 => ?_) (fun q1 => ?_)
    · have hf := wk_t hf q1
      obtain ⟨e0, e1, e2⟩ := wke3 hf
      subst e0
      subst e1
      subst e2
      have hP9 := hP.sub (ws' := (wX11 Y a M_g M_kept M_saved M_before M_isSaved M_changes M_isWithin M_code M_input M_length M_fault M_failed M_signs M_signMany M_column M_loads M_many M_sums M_groups M_at M_told M_toldMany)) [0, 1, 2, 3, 4, 5, 6, 7, 8, 9, 10, 11] rfl
      have hD9 := hD.sub (ws' := (wX11 Y a M_g M_kept M_saved M_before M_isSaved M_changes M_isWithin M_code M_input M_length M_fault M_failed M_signs M_signMany M_column M_loads M_many M_sums M_groups M_at M_told M_toldMany)) [0, 1, 2, 3, 4, 5, 6, 7, 8, 9, 10, 11] (by decide) rfl
      exact W.vret hx hb hr (fun t ht hW => ⟨⟨(), rfl, trivial, by rw [ht]; exact hP9, va_K.moved hW.alike hK, hD9⟩, hS.F ht⟩) hS.2.2 dX11_lays_136
    · have hf := wk_f hf q1
      refine lv_aload_n hx hb dX11_lays_109 rfl (lv_at hl 0 rfl) ?_
      refine va_get (D := (dC, dI)) (ci := 11) (v := .ref (a 8)) (C := RX11) (T := TX11) (N := 22) hx hb hts in_X11_lays_X11 hown hK hP 0 rfl rfl 15 (by decide) (hts _ lk_X11_lays_RX11_39) (fun _ h9 => h9) rfl dX11_lays_110 ?_
      refine lv_iload_n hx hb dX11_lays_113 rfl (lv_at hl 2 rfl) ?_
      refine lv_iload_n hx hb dX11_lays_114 rfl (lv_at hl 1 rfl) ?_
      obtain ⟨h3, hf⟩ := gin_s hf
      refine wk_iast hx hb hK hP hD hS 8 0 (k := x3.toNatClampNeg) rfl rfl h3 rfl dX11_lays_115 (fun g2 H locs eg2 hP hD hS => ?_)
      have hP : va_P (dC, dI) vwCl [(a 0, .inr (11, [.ref (a 1), .ref (a 2), .ref (a 3), .ref (a 4), .int M_isSaved, .int M_changes, .int M_isWithin, .int M_code, .ref (a 5), .int M_length, .int M_fault, .int M_failed, .ref (a 6), .int M_signMany, .ref (a 7), .ref (a 8), .int M_many, .ref (a 9), .ref (a 10), .int M_at, .ref (a 11), .int M_toldMany])), (a 1, .inl (Y 0, 238, .inl M_g)), (a 2, .inl (Y 0, 1904, .inl M_kept)), (a 3, .inl (Y 0, 238, .inl M_saved)), (a 4, .inl (Y 0, 238, .inl M_before)), (a 5, .inl (Y 0, 60, .inl M_input)), (a 6, .inl (Y 2, 100, .inl M_signs)), (a 7, .inl (Y 0, 6, .inl M_column)), (a 8, .inl (Y 0, 6, .inl g2)), (a 9, .inl (Y 0, 2048, .inl M_sums)), (a 10, .inl (Y 0, 2048, .inl M_groups)), (a 11, .inl (Y 0, 155, .inl M_told))] H := hP
      have hD : va_D A [(a 0, .inr (11, [.ref (a 1), .ref (a 2), .ref (a 3), .ref (a 4), .int M_isSaved, .int M_changes, .int M_isWithin, .int M_code, .ref (a 5), .int M_length, .int M_fault, .int M_failed, .ref (a 6), .int M_signMany, .ref (a 7), .ref (a 8), .int M_many, .ref (a 9), .ref (a 10), .int M_at, .ref (a 11), .int M_toldMany])), (a 1, .inl (Y 0, 238, .inl M_g)), (a 2, .inl (Y 0, 1904, .inl M_kept)), (a 3, .inl (Y 0, 238, .inl M_saved)), (a 4, .inl (Y 0, 238, .inl M_before)), (a 5, .inl (Y 0, 60, .inl M_input)), (a 6, .inl (Y 2, 100, .inl M_signs)), (a 7, .inl (Y 0, 6, .inl M_column)), (a 8, .inl (Y 0, 6, .inl g2)), (a 9, .inl (Y 0, 2048, .inl M_sums)), (a 10, .inl (Y 0, 2048, .inl M_groups)), (a 11, .inl (Y 0, 155, .inl M_told))] := hD
      have hf := wkl_s hf eg2
      refine lv_iload_n hx hb dX11_lays_116 rfl (lv_at hl 1 rfl) ?_
      refine lv_aload_n hx hb dX11_lays_117 rfl (lv_at hl 0 rfl) ?_
      refine lv_aload_n hx hb dX11_lays_118 rfl (lv_at hl 0 rfl) ?_
      refine va_get (D := (dC, dI)) (ci := 11) (v := .ref (a 7)) (C := RX11) (T := TX11) (N := 22) hx hb hts in_X11_lays_X11 hown hK hP 0 rfl rfl 14 (by decide) (hts _ lk_X11_lays_RX11_36) (fun _ h9 => h9) rfl dX11_lays_119 ?_
      refine lv_iload_n hx hb dX11_lays_122 rfl (lv_at hl 2 rfl) ?_
      obtain ⟨h4, hf⟩ := gin_s hf
      refine wk_iald hx hb hK hP 7 0 rfl rfl h4 rfl dX11_lays_123 ?_
      refine lv_iconst (v := 0) hx hb dX11_lays_124 (by decide) ?_
      obtain ⟨r5, hr6, hf⟩ := wkb1_s hf
      have hPc := hP.sub (ws' := (wX11 Y a M_g M_kept M_saved M_before M_isSaved M_changes M_isWithin M_code M_input M_length M_fault M_failed M_signs M_signMany M_column g2 M_many M_sums M_groups M_at M_told M_toldMany)) [0, 1, 2, 3, 4, 5, 6, 7, 8, 9, 10, 11] rfl
      refine wk_vi (As := [.int (M_column x3.toNatClampNeg), .int 0]) (rest := [.int x2]) ⟨hx, hb, hml, hown, hts⟩ (c_X11_of l dC dI Y a M_g M_kept M_saved M_before M_isSaved M_changes M_isWithin M_code M_input M_length M_fault M_failed M_signs M_signMany M_column g2 M_many M_sums M_groups M_at M_told M_toldMany (M_column x3.toNatClampNeg) 0 r5 hr6) (cwV 2 hts gX11_lays_X11_of rfl rfl rfl (by decide +kernel) ⟨Nat.le_of_ble_eq_true rfl, Nat.le_of_ble_eq_true rfl⟩) hK hPc (va_recv hK hP (ci := 11) (q0 := 0) rfl rfl) rfl hl.1 rfl (Nat.le_of_ble_eq_true rfl) dX11_lays_125 ⟨Nat.le_of_ble_eq_true rfl, Nat.le_of_ble_eq_true rfl⟩ ?_
      refine lv_iadd hx hb dX11_lays_128 ?_
      refine lv_istore_n (lv' := [(2, .int (x2 + r5)), (0, .ref (a 0)), (3, .int x3)]) hx hb dX11_lays_129 rfl hl (by decide) rfl (fun ls hl => ?_)
      refine lv_iinc (v := (x3 + (-1))) (lv' := [(3, .int (x3 + (-1))), (2, .int (x2 + r5)), (0, .ref (a 0))]) hx hb dX11_lays_130 hl (k := 2) rfl rfl (by decide) rfl (fun ls hl => ?_)
      refine lv_goto (tgt := 105) hx hb dX11_lays_133 (by decide) ?_
      exact ih (x2 + r5) (x3 + (-1)) M_column g2 M_many hf H locs hP hD hS ls (lv_sub hl [2, 1, 0] rfl)
set_option maxHeartbeats 4000000 in
set_option maxRecDepth 100000 in
theorem wl_X11_lays_L33 {p : Program} {l : Launch} {e : Env} {s : State} {m : MethodId} {args : Array Value} {below : List Frame} {meth : Method} {c : Code} {dC : Nat → ClassId} {dI : Nat → Nat → Nat} {Y : Nat → ClassId} {a : Nat → Nat} {M_g : Nat → Int32} {M_kept : Nat → Int32} {M_saved : Nat → Int32} {M_before : Nat → Int32} {M_isSaved : Int32} {M_changes : Int32} {M_isWithin : Int32} {M_code : Int32} {M_input : Nat → Int32} {M_length : Int32} {M_fault : Int32} {M_failed : Int32} {M_signs : Nat → Int32} {M_signMany : Int32} {M_sums : Nat → Int32} {M_groups : Nat → Int32} {M_at : Int32} {M_told : Nat → Int32} {M_toldMany : Int32} {x1 : Int32} {zM_column : Nat → Int32} {zM_loads : Nat → Int32} {zM_many : Int32} {K7 : Int32 → (Nat → Int32) → (Nat → Int32) → Int32 → Option ((Nat → Int32) × (Nat → Int32) × Int32)} (C0 : wk_C p s m args meth c cX11_lays 4 none wsX11_lays RX11) {A : Nat → Prop} (hK : va_K (dC, dI) vwCl (vTy Y) s) (hA : ∀ q, s.heap.size ≤ q → A q) (hK7 : ∀ (x2 : Int32) (M_column : Nat → Int32) (M_loads : Nat → Int32) (M_many : Int32), K7 x2 M_column M_loads M_many = some (zM_column, zM_loads, zM_many) → ∀ (H : Heap) (locs : List Loc), va_P (dC, dI) vwCl (wX11 Y a M_g M_kept M_saved M_before M_isSaved M_changes M_isWithin M_code M_input M_length M_fault M_failed M_signs M_signMany M_column M_loads M_many M_sums M_groups M_at M_told M_toldMany) H → va_D A (wX11 Y a M_g M_kept M_saved M_before M_isSaved M_changes M_isWithin M_code M_input M_length M_fault M_failed M_signs M_signMany M_column M_loads M_many M_sums M_groups M_at M_told M_toldMany) → va_S A s.heap H locs → ∀ (ls : Array Slot), lv_has ls 4 [(0, .ref (a 0)), (1, .int x1), (2, .int x2)] → W p l e (headSpec wsX11_lays ({ frames := 2, cells := 0, slots := 0, locals := 45 } : Room)).room s m args below meth c H locs 0 0 (MQ below (va_Qv (fun (_ : Unit) => True) (fun _ t => wk_X (dC, dI) Y (wX11 Y a M_g M_kept M_saved M_before M_isSaved M_changes M_isWithin M_code M_input M_length M_fault M_failed M_signs M_signMany zM_column zM_loads zM_many M_sums M_groups M_at M_told M_toldMany) A t) A) args s 0 0 A) (F0 m 7 ls [])) : ∀ (nn : Nat) (x2 : Int32) (x3 : Int32)  (M_column : Nat → Int32) (M_loads : Nat → Int32) (M_many : Int32), f_X11_lays_L33 M_g x1 K7 nn x2 x3 M_column M_loads M_many = some (zM_column, zM_loads, zM_many) → ∀ (H : Heap) (locs : List Loc), va_P (dC, dI) vwCl (wX11 Y a M_g M_kept M_saved M_before M_isSaved M_changes M_isWithin M_code M_input M_length M_fault M_failed M_signs M_signMany M_column M_loads M_many M_sums M_groups M_at M_told M_toldMany) H → va_D A (wX11 Y a M_g M_kept M_saved M_before M_isSaved M_changes M_isWithin M_code M_input M_length M_fault M_failed M_signs M_signMany M_column M_loads M_many M_sums M_groups M_at M_told M_toldMany) → va_S A s.heap H locs → ∀ (ls : Array Slot), lv_has ls 4 [(0, .ref (a 0)), (1, .int x1), (2, .int x2), (3, .int x3)] → W p l e (headSpec wsX11_lays ({ frames := 2, cells := 0, slots := 0, locals := 45 } : Room)).room s m args below meth c H locs 0 0 (MQ below (va_Qv (fun (_ : Unit) => True) (fun _ t => wk_X (dC, dI) Y (wX11 Y a M_g M_kept M_saved M_before M_isSaved M_changes M_isWithin M_code M_input M_length M_fault M_failed M_signs M_signMany zM_column zM_loads zM_many M_sums M_groups M_at M_told M_toldMany) A t) A) args s 0 0 A) (F0 m 33 ls []) := by
  have C0 := C0
  obtain ⟨hx, hb, hml, hr, hlocks, hown, hts⟩ := id C0
  intro nn
  induction nn with
  | zero =>
    intro x2 x3 M_column M_loads M_many hf
    rw [f_X11_lays_L33] at hf
    cases hf
  | succ nn ih =>
    intro x2 x3 M_column M_loads M_many hf H locs hP hD hS ls hl
    rw [f_X11_lays_L33] at hf
    have hP : va_P (dC, dI) vwCl [(a 0, .inr (11, [.ref (a 1), .ref (a 2), .ref (a 3), .ref (a 4), .int M_isSaved, .int M_changes, .int M_isWithin, .int M_code, .ref (a 5), .int M_length, .int M_fault, .int M_failed, .ref (a 6), .int M_signMany, .ref (a 7), .ref (a 8), .int M_many, .ref (a 9), .ref (a 10), .int M_at, .ref (a 11), .int M_toldMany])), (a 1, .inl (Y 0, 238, .inl M_g)), (a 2, .inl (Y 0, 1904, .inl M_kept)), (a 3, .inl (Y 0, 238, .inl M_saved)), (a 4, .inl (Y 0, 238, .inl M_before)), (a 5, .inl (Y 0, 60, .inl M_input)), (a 6, .inl (Y 2, 100, .inl M_signs)), (a 7, .inl (Y 0, 6, .inl M_column)), (a 8, .inl (Y 0, 6, .inl M_loads)), (a 9, .inl (Y 0, 2048, .inl M_sums)), (a 10, .inl (Y 0, 2048, .inl M_groups)), (a 11, .inl (Y 0, 155, .inl M_told))] H := hP
    have hD : va_D A [(a 0, .inr (11, [.ref (a 1), .ref (a 2), .ref (a 3), .ref (a 4), .int M_isSaved, .int M_changes, .int M_isWithin, .int M_code, .ref (a 5), .int M_length, .int M_fault, .int M_failed, .ref (a 6), .int M_signMany, .ref (a 7), .ref (a 8), .int M_many, .ref (a 9), .ref (a 10), .int M_at, .ref (a 11), .int M_toldMany])), (a 1, .inl (Y 0, 238, .inl M_g)), (a 2, .inl (Y 0, 1904, .inl M_kept)), (a 3, .inl (Y 0, 238, .inl M_saved)), (a 4, .inl (Y 0, 238, .inl M_before)), (a 5, .inl (Y 0, 60, .inl M_input)), (a 6, .inl (Y 2, 100, .inl M_signs)), (a 7, .inl (Y 0, 6, .inl M_column)), (a 8, .inl (Y 0, 6, .inl M_loads)), (a 9, .inl (Y 0, 2048, .inl M_sums)), (a 10, .inl (Y 0, 2048, .inl M_groups)), (a 11, .inl (Y 0, 155, .inl M_told))] := hD
    refine lv_iload_n hx hb dX11_lays_33 rfl (lv_at hl 3 rfl) ?_
    refine lv_if_le (tgt := 73) hx hb dX11_lays_34 (by decide) (fun q1 => ?_) (fun q1 => ?_)
    · have hf := wk_t hf q1
      refine lv_aload_n hx hb dX11_lays_73 rfl (lv_at hl 0 rfl) ?_
      refine va_get (D := (dC, dI)) (ci := 11) (v := .ref (a 7)) (C := RX11) (T := TX11) (N := 22) hx hb hts in_X11_lays_X11 hown hK hP 0 rfl rfl 14 (by decide) (hts _ lk_X11_lays_RX11_36) (fun _ h9 => h9) rfl dX11_lays_74 ?_
      refine lv_iload_n hx hb dX11_lays_77 rfl (lv_at hl 3 rfl) ?_
      refine lv_iload_n hx hb dX11_lays_78 rfl (lv_at hl 2 rfl) ?_
      obtain ⟨h3, hf⟩ := gin_s hf
      refine wk_iast hx hb hK hP hD hS 7 0 (k := x3.toNatClampNeg) rfl rfl h3 rfl dX11_lays_79 (fun g2 H locs eg2 hP hD hS => ?_)
      have hP : va_P (dC, dI) vwCl [(a 0, .inr (11, [.ref (a 1), .ref (a 2), .ref (a 3), .ref (a 4), .int M_isSaved, .int M_changes, .int M_isWithin, .int M_code, .ref (a 5), .int M_length, .int M_fault, .int M_failed, .ref (a 6), .int M_signMany, .ref (a 7), .ref (a 8), .int M_many, .ref (a 9), .ref (a 10), .int M_at, .ref (a 11), .int M_toldMany])), (a 1, .inl (Y 0, 238, .inl M_g)), (a 2, .inl (Y 0, 1904, .inl M_kept)), (a 3, .inl (Y 0, 238, .inl M_saved)), (a 4, .inl (Y 0, 238, .inl M_before)), (a 5, .inl (Y 0, 60, .inl M_input)), (a 6, .inl (Y 2, 100, .inl M_signs)), (a 7, .inl (Y 0, 6, .inl g2)), (a 8, .inl (Y 0, 6, .inl M_loads)), (a 9, .inl (Y 0, 2048, .inl M_sums)), (a 10, .inl (Y 0, 2048, .inl M_groups)), (a 11, .inl (Y 0, 155, .inl M_told))] H := hP
      have hD : va_D A [(a 0, .inr (11, [.ref (a 1), .ref (a 2), .ref (a 3), .ref (a 4), .int M_isSaved, .int M_changes, .int M_isWithin, .int M_code, .ref (a 5), .int M_length, .int M_fault, .int M_failed, .ref (a 6), .int M_signMany, .ref (a 7), .ref (a 8), .int M_many, .ref (a 9), .ref (a 10), .int M_at, .ref (a 11), .int M_toldMany])), (a 1, .inl (Y 0, 238, .inl M_g)), (a 2, .inl (Y 0, 1904, .inl M_kept)), (a 3, .inl (Y 0, 238, .inl M_saved)), (a 4, .inl (Y 0, 238, .inl M_before)), (a 5, .inl (Y 0, 60, .inl M_input)), (a 6, .inl (Y 2, 100, .inl M_signs)), (a 7, .inl (Y 0, 6, .inl g2)), (a 8, .inl (Y 0, 6, .inl M_loads)), (a 9, .inl (Y 0, 2048, .inl M_sums)), (a 10, .inl (Y 0, 2048, .inl M_groups)), (a 11, .inl (Y 0, 155, .inl M_told))] := hD
      have hf := wkl_s hf eg2
      refine lv_aload_n hx hb dX11_lays_80 rfl (lv_at hl 0 rfl) ?_
      refine lv_dup hx hb dX11_lays_81 rfl ?_
      refine va_get (D := (dC, dI)) (ci := 11) (v := .int M_many) (C := RX11) (T := TX11) (N := 22) hx hb hts in_X11_lays_X11 hown hK hP 0 rfl rfl 16 (by decide) (hts _ lk_X11_lays_RX11_95) (fun _ h9 => h9) rfl dX11_lays_82 ?_
      refine lv_iconst (v := 1) hx hb dX11_lays_85 (by decide) ?_
      refine lv_iadd hx hb dX11_lays_86 ?_
      refine lv_topi (fun v4 ev4 => ?_)
      have hf := wkl_s hf ev4
      refine va_put (D := (dC, dI)) (ci := 11) (v := .int v4) (ty := .int) (C := RX11) (T := TX11) (N := 22) hx hb hts in_X11_lays_X11 tyX11 tyX11_ok nmX11 hown hK hP hD hS 0 rfl rfl 16 (by decide) (hts _ lk_X11_lays_RX11_95) (fun _ h9 => h9) rfl (by decide +kernel) rfl rfl (Nat.le_of_ble_eq_true rfl) dX11_lays_87 (fun H locs hP hD hS => ?_)
      have hP : va_P (dC, dI) vwCl [(a 0, .inr (11, [.ref (a 1), .ref (a 2), .ref (a 3), .ref (a 4), .int M_isSaved, .int M_changes, .int M_isWithin, .int M_code, .ref (a 5), .int M_length, .int M_fault, .int M_failed, .ref (a 6), .int M_signMany, .ref (a 7), .ref (a 8), .int v4, .ref (a 9), .ref (a 10), .int M_at, .ref (a 11), .int M_toldMany])), (a 1, .inl (Y 0, 238, .inl M_g)), (a 2, .inl (Y 0, 1904, .inl M_kept)), (a 3, .inl (Y 0, 238, .inl M_saved)), (a 4, .inl (Y 0, 238, .inl M_before)), (a 5, .inl (Y 0, 60, .inl M_input)), (a 6, .inl (Y 2, 100, .inl M_signs)), (a 7, .inl (Y 0, 6, .inl g2)), (a 8, .inl (Y 0, 6, .inl M_loads)), (a 9, .inl (Y 0, 2048, .inl M_sums)), (a 10, .inl (Y 0, 2048, .inl M_groups)), (a 11, .inl (Y 0, 155, .inl M_told))] H := hP
      have hD : va_D A [(a 0, .inr (11, [.ref (a 1), .ref (a 2), .ref (a 3), .ref (a 4), .int M_isSaved, .int M_changes, .int M_isWithin, .int M_code, .ref (a 5), .int M_length, .int M_fault, .int M_failed, .ref (a 6), .int M_signMany, .ref (a 7), .ref (a 8), .int v4, .ref (a 9), .ref (a 10), .int M_at, .ref (a 11), .int M_toldMany])), (a 1, .inl (Y 0, 238, .inl M_g)), (a 2, .inl (Y 0, 1904, .inl M_kept)), (a 3, .inl (Y 0, 238, .inl M_saved)), (a 4, .inl (Y 0, 238, .inl M_before)), (a 5, .inl (Y 0, 60, .inl M_input)), (a 6, .inl (Y 2, 100, .inl M_signs)), (a 7, .inl (Y 0, 6, .inl g2)), (a 8, .inl (Y 0, 6, .inl M_loads)), (a 9, .inl (Y 0, 2048, .inl M_sums)), (a 10, .inl (Y 0, 2048, .inl M_groups)), (a 11, .inl (Y 0, 155, .inl M_told))] := hD
      refine lv_iinc (v := (x2 + 1)) (lv' := [(2, .int (x2 + 1)), (0, .ref (a 0)), (1, .int x1), (3, .int x3)]) hx hb dX11_lays_90 hl (k := 2) rfl rfl (by decide) rfl (fun ls hl => ?_)
      refine lv_goto (tgt := 7) hx hb dX11_lays_93 (by decide) ?_
      exact hK7 (x2 + 1) g2 M_loads v4 hf H locs hP hD hS ls (lv_sub hl [1, 2, 0] rfl)
    · have hf := wk_f hf q1
      refine lv_aload_n hx hb dX11_lays_37 rfl (lv_at hl 0 rfl) ?_
      refine lv_iload_n hx hb dX11_lays_38 rfl (lv_at hl 2 rfl) ?_
      refine lv_aload_n hx hb dX11_lays_39 rfl (lv_at hl 0 rfl) ?_
      refine va_get (D := (dC, dI)) (ci := 11) (v := .ref (a 7)) (C := RX11) (T := TX11) (N := 22) hx hb hts in_X11_lays_X11 hown hK hP 0 rfl rfl 14 (by decide) (hts _ lk_X11_lays_RX11_36) (fun _ h9 => h9) rfl dX11_lays_40 ?_
      refine lv_iload_n hx hb dX11_lays_43 rfl (lv_at hl 3 rfl) ?_
      refine lv_iconst (v := 1) hx hb dX11_lays_44 (by decide) ?_
      refine lv_isub hx hb dX11_lays_45 ?_
      obtain ⟨h5, hf⟩ := gin_s hf
      refine wk_iald hx hb hK hP 7 0 rfl rfl h5 rfl dX11_lays_46 ?_
      obtain ⟨r6, hr7, hf⟩ := wkb1_s hf
      have hPc := hP.sub (ws' := (wX11 Y a M_g M_kept M_saved M_before M_isSaved M_changes M_isWithin M_code M_input M_length M_fault M_failed M_signs M_signMany M_column M_loads M_many M_sums M_groups M_at M_told M_toldMany)) [0, 1, 2, 3, 4, 5, 6, 7, 8, 9, 10, 11] rfl
      refine wk_vi (As := [.int x2, .int (M_column (x3 - 1).toNatClampNeg)]) (rest := []) ⟨hx, hb, hml, hown, hts⟩ (c_X11_isLower l dC dI Y a M_g M_kept M_saved M_before M_isSaved M_changes M_isWithin M_code M_input M_length M_fault M_failed M_signs M_signMany M_column M_loads M_many M_sums M_groups M_at M_told M_toldMany x2 (M_column (x3 - 1).toNatClampNeg) r6 hr7) (cwV 2 hts gX11_lays_X11_isLower rfl rfl rfl (by decide +kernel) ⟨Nat.le_of_ble_eq_true rfl, Nat.le_of_ble_eq_true rfl⟩) hK hPc (va_recv hK hP (ci := 11) (q0 := 0) rfl rfl) rfl hl.1 rfl (Nat.le_of_ble_eq_true rfl) dX11_lays_47 ⟨Nat.le_of_ble_eq_true rfl, Nat.le_of_ble_eq_true rfl⟩ ?_
      refine lv_if_eq (tgt := 73) hx hb dX11_lays_50 (by decide) (fun q8 => ?_) (fun q8 => ?_)
      · have hf := wk_t hf q8
        refine lv_aload_n hx hb dX11_lays_73 rfl (lv_at hl 0 rfl) ?_
        refine va_get (D := (dC, dI)) (ci := 11) (v := .ref (a 7)) (C := RX11) (T := TX11) (N := 22) hx hb hts in_X11_lays_X11 hown hK hP 0 rfl rfl 14 (by decide) (hts _ lk_X11_lays_RX11_36) (fun _ h9 => h9) rfl dX11_lays_74 ?_
        refine lv_iload_n hx hb dX11_lays_77 rfl (lv_at hl 3 rfl) ?_
        refine lv_iload_n hx hb dX11_lays_78 rfl (lv_at hl 2 rfl) ?_
        obtain ⟨h10, hf⟩ := gin_s hf
        refine wk_iast hx hb hK hP hD hS 7 0 (k := x3.toNatClampNeg) rfl rfl h10 rfl dX11_lays_79 (fun g9 H locs eg9 hP hD hS => ?_)
        have hP : va_P (dC, dI) vwCl [(a 0, .inr (11, [.ref (a 1), .ref (a 2), .ref (a 3), .ref (a 4), .int M_isSaved, .int M_changes, .int M_isWithin, .int M_code, .ref (a 5), .int M_length, .int M_fault, .int M_failed, .ref (a 6), .int M_signMany, .ref (a 7), .ref (a 8), .int M_many, .ref (a 9), .ref (a 10), .int M_at, .ref (a 11), .int M_toldMany])), (a 1, .inl (Y 0, 238, .inl M_g)), (a 2, .inl (Y 0, 1904, .inl M_kept)), (a 3, .inl (Y 0, 238, .inl M_saved)), (a 4, .inl (Y 0, 238, .inl M_before)), (a 5, .inl (Y 0, 60, .inl M_input)), (a 6, .inl (Y 2, 100, .inl M_signs)), (a 7, .inl (Y 0, 6, .inl g9)), (a 8, .inl (Y 0, 6, .inl M_loads)), (a 9, .inl (Y 0, 2048, .inl M_sums)), (a 10, .inl (Y 0, 2048, .inl M_groups)), (a 11, .inl (Y 0, 155, .inl M_told))] H := hP
        have hD : va_D A [(a 0, .inr (11, [.ref (a 1), .ref (a 2), .ref (a 3), .ref (a 4), .int M_isSaved, .int M_changes, .int M_isWithin, .int M_code, .ref (a 5), .int M_length, .int M_fault, .int M_failed, .ref (a 6), .int M_signMany, .ref (a 7), .ref (a 8), .int M_many, .ref (a 9), .ref (a 10), .int M_at, .ref (a 11), .int M_toldMany])), (a 1, .inl (Y 0, 238, .inl M_g)), (a 2, .inl (Y 0, 1904, .inl M_kept)), (a 3, .inl (Y 0, 238, .inl M_saved)), (a 4, .inl (Y 0, 238, .inl M_before)), (a 5, .inl (Y 0, 60, .inl M_input)), (a 6, .inl (Y 2, 100, .inl M_signs)), (a 7, .inl (Y 0, 6, .inl g9)), (a 8, .inl (Y 0, 6, .inl M_loads)), (a 9, .inl (Y 0, 2048, .inl M_sums)), (a 10, .inl (Y 0, 2048, .inl M_groups)), (a 11, .inl (Y 0, 155, .inl M_told))] := hD
        have hf := wkl_s hf eg9
        refine lv_aload_n hx hb dX11_lays_80 rfl (lv_at hl 0 rfl) ?_
        refine lv_dup hx hb dX11_lays_81 rfl ?_
        refine va_get (D := (dC, dI)) (ci := 11) (v := .int M_many) (C := RX11) (T := TX11) (N := 22) hx hb hts in_X11_lays_X11 hown hK hP 0 rfl rfl 16 (by decide) (hts _ lk_X11_lays_RX11_95) (fun _ h9 => h9) rfl dX11_lays_82 ?_
        refine lv_iconst (v := 1) hx hb dX11_lays_85 (by decide) ?_
        refine lv_iadd hx hb dX11_lays_86 ?_
        refine lv_topi (fun v11 ev11 => ?_)
        have hf := wkl_s hf ev11
        refine va_put (D := (dC, dI)) (ci := 11) (v := .int v11) (ty := .int) (C := RX11) (T := TX11) (N := 22) hx hb hts in_X11_lays_X11 tyX11 tyX11_ok nmX11 hown hK hP hD hS 0 rfl rfl 16 (by decide) (hts _ lk_X11_lays_RX11_95) (fun _ h9 => h9) rfl (by decide +kernel) rfl rfl (Nat.le_of_ble_eq_true rfl) dX11_lays_87 (fun H locs hP hD hS => ?_)
        have hP : va_P (dC, dI) vwCl [(a 0, .inr (11, [.ref (a 1), .ref (a 2), .ref (a 3), .ref (a 4), .int M_isSaved, .int M_changes, .int M_isWithin, .int M_code, .ref (a 5), .int M_length, .int M_fault, .int M_failed, .ref (a 6), .int M_signMany, .ref (a 7), .ref (a 8), .int v11, .ref (a 9), .ref (a 10), .int M_at, .ref (a 11), .int M_toldMany])), (a 1, .inl (Y 0, 238, .inl M_g)), (a 2, .inl (Y 0, 1904, .inl M_kept)), (a 3, .inl (Y 0, 238, .inl M_saved)), (a 4, .inl (Y 0, 238, .inl M_before)), (a 5, .inl (Y 0, 60, .inl M_input)), (a 6, .inl (Y 2, 100, .inl M_signs)), (a 7, .inl (Y 0, 6, .inl g9)), (a 8, .inl (Y 0, 6, .inl M_loads)), (a 9, .inl (Y 0, 2048, .inl M_sums)), (a 10, .inl (Y 0, 2048, .inl M_groups)), (a 11, .inl (Y 0, 155, .inl M_told))] H := hP
        have hD : va_D A [(a 0, .inr (11, [.ref (a 1), .ref (a 2), .ref (a 3), .ref (a 4), .int M_isSaved, .int M_changes, .int M_isWithin, .int M_code, .ref (a 5), .int M_length, .int M_fault, .int M_failed, .ref (a 6), .int M_signMany, .ref (a 7), .ref (a 8), .int v11, .ref (a 9), .ref (a 10), .int M_at, .ref (a 11), .int M_toldMany])), (a 1, .inl (Y 0, 238, .inl M_g)), (a 2, .inl (Y 0, 1904, .inl M_kept)), (a 3, .inl (Y 0, 238, .inl M_saved)), (a 4, .inl (Y 0, 238, .inl M_before)), (a 5, .inl (Y 0, 60, .inl M_input)), (a 6, .inl (Y 2, 100, .inl M_signs)), (a 7, .inl (Y 0, 6, .inl g9)), (a 8, .inl (Y 0, 6, .inl M_loads)), (a 9, .inl (Y 0, 2048, .inl M_sums)), (a 10, .inl (Y 0, 2048, .inl M_groups)), (a 11, .inl (Y 0, 155, .inl M_told))] := hD
        refine lv_iinc (v := (x2 + 1)) (lv' := [(2, .int (x2 + 1)), (0, .ref (a 0)), (1, .int x1), (3, .int x3)]) hx hb dX11_lays_90 hl (k := 2) rfl rfl (by decide) rfl (fun ls hl => ?_)
        refine lv_goto (tgt := 7) hx hb dX11_lays_93 (by decide) ?_
        exact hK7 (x2 + 1) g9 M_loads v11 hf H locs hP hD hS ls (lv_sub hl [1, 2, 0] rfl)
      · have hf := wk_f hf q8
        refine lv_aload_n hx hb dX11_lays_53 rfl (lv_at hl 0 rfl) ?_
        refine va_get (D := (dC, dI)) (ci := 11) (v := .ref (a 7)) (C := RX11) (T := TX11) (N := 22) hx hb hts in_X11_lays_X11 hown hK hP 0 rfl rfl 14 (by decide) (hts _ lk_X11_lays_RX11_36) (fun _ h9 => h9) rfl dX11_lays_54 ?_
        refine lv_iload_n hx hb dX11_lays_57 rfl (lv_at hl 3 rfl) ?_
        refine lv_aload_n hx hb dX11_lays_58 rfl (lv_at hl 0 rfl) ?_
        refine va_get (D := (dC, dI)) (ci := 11) (v := .ref (a 7)) (C := RX11) (T := TX11) (N := 22) hx hb hts in_X11_lays_X11 hown hK hP 0 rfl rfl 14 (by decide) (hts _ lk_X11_lays_RX11_36) (fun _ h9 => h9) rfl dX11_lays_59 ?_
        refine lv_iload_n hx hb dX11_lays_62 rfl (lv_at hl 3 rfl) ?_
        refine lv_iconst (v := 1) hx hb dX11_lays_63 (by decide) ?_
        refine lv_isub hx hb dX11_lays_64 ?_
        obtain ⟨h12, hf⟩ := gin_s hf
        refine wk_iald hx hb hK hP 7 0 rfl rfl h12 rfl dX11_lays_65 ?_
        obtain ⟨h14, hf⟩ := gin_s hf
        refine wk_iast hx hb hK hP hD hS 7 0 (k := x3.toNatClampNeg) rfl rfl h14 rfl dX11_lays_66 (fun g13 H locs eg13 hP hD hS => ?_)
        have hP : va_P (dC, dI) vwCl [(a 0, .inr (11, [.ref (a 1), .ref (a 2), .ref (a 3), .ref (a 4), .int M_isSaved, .int M_changes, .int M_isWithin, .int M_code, .ref (a 5), .int M_length, .int M_fault, .int M_failed, .ref (a 6), .int M_signMany, .ref (a 7), .ref (a 8), .int M_many, .ref (a 9), .ref (a 10), .int M_at, .ref (a 11), .int M_toldMany])), (a 1, .inl (Y 0, 238, .inl M_g)), (a 2, .inl (Y 0, 1904, .inl M_kept)), (a 3, .inl (Y 0, 238, .inl M_saved)), (a 4, .inl (Y 0, 238, .inl M_before)), (a 5, .inl (Y 0, 60, .inl M_input)), (a 6, .inl (Y 2, 100, .inl M_signs)), (a 7, .inl (Y 0, 6, .inl g13)), (a 8, .inl (Y 0, 6, .inl M_loads)), (a 9, .inl (Y 0, 2048, .inl M_sums)), (a 10, .inl (Y 0, 2048, .inl M_groups)), (a 11, .inl (Y 0, 155, .inl M_told))] H := hP
        have hD : va_D A [(a 0, .inr (11, [.ref (a 1), .ref (a 2), .ref (a 3), .ref (a 4), .int M_isSaved, .int M_changes, .int M_isWithin, .int M_code, .ref (a 5), .int M_length, .int M_fault, .int M_failed, .ref (a 6), .int M_signMany, .ref (a 7), .ref (a 8), .int M_many, .ref (a 9), .ref (a 10), .int M_at, .ref (a 11), .int M_toldMany])), (a 1, .inl (Y 0, 238, .inl M_g)), (a 2, .inl (Y 0, 1904, .inl M_kept)), (a 3, .inl (Y 0, 238, .inl M_saved)), (a 4, .inl (Y 0, 238, .inl M_before)), (a 5, .inl (Y 0, 60, .inl M_input)), (a 6, .inl (Y 2, 100, .inl M_signs)), (a 7, .inl (Y 0, 6, .inl g13)), (a 8, .inl (Y 0, 6, .inl M_loads)), (a 9, .inl (Y 0, 2048, .inl M_sums)), (a 10, .inl (Y 0, 2048, .inl M_groups)), (a 11, .inl (Y 0, 155, .inl M_told))] := hD
        have hf := wkl_s hf eg13
        refine lv_iinc (v := (x3 + (-1))) (lv' := [(3, .int (x3 + (-1))), (0, .ref (a 0)), (1, .int x1), (2, .int x2)]) hx hb dX11_lays_67 hl (k := 3) rfl rfl (by decide) rfl (fun ls hl => ?_)
        refine lv_goto (tgt := 33) hx hb dX11_lays_70 (by decide) ?_
        exact ih x2 (x3 + (-1)) g13 M_loads M_many hf H locs hP hD hS ls (lv_sub hl [1, 2, 3, 0] rfl)
set_option maxHeartbeats 4000000 in
set_option maxRecDepth 100000 in
theorem wl_X11_lays_L7 {p : Program} {l : Launch} {e : Env} {s : State} {m : MethodId} {args : Array Value} {below : List Frame} {meth : Method} {c : Code} {dC : Nat → ClassId} {dI : Nat → Nat → Nat} {Y : Nat → ClassId} {a : Nat → Nat} {M_g : Nat → Int32} {M_kept : Nat → Int32} {M_saved : Nat → Int32} {M_before : Nat → Int32} {M_isSaved : Int32} {M_changes : Int32} {M_isWithin : Int32} {M_code : Int32} {M_input : Nat → Int32} {M_length : Int32} {M_fault : Int32} {M_failed : Int32} {M_signs : Nat → Int32} {M_signMany : Int32} {M_sums : Nat → Int32} {M_groups : Nat → Int32} {M_at : Int32} {M_told : Nat → Int32} {M_toldMany : Int32} {x1 : Int32} {zM_column : Nat → Int32} {zM_loads : Nat → Int32} {zM_many : Int32}  (C0 : wk_C p s m args meth c cX11_lays 4 none wsX11_lays RX11) {A : Nat → Prop} (hK : va_K (dC, dI) vwCl (vTy Y) s) (hA : ∀ q, s.heap.size ≤ q → A q) : ∀ (nn : Nat) (x2 : Int32)  (M_column : Nat → Int32) (M_loads : Nat → Int32) (M_many : Int32), f_X11_lays_L7 M_g x1 nn x2 M_column M_loads M_many = some (zM_column, zM_loads, zM_many) → ∀ (H : Heap) (locs : List Loc), va_P (dC, dI) vwCl (wX11 Y a M_g M_kept M_saved M_before M_isSaved M_changes M_isWithin M_code M_input M_length M_fault M_failed M_signs M_signMany M_column M_loads M_many M_sums M_groups M_at M_told M_toldMany) H → va_D A (wX11 Y a M_g M_kept M_saved M_before M_isSaved M_changes M_isWithin M_code M_input M_length M_fault M_failed M_signs M_signMany M_column M_loads M_many M_sums M_groups M_at M_told M_toldMany) → va_S A s.heap H locs → ∀ (ls : Array Slot), lv_has ls 4 [(0, .ref (a 0)), (1, .int x1), (2, .int x2)] → W p l e (headSpec wsX11_lays ({ frames := 2, cells := 0, slots := 0, locals := 45 } : Room)).room s m args below meth c H locs 0 0 (MQ below (va_Qv (fun (_ : Unit) => True) (fun _ t => wk_X (dC, dI) Y (wX11 Y a M_g M_kept M_saved M_before M_isSaved M_changes M_isWithin M_code M_input M_length M_fault M_failed M_signs M_signMany zM_column zM_loads zM_many M_sums M_groups M_at M_told M_toldMany) A t) A) args s 0 0 A) (F0 m 7 ls []) := by
  have C0 := C0
  obtain ⟨hx, hb, hml, hr, hlocks, hown, hts⟩ := id C0
  intro nn
  induction nn with
  | zero =>
    intro x2 M_column M_loads M_many hf
    rw [f_X11_lays_L7] at hf
    cases hf
  | succ nn ih =>
    intro x2 M_column M_loads M_many hf H locs hP hD hS ls hl
    rw [f_X11_lays_L7] at hf
    have hP : va_P (dC, dI) vwCl [(a 0, .inr (11, [.ref (a 1), .ref (a 2), .ref (a 3), .ref (a 4), .int M_isSaved, .int M_changes, .int M_isWithin, .int M_code, .ref (a 5), .int M_length, .int M_fault, .int M_failed, .ref (a 6), .int M_signMany, .ref (a 7), .ref (a 8), .int M_many, .ref (a 9), .ref (a 10), .int M_at, .ref (a 11), .int M_toldMany])), (a 1, .inl (Y 0, 238, .inl M_g)), (a 2, .inl (Y 0, 1904, .inl M_kept)), (a 3, .inl (Y 0, 238, .inl M_saved)), (a 4, .inl (Y 0, 238, .inl M_before)), (a 5, .inl (Y 0, 60, .inl M_input)), (a 6, .inl (Y 2, 100, .inl M_signs)), (a 7, .inl (Y 0, 6, .inl M_column)), (a 8, .inl (Y 0, 6, .inl M_loads)), (a 9, .inl (Y 0, 2048, .inl M_sums)), (a 10, .inl (Y 0, 2048, .inl M_groups)), (a 11, .inl (Y 0, 155, .inl M_told))] H := hP
    have hD : va_D A [(a 0, .inr (11, [.ref (a 1), .ref (a 2), .ref (a 3), .ref (a 4), .int M_isSaved, .int M_changes, .int M_isWithin, .int M_code, .ref (a 5), .int M_length, .int M_fault, .int M_failed, .ref (a 6), .int M_signMany, .ref (a 7), .ref (a 8), .int M_many, .ref (a 9), .ref (a 10), .int M_at, .ref (a 11), .int M_toldMany])), (a 1, .inl (Y 0, 238, .inl M_g)), (a 2, .inl (Y 0, 1904, .inl M_kept)), (a 3, .inl (Y 0, 238, .inl M_saved)), (a 4, .inl (Y 0, 238, .inl M_before)), (a 5, .inl (Y 0, 60, .inl M_input)), (a 6, .inl (Y 2, 100, .inl M_signs)), (a 7, .inl (Y 0, 6, .inl M_column)), (a 8, .inl (Y 0, 6, .inl M_loads)), (a 9, .inl (Y 0, 2048, .inl M_sums)), (a 10, .inl (Y 0, 2048, .inl M_groups)), (a 11, .inl (Y 0, 155, .inl M_told))] := hD
    refine lv_iload_n hx hb dX11_lays_7 rfl (lv_at hl 2 rfl) ?_
    refine lv_aload_n hx hb dX11_lays_8 rfl (lv_at hl 0 rfl) ?_
    refine va_get (D := (dC, dI)) (ci := 11) (v := .ref (a 1)) (C := RX11) (T := TX11) (N := 22) hx hb hts in_X11_lays_X11 hown hK hP 0 rfl rfl 0 (by decide) (hts _ lk_X11_lays_RX11_7) (fun _ h9 => h9) rfl dX11_lays_9 ?_
    refine lv_iconst (v := 0) hx hb dX11_lays_12 (by decide) ?_
    refine wk_iald hx hb hK hP 1 0 (k := 0) rfl rfl (vp_lit (by decide)) (by decide) dX11_lays_13 ?_
    refine lv_icmp_ge (tgt := 96) hx hb dX11_lays_14 (by decide) (fun q1 => ?_) (fun q1 => ?_)
    · have hf := wk_t hf q1
      refine lv_iconst (v := 0) hx hb dX11_lays_96 (by decide) ?_
      refine lv_istore_n (lv' := [(2, .int 0), (0, .ref (a 0)), (1, .int x1)]) hx hb dX11_lays_97 rfl hl (by decide) rfl (fun ls hl => ?_)
      refine lv_aload_n hx hb dX11_lays_98 rfl (lv_at hl 1 rfl) ?_
      refine va_get (D := (dC, dI)) (ci := 11) (v := .int M_many) (C := RX11) (T := TX11) (N := 22) hx hb hts in_X11_lays_X11 hown hK hP 0 rfl rfl 16 (by decide) (hts _ lk_X11_lays_RX11_95) (fun _ h9 => h9) rfl dX11_lays_99 ?_
      refine lv_iconst (v := 1) hx hb dX11_lays_102 (by decide) ?_
      refine lv_isub hx hb dX11_lays_103 ?_
      refine lv_istore_n (lv' := [(3, .int (M_many - 1)), (2, .int 0), (0, .ref (a 0)), (1, .int x1)]) hx hb dX11_lays_104 rfl hl (by decide) rfl (fun ls hl => ?_)
      exact wl_X11_lays_L105 C0 hK hA FU 0 (M_many - 1) M_column M_loads M_many hf H locs hP hD hS ls (lv_sub hl [2, 1, 0] rfl)
    · have hf := wk_f hf q1
      refine lv_iload_n hx hb dX11_lays_17 rfl (lv_at hl 1 rfl) ?_
      refine lv_iload_n hx hb dX11_lays_18 rfl (lv_at hl 2 rfl) ?_
      refine lv_ishr hx hb dX11_lays_19 ?_
      refine lv_iconst (v := 1) hx hb dX11_lays_20 (by decide) ?_
      refine lv_iand hx hb dX11_lays_21 ?_
      refine lv_if_ne (tgt := 28) hx hb dX11_lays_22 (by decide) (fun q2 => ?_) (fun q2 => ?_)
      · have hf := wk_f hf q2
        refine lv_aload_n hx hb dX11_lays_28 rfl (lv_at hl 0 rfl) ?_
        refine va_get (D := (dC, dI)) (ci := 11) (v := .int M_many) (C := RX11) (T := TX11) (N := 22) hx hb hts in_X11_lays_X11 hown hK hP 0 rfl rfl 16 (by decide) (hts _ lk_X11_lays_RX11_95) (fun _ h9 => h9) rfl dX11_lays_29 ?_
        refine lv_istore_n (lv' := [(3, .int M_many), (0, .ref (a 0)), (1, .int x1), (2, .int x2)]) hx hb dX11_lays_32 rfl hl (by decide) rfl (fun ls hl => ?_)
        exact wl_X11_lays_L33 C0 hK hA ih FU x2 M_many M_column M_loads M_many hf H locs hP hD hS ls (lv_sub hl [1, 2, 3, 0] rfl)
      · have hf := wk_t hf q2
        refine lv_goto (tgt := 90) hx hb dX11_lays_25 (by decide) ?_
        refine lv_iinc (v := (x2 + 1)) (lv' := [(2, .int (x2 + 1)), (0, .ref (a 0)), (1, .int x1)]) hx hb dX11_lays_90 hl (k := 2) rfl rfl (by decide) rfl (fun ls hl => ?_)
        refine lv_goto (tgt := 7) hx hb dX11_lays_93 (by decide) ?_
        exact ih (x2 + 1) M_column M_loads M_many hf H locs hP hD hS ls (lv_sub hl [1, 2, 0] rfl)
set_option maxHeartbeats 4000000 in
set_option maxRecDepth 100000 in
theorem c_X11_lays (l : Launch) (dC : Nat → ClassId) (dI : Nat → Nat → Nat) (Y : Nat → ClassId) (a : Nat → Nat) (M_g : Nat → Int32) (M_kept : Nat → Int32) (M_saved : Nat → Int32) (M_before : Nat → Int32) (M_isSaved : Int32) (M_changes : Int32) (M_isWithin : Int32) (M_code : Int32) (M_input : Nat → Int32) (M_length : Int32) (M_fault : Int32) (M_failed : Int32) (M_signs : Nat → Int32) (M_signMany : Int32) (M_column : Nat → Int32) (M_loads : Nat → Int32) (M_many : Int32) (M_sums : Nat → Int32) (M_groups : Nat → Int32) (M_at : Int32) (M_told : Nat → Int32) (M_toldMany : Int32) (x1 : Int32) (sz : Nat) (zM_column : Nat → Int32) (zM_loads : Nat → Int32) (zM_many : Int32) (hf : f_X11_lays M_g M_column M_loads M_many x1 = some (zM_column, zM_loads, zM_many)) : Met l yX11_lays wsX11_lays ({ frames := 2, cells := 0, slots := 0, locals := 45 } : Room) (va_Pc [.ref (a 0), .int x1] (wk_E (dC, dI) Y (wX11 Y a M_g M_kept M_saved M_before M_isSaved M_changes M_isWithin M_code M_input M_length M_fault M_failed M_signs M_signMany M_column M_loads M_many M_sums M_groups M_at M_told M_toldMany) sz)) (va_Qv (fun (_ : Unit) => True) (fun _ t => wk_X (dC, dI) Y (wX11 Y a M_g M_kept M_saved M_before M_isSaved M_changes M_isWithin M_code M_input M_length M_fault M_failed M_signs M_signMany zM_column zM_loads zM_many M_sums M_groups M_at M_told M_toldMany) (va_A (wX11 Y a M_g M_kept M_saved M_before M_isSaved M_changes M_isWithin M_code M_input M_length M_fault M_failed M_signs M_signMany M_column M_loads M_many M_sums M_groups M_at M_told M_toldMany) sz) t) (va_A (wX11 Y a M_g M_kept M_saved M_before M_isSaved M_changes M_isWithin M_code M_input M_length M_fault M_failed M_signs M_signMany M_column M_loads M_many M_sums M_groups M_at M_told M_toldMany) sz)) 0 0 (va_A (wX11 Y a M_g M_kept M_saved M_before M_isSaved M_changes M_isWithin M_code M_input M_length M_fault M_failed M_signs M_signMany M_column M_loads M_many M_sums M_groups M_at M_told M_toldMany) sz) := by
  refine Met.ofW (cc := cX11_lays) (maxL := 4) (ret := none) (by decide) rfl ?_
  intro p e s m args below meth c s₁ B hml hv
  obtain ⟨rfl, hsz, hP, hK, hD0⟩ := hv
  have hx := B.exec
  have hb := B.bytes
  have hr := B.returns
  have hts := atoms_spec (ws := wsX11_lays) B.pre
  have hown : s.vm.findClass RX11 = some m.cls := findClass_of_methodNamed B.named
  have hlocks := B.notSynchronized
  have C0 : wk_C p s m _ meth c cX11_lays 4 none wsX11_lays RX11 := ⟨hx, hb, hml, hr, hlocks, hown, hts⟩
  subst hsz
  have hD := hD0.self (sz := s.heap.size)
  generalize hAe : va_A (wX11 Y a M_g M_kept M_saved M_before M_isSaved M_changes M_isWithin M_code M_input M_length M_fault M_failed M_signs M_signMany M_column M_loads M_many M_sums M_groups M_at M_told M_toldMany) s.heap.size = A at hD ⊢
  have hA : ∀ q : Nat, s.heap.size ≤ q → A q := fun q h => by rw [← hAe]; exact Or.inr h
  have hS : va_S A s.heap s.heap [] := va_S.rf
  obtain ⟨H, hHe⟩ : ∃ H, H = s.heap := ⟨_, rfl⟩
  have hS : va_S A s.heap H [] := by rw [hHe]; exact hS
  have hP : va_P (dC, dI) vwCl [(a 0, .inr (11, [.ref (a 1), .ref (a 2), .ref (a 3), .ref (a 4), .int M_isSaved, .int M_changes, .int M_isWithin, .int M_code, .ref (a 5), .int M_length, .int M_fault, .int M_failed, .ref (a 6), .int M_signMany, .ref (a 7), .ref (a 8), .int M_many, .ref (a 9), .ref (a 10), .int M_at, .ref (a 11), .int M_toldMany])), (a 1, .inl (Y 0, 238, .inl M_g)), (a 2, .inl (Y 0, 1904, .inl M_kept)), (a 3, .inl (Y 0, 238, .inl M_saved)), (a 4, .inl (Y 0, 238, .inl M_before)), (a 5, .inl (Y 0, 60, .inl M_input)), (a 6, .inl (Y 2, 100, .inl M_signs)), (a 7, .inl (Y 0, 6, .inl M_column)), (a 8, .inl (Y 0, 6, .inl M_loads)), (a 9, .inl (Y 0, 2048, .inl M_sums)), (a 10, .inl (Y 0, 2048, .inl M_groups)), (a 11, .inl (Y 0, 155, .inl M_told))] H := by rw [hHe]; exact hP
  have hD : va_D A [(a 0, .inr (11, [.ref (a 1), .ref (a 2), .ref (a 3), .ref (a 4), .int M_isSaved, .int M_changes, .int M_isWithin, .int M_code, .ref (a 5), .int M_length, .int M_fault, .int M_failed, .ref (a 6), .int M_signMany, .ref (a 7), .ref (a 8), .int M_many, .ref (a 9), .ref (a 10), .int M_at, .ref (a 11), .int M_toldMany])), (a 1, .inl (Y 0, 238, .inl M_g)), (a 2, .inl (Y 0, 1904, .inl M_kept)), (a 3, .inl (Y 0, 238, .inl M_saved)), (a 4, .inl (Y 0, 238, .inl M_before)), (a 5, .inl (Y 0, 60, .inl M_input)), (a 6, .inl (Y 2, 100, .inl M_signs)), (a 7, .inl (Y 0, 6, .inl M_column)), (a 8, .inl (Y 0, 6, .inl M_loads)), (a 9, .inl (Y 0, 2048, .inl M_sums)), (a 10, .inl (Y 0, 2048, .inl M_groups)), (a 11, .inl (Y 0, 155, .inl M_told))] := hD
  obtain ⟨locs, hlo⟩ : ∃ locs : List Loc, locs = [] := ⟨_, rfl⟩
  have hS : va_S A s.heap H locs := by rw [hlo]; exact hS
  have hl := lv_entry ([.ref (a 0), .int x1]) (n := 4) (Nat.le_of_ble_eq_true rfl)
  rw [lg_entry_eq]
  generalize (lg_sl ([.ref (a 0), .int x1]) ++ List.replicate (4 - (lg_sl ([.ref (a 0), .int x1])).length) Slot.unset).toArray = ls at hl ⊢
  have hl : lv_has ls 4 [(0, .ref (a 0)), (1, .int x1)] := hl
  refine wk_start hHe hlo ?_
  rw [f_X11_lays] at hf
  refine lv_aload_n hx hb dX11_lays_0 rfl (lv_at hl 0 rfl) ?_
  refine lv_iconst (v := 0) hx hb dX11_lays_1 (by decide) ?_
  refine va_put (D := (dC, dI)) (ci := 11) (v := .int 0) (ty := .int) (C := RX11) (T := TX11) (N := 22) hx hb hts in_X11_lays_X11 tyX11 tyX11_ok nmX11 hown hK hP hD hS 0 rfl rfl 16 (by decide) (hts _ lk_X11_lays_RX11_95) (fun _ h9 => h9) rfl (by decide +kernel) rfl rfl (Nat.le_of_ble_eq_true rfl) dX11_lays_2 (fun H locs hP hD hS => ?_)
  have hP : va_P (dC, dI) vwCl [(a 0, .inr (11, [.ref (a 1), .ref (a 2), .ref (a 3), .ref (a 4), .int M_isSaved, .int M_changes, .int M_isWithin, .int M_code, .ref (a 5), .int M_length, .int M_fault, .int M_failed, .ref (a 6), .int M_signMany, .ref (a 7), .ref (a 8), .int 0, .ref (a 9), .ref (a 10), .int M_at, .ref (a 11), .int M_toldMany])), (a 1, .inl (Y 0, 238, .inl M_g)), (a 2, .inl (Y 0, 1904, .inl M_kept)), (a 3, .inl (Y 0, 238, .inl M_saved)), (a 4, .inl (Y 0, 238, .inl M_before)), (a 5, .inl (Y 0, 60, .inl M_input)), (a 6, .inl (Y 2, 100, .inl M_signs)), (a 7, .inl (Y 0, 6, .inl M_column)), (a 8, .inl (Y 0, 6, .inl M_loads)), (a 9, .inl (Y 0, 2048, .inl M_sums)), (a 10, .inl (Y 0, 2048, .inl M_groups)), (a 11, .inl (Y 0, 155, .inl M_told))] H := hP
  have hD : va_D A [(a 0, .inr (11, [.ref (a 1), .ref (a 2), .ref (a 3), .ref (a 4), .int M_isSaved, .int M_changes, .int M_isWithin, .int M_code, .ref (a 5), .int M_length, .int M_fault, .int M_failed, .ref (a 6), .int M_signMany, .ref (a 7), .ref (a 8), .int 0, .ref (a 9), .ref (a 10), .int M_at, .ref (a 11), .int M_toldMany])), (a 1, .inl (Y 0, 238, .inl M_g)), (a 2, .inl (Y 0, 1904, .inl M_kept)), (a 3, .inl (Y 0, 238, .inl M_saved)), (a 4, .inl (Y 0, 238, .inl M_before)), (a 5, .inl (Y 0, 60, .inl M_input)), (a 6, .inl (Y 2, 100, .inl M_signs)), (a 7, .inl (Y 0, 6, .inl M_column)), (a 8, .inl (Y 0, 6, .inl M_loads)), (a 9, .inl (Y 0, 2048, .inl M_sums)), (a 10, .inl (Y 0, 2048, .inl M_groups)), (a 11, .inl (Y 0, 155, .inl M_told))] := hD
  refine lv_iconst (v := 0) hx hb dX11_lays_5 (by decide) ?_
  refine lv_istore_n (lv' := [(2, .int 0), (0, .ref (a 0)), (1, .int x1)]) hx hb dX11_lays_6 rfl hl (by decide) rfl (fun ls hl => ?_)
  exact wl_X11_lays_L7 C0 hK hA FU 0 M_column M_loads 0 hf H locs hP hD hS ls (lv_sub hl [1, 2, 0] rfl)
theorem lk_X11_breaks_RX11_36 : Cond.fieldLink RX11 36 "CircusLedgerModel" "column" "[I" ∈ wsX11_breaks := by decide +kernel
theorem lk_X11_breaks_RX11_39 : Cond.fieldLink RX11 39 "CircusLedgerModel" "loads" "[I" ∈ wsX11_breaks := by decide +kernel
theorem lk_X11_breaks_RX11_95 : Cond.fieldLink RX11 95 "CircusLedgerModel" "many" "I" ∈ wsX11_breaks := by decide +kernel
theorem in_X11_breaks_X11 : ∀ w ∈ u_ws RX11 TX11 22, w ∈ wsX11_breaks := by decide +kernel
def f_X11_breaks_L2 (M_g : Nat → Int32) (M_column : Nat → Int32) (M_loads : Nat → Int32) (M_many : Int32) : Nat → Int32 → Option (Int32)
  | 0, _ => none
  | nn + 1, x1 =>
    if M_many ≤ x1 then
      (some ((-1)))
    else
      (gin x1 6 (gin x1 6 (wkb1 (f_X11_of M_g (M_column x1.toNatClampNeg) 1) (fun r4 =>
      if (M_loads x1.toNatClampNeg) ≤ r4 then
        (f_X11_breaks_L2 M_g M_column M_loads M_many nn (x1 + 1))
      else
        (some (x1))))))
def f_X11_breaks (M_g : Nat → Int32) (M_column : Nat → Int32) (M_loads : Nat → Int32) (M_many : Int32) : Option (Int32) :=
  f_X11_breaks_L2 M_g M_column M_loads M_many FU 0
set_option maxHeartbeats 4000000 in
set_option maxRecDepth 100000 in
theorem wl_X11_breaks_L2 {p : Program} {l : Launch} {e : Env} {s : State} {m : MethodId} {args : Array Value} {below : List Frame} {meth : Method} {c : Code} {dC : Nat → ClassId} {dI : Nat → Nat → Nat} {Y : Nat → ClassId} {a : Nat → Nat} {M_g : Nat → Int32} {M_kept : Nat → Int32} {M_saved : Nat → Int32} {M_before : Nat → Int32} {M_isSaved : Int32} {M_changes : Int32} {M_isWithin : Int32} {M_code : Int32} {M_input : Nat → Int32} {M_length : Int32} {M_fault : Int32} {M_failed : Int32} {M_signs : Nat → Int32} {M_signMany : Int32} {M_column : Nat → Int32} {M_loads : Nat → Int32} {M_many : Int32} {M_sums : Nat → Int32} {M_groups : Nat → Int32} {M_at : Int32} {M_told : Nat → Int32} {M_toldMany : Int32}  {r : Int32}  (C0 : wk_C p s m args meth c cX11_breaks 2 (some .int) wsX11_breaks RX11) (hK : va_K (dC, dI) vwCl (vTy Y) s) (hP : va_P (dC, dI) vwCl (wX11 Y a M_g M_kept M_saved M_before M_isSaved M_changes M_isWithin M_code M_input M_length M_fault M_failed M_signs M_signMany M_column M_loads M_many M_sums M_groups M_at M_told M_toldMany) s.heap) : ∀ (nn : Nat) (x1 : Int32)  , f_X11_breaks_L2 M_g M_column M_loads M_many nn x1 = some (r) → ∀ (ls : Array Slot), lv_has ls 2 [(0, .ref (a 0)), (1, .int x1)] → W p l e (headSpec wsX11_breaks ({ frames := 1, cells := 0, slots := 0, locals := 22 } : Room)).room s m args below meth c s.heap [] 0 0 (MQ below (vp_Si (fun r2 => r2 = r)) args s 0 0 (fun _ => False)) (F0 m 2 ls []) := by
  have C0 := C0
  obtain ⟨hx, hb, hml, hr, hlocks, hown, hts⟩ := id C0
  intro nn
  induction nn with
  | zero =>
    intro x1 hf
    rw [f_X11_breaks_L2] at hf
    cases hf
  | succ nn ih =>
    intro x1 hf ls hl
    rw [f_X11_breaks_L2] at hf
    have hP : va_P (dC, dI) vwCl [(a 0, .inr (11, [.ref (a 1), .ref (a 2), .ref (a 3), .ref (a 4), .int M_isSaved, .int M_changes, .int M_isWithin, .int M_code, .ref (a 5), .int M_length, .int M_fault, .int M_failed, .ref (a 6), .int M_signMany, .ref (a 7), .ref (a 8), .int M_many, .ref (a 9), .ref (a 10), .int M_at, .ref (a 11), .int M_toldMany])), (a 1, .inl (Y 0, 238, .inl M_g)), (a 2, .inl (Y 0, 1904, .inl M_kept)), (a 3, .inl (Y 0, 238, .inl M_saved)), (a 4, .inl (Y 0, 238, .inl M_before)), (a 5, .inl (Y 0, 60, .inl M_input)), (a 6, .inl (Y 2, 100, .inl M_signs)), (a 7, .inl (Y 0, 6, .inl M_column)), (a 8, .inl (Y 0, 6, .inl M_loads)), (a 9, .inl (Y 0, 2048, .inl M_sums)), (a 10, .inl (Y 0, 2048, .inl M_groups)), (a 11, .inl (Y 0, 155, .inl M_told))] s.heap := hP
    refine lv_iload_n hx hb dX11_breaks_2 rfl (lv_at hl 1 rfl) ?_
    refine lv_aload_n hx hb dX11_breaks_3 rfl (lv_at hl 0 rfl) ?_
    refine va_get (D := (dC, dI)) (ci := 11) (v := .int M_many) (C := RX11) (T := TX11) (N := 22) hx hb hts in_X11_breaks_X11 hown hK hP 0 rfl rfl 16 (by decide) (hts _ lk_X11_breaks_RX11_95) (fun _ h9 => h9) rfl dX11_breaks_4 ?_
    refine lv_icmp_ge (tgt := 38) hx hb dX11_breaks_7 (by decide) (fun q1 => ?_) (fun q1 => ?_)
    · have hf := wk_t hf q1
      refine lv_iconst (v := (-1)) hx hb dX11_breaks_38 (by decide) ?_
      have e0 := wke1 hf
      subst e0
      exact W.iret (v := (-1)) hx hb hr (fun t ht hW => ⟨(-1), rfl, rfl, ht⟩) (fun q h => absurd h List.not_mem_nil) dX11_breaks_39
    · have hf := wk_f hf q1
      refine lv_aload_n hx hb dX11_breaks_10 rfl (lv_at hl 0 rfl) ?_
      refine va_get (D := (dC, dI)) (ci := 11) (v := .ref (a 8)) (C := RX11) (T := TX11) (N := 22) hx hb hts in_X11_breaks_X11 hown hK hP 0 rfl rfl 15 (by decide) (hts _ lk_X11_breaks_RX11_39) (fun _ h9 => h9) rfl dX11_breaks_11 ?_
      refine lv_iload_n hx hb dX11_breaks_14 rfl (lv_at hl 1 rfl) ?_
      obtain ⟨h2, hf⟩ := gin_s hf
      refine wk_iald hx hb hK hP 8 0 rfl rfl h2 rfl dX11_breaks_15 ?_
      refine lv_aload_n hx hb dX11_breaks_16 rfl (lv_at hl 0 rfl) ?_
      refine lv_aload_n hx hb dX11_breaks_17 rfl (lv_at hl 0 rfl) ?_
      refine va_get (D := (dC, dI)) (ci := 11) (v := .ref (a 7)) (C := RX11) (T := TX11) (N := 22) hx hb hts in_X11_breaks_X11 hown hK hP 0 rfl rfl 14 (by decide) (hts _ lk_X11_breaks_RX11_36) (fun _ h9 => h9) rfl dX11_breaks_18 ?_
      refine lv_iload_n hx hb dX11_breaks_21 rfl (lv_at hl 1 rfl) ?_
      obtain ⟨h3, hf⟩ := gin_s hf
      refine wk_iald hx hb hK hP 7 0 rfl rfl h3 rfl dX11_breaks_22 ?_
      refine lv_iconst (v := 1) hx hb dX11_breaks_23 (by decide) ?_
      obtain ⟨r4, hr5, hf⟩ := wkb1_s hf
      have hPc := hP.sub (ws' := (wX11 Y a M_g M_kept M_saved M_before M_isSaved M_changes M_isWithin M_code M_input M_length M_fault M_failed M_signs M_signMany M_column M_loads M_many M_sums M_groups M_at M_told M_toldMany)) [0, 1, 2, 3, 4, 5, 6, 7, 8, 9, 10, 11] rfl
      refine wk_vi (As := [.int (M_column x1.toNatClampNeg), .int 1]) (rest := [.int (M_loads x1.toNatClampNeg)]) ⟨hx, hb, hml, hown, hts⟩ (c_X11_of l dC dI Y a M_g M_kept M_saved M_before M_isSaved M_changes M_isWithin M_code M_input M_length M_fault M_failed M_signs M_signMany M_column M_loads M_many M_sums M_groups M_at M_told M_toldMany (M_column x1.toNatClampNeg) 1 r4 hr5) (cwV 2 hts gX11_breaks_X11_of rfl rfl rfl (by decide +kernel) ⟨Nat.le_of_ble_eq_true rfl, Nat.le_of_ble_eq_true rfl⟩) hK hPc (va_recv hK hP (ci := 11) (q0 := 0) rfl rfl) rfl hl.1 rfl (Nat.le_of_ble_eq_true rfl) dX11_breaks_24 ⟨Nat.le_of_ble_eq_true rfl, Nat.le_of_ble_eq_true rfl⟩ ?_
      refine lv_icmp_le (tgt := 32) hx hb dX11_breaks_27 (by decide) (fun q6 => ?_) (fun q6 => ?_)
      · have hf := wk_t hf q6
        refine lv_iinc (v := (x1 + 1)) (lv' := [(1, .int (x1 + 1)), (0, .ref (a 0))]) hx hb dX11_breaks_32 hl (k := 1) rfl rfl (by decide) rfl (fun ls hl => ?_)
        refine lv_goto (tgt := 2) hx hb dX11_breaks_35 (by decide) ?_
        exact ih (x1 + 1) hf ls (lv_sub hl [1, 0] rfl)
      · have hf := wk_f hf q6
        refine lv_iload_n hx hb dX11_breaks_30 rfl (lv_at hl 1 rfl) ?_
        have e0 := wke1 hf
        subst e0
        exact W.iret (v := x1) hx hb hr (fun t ht hW => ⟨x1, rfl, rfl, ht⟩) (fun q h => absurd h List.not_mem_nil) dX11_breaks_31
set_option maxHeartbeats 4000000 in
set_option maxRecDepth 100000 in
theorem c_X11_breaks (l : Launch) (dC : Nat → ClassId) (dI : Nat → Nat → Nat) (Y : Nat → ClassId) (a : Nat → Nat) (M_g : Nat → Int32) (M_kept : Nat → Int32) (M_saved : Nat → Int32) (M_before : Nat → Int32) (M_isSaved : Int32) (M_changes : Int32) (M_isWithin : Int32) (M_code : Int32) (M_input : Nat → Int32) (M_length : Int32) (M_fault : Int32) (M_failed : Int32) (M_signs : Nat → Int32) (M_signMany : Int32) (M_column : Nat → Int32) (M_loads : Nat → Int32) (M_many : Int32) (M_sums : Nat → Int32) (M_groups : Nat → Int32) (M_at : Int32) (M_told : Nat → Int32) (M_toldMany : Int32)  (r : Int32) (hf : f_X11_breaks M_g M_column M_loads M_many = some (r)) : Met l yX11_breaks wsX11_breaks ({ frames := 1, cells := 0, slots := 0, locals := 22 } : Room) (va_Pc [.ref (a 0)] (wk_B (dC, dI) Y (wX11 Y a M_g M_kept M_saved M_before M_isSaved M_changes M_isWithin M_code M_input M_length M_fault M_failed M_signs M_signMany M_column M_loads M_many M_sums M_groups M_at M_told M_toldMany))) (vp_Si (fun r2 => r2 = r)) 0 0 (fun _ => False) := by
  refine Met.ofW (cc := cX11_breaks) (maxL := 2) (ret := (some .int)) (by decide) rfl ?_
  intro p e s m args below meth c s₁ B hml hv
  obtain ⟨rfl, hP, hK⟩ := hv
  have hx := B.exec
  have hb := B.bytes
  have hr := B.returns
  have hts := atoms_spec (ws := wsX11_breaks) B.pre
  have hown : s.vm.findClass RX11 = some m.cls := findClass_of_methodNamed B.named
  have hlocks := B.notSynchronized
  have C0 : wk_C p s m _ meth c cX11_breaks 2 (some .int) wsX11_breaks RX11 := ⟨hx, hb, hml, hr, hlocks, hown, hts⟩
  have hP : va_P (dC, dI) vwCl [(a 0, .inr (11, [.ref (a 1), .ref (a 2), .ref (a 3), .ref (a 4), .int M_isSaved, .int M_changes, .int M_isWithin, .int M_code, .ref (a 5), .int M_length, .int M_fault, .int M_failed, .ref (a 6), .int M_signMany, .ref (a 7), .ref (a 8), .int M_many, .ref (a 9), .ref (a 10), .int M_at, .ref (a 11), .int M_toldMany])), (a 1, .inl (Y 0, 238, .inl M_g)), (a 2, .inl (Y 0, 1904, .inl M_kept)), (a 3, .inl (Y 0, 238, .inl M_saved)), (a 4, .inl (Y 0, 238, .inl M_before)), (a 5, .inl (Y 0, 60, .inl M_input)), (a 6, .inl (Y 2, 100, .inl M_signs)), (a 7, .inl (Y 0, 6, .inl M_column)), (a 8, .inl (Y 0, 6, .inl M_loads)), (a 9, .inl (Y 0, 2048, .inl M_sums)), (a 10, .inl (Y 0, 2048, .inl M_groups)), (a 11, .inl (Y 0, 155, .inl M_told))] s.heap := hP
  have hl := lv_entry ([.ref (a 0)]) (n := 2) (Nat.le_of_ble_eq_true rfl)
  rw [lg_entry_eq]
  generalize (lg_sl ([.ref (a 0)]) ++ List.replicate (2 - (lg_sl ([.ref (a 0)])).length) Slot.unset).toArray = ls at hl ⊢
  have hl : lv_has ls 2 [(0, .ref (a 0))] := hl
  rw [f_X11_breaks] at hf
  refine lv_iconst (v := 0) hx hb dX11_breaks_0 (by decide) ?_
  refine lv_istore_n (lv' := [(1, .int 0), (0, .ref (a 0))]) hx hb dX11_breaks_1 rfl hl (by decide) rfl (fun ls hl => ?_)
  exact wl_X11_breaks_L2 C0 hK hP FU 0 hf ls (lv_sub hl [1, 0] rfl)
theorem lk_X11_tall_RX11_7 : Cond.fieldLink RX11 7 "CircusLedgerModel" "g" "[I" ∈ wsX11_tall := by decide +kernel
theorem in_X11_tall_X11 : ∀ w ∈ u_ws RX11 TX11 22, w ∈ wsX11_tall := by decide +kernel
def f_X11_tall_L4 (M_g : Nat → Int32) (x1 : Int32) : Nat → Int32 → Int32 → Option (Int32)
  | 0, _, _ => none
  | nn + 1, x2, x3 =>
    if (M_g 0) ≤ x3 then
      (some (x2))
    else
      (wkb1 (f_X11_of M_g x3 2) (fun r2 =>
      f_X11_tall_L4 M_g x1 nn (x2 + (((x1 >>> (x3 &&& 31)) &&& 1) * r2)) (x3 + 1)))
def f_X11_tall (M_g : Nat → Int32) (x1 : Int32) : Option (Int32) :=
  f_X11_tall_L4 M_g x1 FU 0 0
set_option maxHeartbeats 4000000 in
set_option maxRecDepth 100000 in
theorem wl_X11_tall_L4 {p : Program} {l : Launch} {e : Env} {s : State} {m : MethodId} {args : Array Value} {below : List Frame} {meth : Method} {c : Code} {dC : Nat → ClassId} {dI : Nat → Nat → Nat} {Y : Nat → ClassId} {a : Nat → Nat} {M_g : Nat → Int32} {M_kept : Nat → Int32} {M_saved : Nat → Int32} {M_before : Nat → Int32} {M_isSaved : Int32} {M_changes : Int32} {M_isWithin : Int32} {M_code : Int32} {M_input : Nat → Int32} {M_length : Int32} {M_fault : Int32} {M_failed : Int32} {M_signs : Nat → Int32} {M_signMany : Int32} {M_column : Nat → Int32} {M_loads : Nat → Int32} {M_many : Int32} {M_sums : Nat → Int32} {M_groups : Nat → Int32} {M_at : Int32} {M_told : Nat → Int32} {M_toldMany : Int32} {x1 : Int32} {r : Int32}  (C0 : wk_C p s m args meth c cX11_tall 4 (some .int) wsX11_tall RX11) (hK : va_K (dC, dI) vwCl (vTy Y) s) (hP : va_P (dC, dI) vwCl (wX11 Y a M_g M_kept M_saved M_before M_isSaved M_changes M_isWithin M_code M_input M_length M_fault M_failed M_signs M_signMany M_column M_loads M_many M_sums M_groups M_at M_told M_toldMany) s.heap) : ∀ (nn : Nat) (x2 : Int32) (x3 : Int32)  , f_X11_tall_L4 M_g x1 nn x2 x3 = some (r) → ∀ (ls : Array Slot), lv_has ls 4 [(0, .ref (a 0)), (1, .int x1), (2, .int x2), (3, .int x3)] → W p l e (headSpec wsX11_tall ({ frames := 1, cells := 0, slots := 0, locals := 22 } : Room)).room s m args below meth c s.heap [] 0 0 (MQ below (vp_Si (fun r2 => r2 = r)) args s 0 0 (fun _ => False)) (F0 m 4 ls []) := by
  have C0 := C0
  obtain ⟨hx, hb, hml, hr, hlocks, hown, hts⟩ := id C0
  intro nn
  induction nn with
  | zero =>
    intro x2 x3 hf
    rw [f_X11_tall_L4] at hf
    cases hf
  | succ nn ih =>
    intro x2 x3 hf ls hl
    rw [f_X11_tall_L4] at hf
    have hP : va_P (dC, dI) vwCl [(a 0, .inr (11, [.ref (a 1), .ref (a 2), .ref (a 3), .ref (a 4), .int M_isSaved, .int M_changes, .int M_isWithin, .int M_code, .ref (a 5), .int M_length, .int M_fault, .int M_failed, .ref (a 6), .int M_signMany, .ref (a 7), .ref (a 8), .int M_many, .ref (a 9), .ref (a 10), .int M_at, .ref (a 11), .int M_toldMany])), (a 1, .inl (Y 0, 238, .inl M_g)), (a 2, .inl (Y 0, 1904, .inl M_kept)), (a 3, .inl (Y 0, 238, .inl M_saved)), (a 4, .inl (Y 0, 238, .inl M_before)), (a 5, .inl (Y 0, 60, .inl M_input)), (a 6, .inl (Y 2, 100, .inl M_signs)), (a 7, .inl (Y 0, 6, .inl M_column)), (a 8, .inl (Y 0, 6, .inl M_loads)), (a 9, .inl (Y 0, 2048, .inl M_sums)), (a 10, .inl (Y 0, 2048, .inl M_groups)), (a 11, .inl (Y 0, 155, .inl M_told))] s.heap := hP
    refine lv_iload_n hx hb dX11_tall_4 rfl (lv_at hl 3 rfl) ?_
    refine lv_aload_n hx hb dX11_tall_5 rfl (lv_at hl 0 rfl) ?_
    refine va_get (D := (dC, dI)) (ci := 11) (v := .ref (a 1)) (C := RX11) (T := TX11) (N := 22) hx hb hts in_X11_tall_X11 hown hK hP 0 rfl rfl 0 (by decide) (hts _ lk_X11_tall_RX11_7) (fun _ h9 => h9) rfl dX11_tall_6 ?_
    refine lv_iconst (v := 0) hx hb dX11_tall_9 (by decide) ?_
    refine wk_iald hx hb hK hP 1 0 (k := 0) rfl rfl (vp_lit (by decide)) (by decide) dX11_tall_10 ?_
    refine lv_icmp_ge (tgt := 35) hx hb dX11_tall_11 (by decide) (fun q1 => ?_) (fun q1 => ?_)
    · have hf := wk_t hf q1
      refine lv_iload_n hx hb dX11_tall_35 rfl (lv_at hl 2 rfl) ?_
      have e0 := wke1 hf
      subst e0
      exact W.iret (v := x2) hx hb hr (fun t ht hW => ⟨x2, rfl, rfl, ht⟩) (fun q h => absurd h List.not_mem_nil) dX11_tall_36
    · have hf := wk_f hf q1
      refine lv_iload_n hx hb dX11_tall_14 rfl (lv_at hl 2 rfl) ?_
      refine lv_iload_n hx hb dX11_tall_15 rfl (lv_at hl 1 rfl) ?_
      refine lv_iload_n hx hb dX11_tall_16 rfl (lv_at hl 3 rfl) ?_
      refine lv_ishr hx hb dX11_tall_17 ?_
      refine lv_iconst (v := 1) hx hb dX11_tall_18 (by decide) ?_
      refine lv_iand hx hb dX11_tall_19 ?_
      refine lv_aload_n hx hb dX11_tall_20 rfl (lv_at hl 0 rfl) ?_
      refine lv_iload_n hx hb dX11_tall_21 rfl (lv_at hl 3 rfl) ?_
      refine lv_iconst (v := 2) hx hb dX11_tall_22 (by decide) ?_
      obtain ⟨r2, hr3, hf⟩ := wkb1_s hf
      have hPc := hP.sub (ws' := (wX11 Y a M_g M_kept M_saved M_before M_isSaved M_changes M_isWithin M_code M_input M_length M_fault M_failed M_signs M_signMany M_column M_loads M_many M_sums M_groups M_at M_told M_toldMany)) [0, 1, 2, 3, 4, 5, 6, 7, 8, 9, 10, 11] rfl
      refine wk_vi (As := [.int x3, .int 2]) (rest := [.int ((x1 >>> (x3 &&& 31)) &&& 1), .int x2]) ⟨hx, hb, hml, hown, hts⟩ (c_X11_of l dC dI Y a M_g M_kept M_saved M_before M_isSaved M_changes M_isWithin M_code M_input M_length M_fault M_failed M_signs M_signMany M_column M_loads M_many M_sums M_groups M_at M_told M_toldMany x3 2 r2 hr3) (cwV 2 hts gX11_tall_X11_of rfl rfl rfl (by decide +kernel) ⟨Nat.le_of_ble_eq_true rfl, Nat.le_of_ble_eq_true rfl⟩) hK hPc (va_recv hK hP (ci := 11) (q0 := 0) rfl rfl) rfl hl.1 rfl (Nat.le_of_ble_eq_true rfl) dX11_tall_23 ⟨Nat.le_of_ble_eq_true rfl, Nat.le_of_ble_eq_true rfl⟩ ?_
      refine lv_imul hx hb dX11_tall_26 ?_
      refine lv_iadd hx hb dX11_tall_27 ?_
      refine lv_istore_n (lv' := [(2, .int (x2 + (((x1 >>> (x3 &&& 31)) &&& 1) * r2))), (0, .ref (a 0)), (1, .int x1), (3, .int x3)]) hx hb dX11_tall_28 rfl hl (by decide) rfl (fun ls hl => ?_)
      refine lv_iinc (v := (x3 + 1)) (lv' := [(3, .int (x3 + 1)), (2, .int (x2 + (((x1 >>> (x3 &&& 31)) &&& 1) * r2))), (0, .ref (a 0)), (1, .int x1)]) hx hb dX11_tall_29 hl (k := 3) rfl rfl (by decide) rfl (fun ls hl => ?_)
      refine lv_goto (tgt := 4) hx hb dX11_tall_32 (by decide) ?_
      exact ih (x2 + (((x1 >>> (x3 &&& 31)) &&& 1) * r2)) (x3 + 1) hf ls (lv_sub hl [2, 3, 1, 0] rfl)
set_option maxHeartbeats 4000000 in
set_option maxRecDepth 100000 in
theorem c_X11_tall (l : Launch) (dC : Nat → ClassId) (dI : Nat → Nat → Nat) (Y : Nat → ClassId) (a : Nat → Nat) (M_g : Nat → Int32) (M_kept : Nat → Int32) (M_saved : Nat → Int32) (M_before : Nat → Int32) (M_isSaved : Int32) (M_changes : Int32) (M_isWithin : Int32) (M_code : Int32) (M_input : Nat → Int32) (M_length : Int32) (M_fault : Int32) (M_failed : Int32) (M_signs : Nat → Int32) (M_signMany : Int32) (M_column : Nat → Int32) (M_loads : Nat → Int32) (M_many : Int32) (M_sums : Nat → Int32) (M_groups : Nat → Int32) (M_at : Int32) (M_told : Nat → Int32) (M_toldMany : Int32) (x1 : Int32) (r : Int32) (hf : f_X11_tall M_g x1 = some (r)) : Met l yX11_tall wsX11_tall ({ frames := 1, cells := 0, slots := 0, locals := 22 } : Room) (va_Pc [.ref (a 0), .int x1] (wk_B (dC, dI) Y (wX11 Y a M_g M_kept M_saved M_before M_isSaved M_changes M_isWithin M_code M_input M_length M_fault M_failed M_signs M_signMany M_column M_loads M_many M_sums M_groups M_at M_told M_toldMany))) (vp_Si (fun r2 => r2 = r)) 0 0 (fun _ => False) := by
  refine Met.ofW (cc := cX11_tall) (maxL := 4) (ret := (some .int)) (by decide) rfl ?_
  intro p e s m args below meth c s₁ B hml hv
  obtain ⟨rfl, hP, hK⟩ := hv
  have hx := B.exec
  have hb := B.bytes
  have hr := B.returns
  have hts := atoms_spec (ws := wsX11_tall) B.pre
  have hown : s.vm.findClass RX11 = some m.cls := findClass_of_methodNamed B.named
  have hlocks := B.notSynchronized
  have C0 : wk_C p s m _ meth c cX11_tall 4 (some .int) wsX11_tall RX11 := ⟨hx, hb, hml, hr, hlocks, hown, hts⟩
  have hP : va_P (dC, dI) vwCl [(a 0, .inr (11, [.ref (a 1), .ref (a 2), .ref (a 3), .ref (a 4), .int M_isSaved, .int M_changes, .int M_isWithin, .int M_code, .ref (a 5), .int M_length, .int M_fault, .int M_failed, .ref (a 6), .int M_signMany, .ref (a 7), .ref (a 8), .int M_many, .ref (a 9), .ref (a 10), .int M_at, .ref (a 11), .int M_toldMany])), (a 1, .inl (Y 0, 238, .inl M_g)), (a 2, .inl (Y 0, 1904, .inl M_kept)), (a 3, .inl (Y 0, 238, .inl M_saved)), (a 4, .inl (Y 0, 238, .inl M_before)), (a 5, .inl (Y 0, 60, .inl M_input)), (a 6, .inl (Y 2, 100, .inl M_signs)), (a 7, .inl (Y 0, 6, .inl M_column)), (a 8, .inl (Y 0, 6, .inl M_loads)), (a 9, .inl (Y 0, 2048, .inl M_sums)), (a 10, .inl (Y 0, 2048, .inl M_groups)), (a 11, .inl (Y 0, 155, .inl M_told))] s.heap := hP
  have hl := lv_entry ([.ref (a 0), .int x1]) (n := 4) (Nat.le_of_ble_eq_true rfl)
  rw [lg_entry_eq]
  generalize (lg_sl ([.ref (a 0), .int x1]) ++ List.replicate (4 - (lg_sl ([.ref (a 0), .int x1])).length) Slot.unset).toArray = ls at hl ⊢
  have hl : lv_has ls 4 [(0, .ref (a 0)), (1, .int x1)] := hl
  rw [f_X11_tall] at hf
  refine lv_iconst (v := 0) hx hb dX11_tall_0 (by decide) ?_
  refine lv_istore_n (lv' := [(2, .int 0), (0, .ref (a 0)), (1, .int x1)]) hx hb dX11_tall_1 rfl hl (by decide) rfl (fun ls hl => ?_)
  refine lv_iconst (v := 0) hx hb dX11_tall_2 (by decide) ?_
  refine lv_istore_n (lv' := [(3, .int 0), (2, .int 0), (0, .ref (a 0)), (1, .int x1)]) hx hb dX11_tall_3 rfl hl (by decide) rfl (fun ls hl => ?_)
  exact wl_X11_tall_L4 C0 hK hP FU 0 0 hf ls (lv_sub hl [2, 3, 1, 0] rfl)
theorem lk_X11_costs_RX11_95 : Cond.fieldLink RX11 95 "CircusLedgerModel" "many" "I" ∈ wsX11_costs := by decide +kernel
theorem in_X11_costs_X11 : ∀ w ∈ u_ws RX11 TX11 22, w ∈ wsX11_costs := by decide +kernel
def f_X11_costs (M_g : Nat → Int32) (M_column : Nat → Int32) (M_loads : Nat → Int32) (M_many : Int32) : Option (Int32) :=
  wkb1 (f_X11_breaks M_g M_column M_loads M_many) (fun r1 =>
  if (0 : Int32) ≤ r1 then
    (wkb1 (f_X11_breaks M_g M_column M_loads M_many) (fun r4 =>
    some ((10 * ((M_many - 1) - r4)))))
  else
    (some (0)))
set_option maxHeartbeats 4000000 in
set_option maxRecDepth 100000 in
theorem c_X11_costs (l : Launch) (dC : Nat → ClassId) (dI : Nat → Nat → Nat) (Y : Nat → ClassId) (a : Nat → Nat) (M_g : Nat → Int32) (M_kept : Nat → Int32) (M_saved : Nat → Int32) (M_before : Nat → Int32) (M_isSaved : Int32) (M_changes : Int32) (M_isWithin : Int32) (M_code : Int32) (M_input : Nat → Int32) (M_length : Int32) (M_fault : Int32) (M_failed : Int32) (M_signs : Nat → Int32) (M_signMany : Int32) (M_column : Nat → Int32) (M_loads : Nat → Int32) (M_many : Int32) (M_sums : Nat → Int32) (M_groups : Nat → Int32) (M_at : Int32) (M_told : Nat → Int32) (M_toldMany : Int32)  (r : Int32) (hf : f_X11_costs M_g M_column M_loads M_many = some (r)) : Met l yX11_costs wsX11_costs ({ frames := 2, cells := 0, slots := 0, locals := 43 } : Room) (va_Pc [.ref (a 0)] (wk_B (dC, dI) Y (wX11 Y a M_g M_kept M_saved M_before M_isSaved M_changes M_isWithin M_code M_input M_length M_fault M_failed M_signs M_signMany M_column M_loads M_many M_sums M_groups M_at M_told M_toldMany))) (vp_Si (fun r2 => r2 = r)) 0 0 (fun _ => False) := by
  refine Met.ofW (cc := cX11_costs) (maxL := 1) (ret := (some .int)) (by decide) rfl ?_
  intro p e s m args below meth c s₁ B hml hv
  obtain ⟨rfl, hP, hK⟩ := hv
  have hx := B.exec
  have hb := B.bytes
  have hr := B.returns
  have hts := atoms_spec (ws := wsX11_costs) B.pre
  have hown : s.vm.findClass RX11 = some m.cls := findClass_of_methodNamed B.named
  have hlocks := B.notSynchronized
  have C0 : wk_C p s m _ meth c cX11_costs 1 (some .int) wsX11_costs RX11 := ⟨hx, hb, hml, hr, hlocks, hown, hts⟩
  have hP : va_P (dC, dI) vwCl [(a 0, .inr (11, [.ref (a 1), .ref (a 2), .ref (a 3), .ref (a 4), .int M_isSaved, .int M_changes, .int M_isWithin, .int M_code, .ref (a 5), .int M_length, .int M_fault, .int M_failed, .ref (a 6), .int M_signMany, .ref (a 7), .ref (a 8), .int M_many, .ref (a 9), .ref (a 10), .int M_at, .ref (a 11), .int M_toldMany])), (a 1, .inl (Y 0, 238, .inl M_g)), (a 2, .inl (Y 0, 1904, .inl M_kept)), (a 3, .inl (Y 0, 238, .inl M_saved)), (a 4, .inl (Y 0, 238, .inl M_before)), (a 5, .inl (Y 0, 60, .inl M_input)), (a 6, .inl (Y 2, 100, .inl M_signs)), (a 7, .inl (Y 0, 6, .inl M_column)), (a 8, .inl (Y 0, 6, .inl M_loads)), (a 9, .inl (Y 0, 2048, .inl M_sums)), (a 10, .inl (Y 0, 2048, .inl M_groups)), (a 11, .inl (Y 0, 155, .inl M_told))] s.heap := hP
  have hl := lv_entry ([.ref (a 0)]) (n := 1) (Nat.le_of_ble_eq_true rfl)
  rw [lg_entry_eq]
  generalize (lg_sl ([.ref (a 0)]) ++ List.replicate (1 - (lg_sl ([.ref (a 0)])).length) Slot.unset).toArray = ls at hl ⊢
  have hl : lv_has ls 1 [(0, .ref (a 0))] := hl
  rw [f_X11_costs] at hf
  refine lv_aload_n hx hb dX11_costs_0 rfl (lv_at hl 0 rfl) ?_
  obtain ⟨r1, hr2, hf⟩ := wkb1_s hf
  have hPc := hP.sub (ws' := (wX11 Y a M_g M_kept M_saved M_before M_isSaved M_changes M_isWithin M_code M_input M_length M_fault M_failed M_signs M_signMany M_column M_loads M_many M_sums M_groups M_at M_told M_toldMany)) [0, 1, 2, 3, 4, 5, 6, 7, 8, 9, 10, 11] rfl
  refine wk_vi (As := []) (rest := []) ⟨hx, hb, hml, hown, hts⟩ (c_X11_breaks l dC dI Y a M_g M_kept M_saved M_before M_isSaved M_changes M_isWithin M_code M_input M_length M_fault M_failed M_signs M_signMany M_column M_loads M_many M_sums M_groups M_at M_told M_toldMany r1 hr2) (cwV 0 hts gX11_costs_X11_breaks rfl rfl rfl (by decide +kernel) ⟨Nat.le_of_ble_eq_true rfl, Nat.le_of_ble_eq_true rfl⟩) hK hPc (va_recv hK hP (ci := 11) (q0 := 0) rfl rfl) rfl hl.1 rfl (Nat.le_of_ble_eq_true rfl) dX11_costs_1 ⟨Nat.le_of_ble_eq_true rfl, Nat.le_of_ble_eq_true rfl⟩ ?_
  refine lv_if_ge (tgt := 11) hx hb dX11_costs_4 (by decide) (fun q3 => ?_) (fun q3 => ?_)
  · have hf := wk_t hf q3
    refine lv_bipush (v := 10) hx hb dX11_costs_11 (by decide) ?_
    refine lv_aload_n hx hb dX11_costs_13 rfl (lv_at hl 0 rfl) ?_
    refine va_get (D := (dC, dI)) (ci := 11) (v := .int M_many) (C := RX11) (T := TX11) (N := 22) hx hb hts in_X11_costs_X11 hown hK hP 0 rfl rfl 16 (by decide) (hts _ lk_X11_costs_RX11_95) (fun _ h9 => h9) rfl dX11_costs_14 ?_
    refine lv_iconst (v := 1) hx hb dX11_costs_17 (by decide) ?_
    refine lv_isub hx hb dX11_costs_18 ?_
    refine lv_aload_n hx hb dX11_costs_19 rfl (lv_at hl 0 rfl) ?_
    obtain ⟨r4, hr5, hf⟩ := wkb1_s hf
    have hPc := hP.sub (ws' := (wX11 Y a M_g M_kept M_saved M_before M_isSaved M_changes M_isWithin M_code M_input M_length M_fault M_failed M_signs M_signMany M_column M_loads M_many M_sums M_groups M_at M_told M_toldMany)) [0, 1, 2, 3, 4, 5, 6, 7, 8, 9, 10, 11] rfl
    refine wk_vi (As := []) (rest := [.int (M_many - 1), .int 10]) ⟨hx, hb, hml, hown, hts⟩ (c_X11_breaks l dC dI Y a M_g M_kept M_saved M_before M_isSaved M_changes M_isWithin M_code M_input M_length M_fault M_failed M_signs M_signMany M_column M_loads M_many M_sums M_groups M_at M_told M_toldMany r4 hr5) (cwV 0 hts gX11_costs_X11_breaks rfl rfl rfl (by decide +kernel) ⟨Nat.le_of_ble_eq_true rfl, Nat.le_of_ble_eq_true rfl⟩) hK hPc (va_recv hK hP (ci := 11) (q0 := 0) rfl rfl) rfl hl.1 rfl (Nat.le_of_ble_eq_true rfl) dX11_costs_20 ⟨Nat.le_of_ble_eq_true rfl, Nat.le_of_ble_eq_true rfl⟩ ?_
    refine lv_isub hx hb dX11_costs_23 ?_
    refine lv_imul hx hb dX11_costs_24 ?_
    have e0 := wke1 hf
    subst e0
    exact W.iret (v := (10 * ((M_many - 1) - r4))) hx hb hr (fun t ht hW => ⟨(10 * ((M_many - 1) - r4)), rfl, rfl, ht⟩) (fun q h => absurd h List.not_mem_nil) dX11_costs_25
  · have hf := wk_f hf q3
    refine lv_iconst (v := 0) hx hb dX11_costs_7 (by decide) ?_
    refine lv_goto (tgt := 25) hx hb dX11_costs_8 (by decide) ?_
    have e0 := wke1 hf
    subst e0
    exact W.iret (v := 0) hx hb hr (fun t ht hW => ⟨0, rfl, rfl, ht⟩) (fun q h => absurd h List.not_mem_nil) dX11_costs_25
def f_X11_isWrong (M_g : Nat → Int32) (M_code : Int32) (M_column : Nat → Int32) (M_loads : Nat → Int32) (M_many : Int32) (x1 : Int32) : Option (Int32 × Int32 × (Nat → Int32) × (Nat → Int32) × Int32) :=
  wkb1 (f_X11_isSet M_g x1) (fun r1 =>
  if r1 = 0 then
    (wkb2 (f_X11_fails M_code 1) (fun r4 w5 =>
    if r4 = 0 then
      (wkb3 (f_X11_lays M_g M_column M_loads M_many x1) (fun w8 w9 w10 =>
      some (0, w5, w8, w9, w10)))
    else
      (some (1, w5, M_column, M_loads, M_many))))
  else
    (wkb2 (f_X11_fails M_code 0) (fun r12 w13 =>
    if r12 = 0 then
      (wkb3 (f_X11_lays M_g M_column M_loads M_many x1) (fun w16 w17 w18 =>
      some (0, w13, w16, w17, w18)))
    else
      (some (1, w13, M_column, M_loads, M_many)))))
set_option maxHeartbeats 4000000 in
set_option maxRecDepth 100000 in
theorem c_X11_isWrong (l : Launch) (dC : Nat → ClassId) (dI : Nat → Nat → Nat) (Y : Nat → ClassId) (a : Nat → Nat) (M_g : Nat → Int32) (M_kept : Nat → Int32) (M_saved : Nat → Int32) (M_before : Nat → Int32) (M_isSaved : Int32) (M_changes : Int32) (M_isWithin : Int32) (M_code : Int32) (M_input : Nat → Int32) (M_length : Int32) (M_fault : Int32) (M_failed : Int32) (M_signs : Nat → Int32) (M_signMany : Int32) (M_column : Nat → Int32) (M_loads : Nat → Int32) (M_many : Int32) (M_sums : Nat → Int32) (M_groups : Nat → Int32) (M_at : Int32) (M_told : Nat → Int32) (M_toldMany : Int32) (x1 : Int32) (sz : Nat) (r : Int32) (zM_code : Int32) (zM_column : Nat → Int32) (zM_loads : Nat → Int32) (zM_many : Int32) (hf : f_X11_isWrong M_g M_code M_column M_loads M_many x1 = some (r, zM_code, zM_column, zM_loads, zM_many)) : Met l yX11_isWrong wsX11_isWrong ({ frames := 3, cells := 0, slots := 0, locals := 68 } : Room) (va_Pc [.ref (a 0), .int x1] (wk_E (dC, dI) Y (wX11 Y a M_g M_kept M_saved M_before M_isSaved M_changes M_isWithin M_code M_input M_length M_fault M_failed M_signs M_signMany M_column M_loads M_many M_sums M_groups M_at M_told M_toldMany) sz)) (va_Qi (fun r2 (_ : Unit) => r2 = r) (fun _ t => wk_X (dC, dI) Y (wX11 Y a M_g M_kept M_saved M_before M_isSaved M_changes M_isWithin zM_code M_input M_length M_fault M_failed M_signs M_signMany zM_column zM_loads zM_many M_sums M_groups M_at M_told M_toldMany) (va_A (wX11 Y a M_g M_kept M_saved M_before M_isSaved M_changes M_isWithin M_code M_input M_length M_fault M_failed M_signs M_signMany M_column M_loads M_many M_sums M_groups M_at M_told M_toldMany) sz) t) (va_A (wX11 Y a M_g M_kept M_saved M_before M_isSaved M_changes M_isWithin M_code M_input M_length M_fault M_failed M_signs M_signMany M_column M_loads M_many M_sums M_groups M_at M_told M_toldMany) sz)) 0 0 (va_A (wX11 Y a M_g M_kept M_saved M_before M_isSaved M_changes M_isWithin M_code M_input M_length M_fault M_failed M_signs M_signMany M_column M_loads M_many M_sums M_groups M_at M_told M_toldMany) sz) := by
  refine Met.ofW (cc := cX11_isWrong) (maxL := 2) (ret := (some .boolean)) (by decide) rfl ?_
  intro p e s m args below meth c s₁ B hml hv
  obtain ⟨rfl, hsz, hP, hK, hD0⟩ := hv
  have hx := B.exec
  have hb := B.bytes
  have hr := B.returns
  have hts := atoms_spec (ws := wsX11_isWrong) B.pre
  have hown : s.vm.findClass RX11 = some m.cls := findClass_of_methodNamed B.named
  have hlocks := B.notSynchronized
  have C0 : wk_C p s m _ meth c cX11_isWrong 2 (some .boolean) wsX11_isWrong RX11 := ⟨hx, hb, hml, hr, hlocks, hown, hts⟩
  subst hsz
  have hD := hD0.self (sz := s.heap.size)
  generalize hAe : va_A (wX11 Y a M_g M_kept M_saved M_before M_isSaved M_changes M_isWithin M_code M_input M_length M_fault M_failed M_signs M_signMany M_column M_loads M_many M_sums M_groups M_at M_told M_toldMany) s.heap.size = A at hD ⊢
  have hA : ∀ q : Nat, s.heap.size ≤ q → A q := fun q h => by rw [← hAe]; exact Or.inr h
  have hS : va_S A s.heap s.heap [] := va_S.rf
  obtain ⟨H, hHe⟩ : ∃ H, H = s.heap := ⟨_, rfl⟩
  have hS : va_S A s.heap H [] := by rw [hHe]; exact hS
  have hP : va_P (dC, dI) vwCl [(a 0, .inr (11, [.ref (a 1), .ref (a 2), .ref (a 3), .ref (a 4), .int M_isSaved, .int M_changes, .int M_isWithin, .int M_code, .ref (a 5), .int M_length, .int M_fault, .int M_failed, .ref (a 6), .int M_signMany, .ref (a 7), .ref (a 8), .int M_many, .ref (a 9), .ref (a 10), .int M_at, .ref (a 11), .int M_toldMany])), (a 1, .inl (Y 0, 238, .inl M_g)), (a 2, .inl (Y 0, 1904, .inl M_kept)), (a 3, .inl (Y 0, 238, .inl M_saved)), (a 4, .inl (Y 0, 238, .inl M_before)), (a 5, .inl (Y 0, 60, .inl M_input)), (a 6, .inl (Y 2, 100, .inl M_signs)), (a 7, .inl (Y 0, 6, .inl M_column)), (a 8, .inl (Y 0, 6, .inl M_loads)), (a 9, .inl (Y 0, 2048, .inl M_sums)), (a 10, .inl (Y 0, 2048, .inl M_groups)), (a 11, .inl (Y 0, 155, .inl M_told))] H := by rw [hHe]; exact hP
  have hD : va_D A [(a 0, .inr (11, [.ref (a 1), .ref (a 2), .ref (a 3), .ref (a 4), .int M_isSaved, .int M_changes, .int M_isWithin, .int M_code, .ref (a 5), .int M_length, .int M_fault, .int M_failed, .ref (a 6), .int M_signMany, .ref (a 7), .ref (a 8), .int M_many, .ref (a 9), .ref (a 10), .int M_at, .ref (a 11), .int M_toldMany])), (a 1, .inl (Y 0, 238, .inl M_g)), (a 2, .inl (Y 0, 1904, .inl M_kept)), (a 3, .inl (Y 0, 238, .inl M_saved)), (a 4, .inl (Y 0, 238, .inl M_before)), (a 5, .inl (Y 0, 60, .inl M_input)), (a 6, .inl (Y 2, 100, .inl M_signs)), (a 7, .inl (Y 0, 6, .inl M_column)), (a 8, .inl (Y 0, 6, .inl M_loads)), (a 9, .inl (Y 0, 2048, .inl M_sums)), (a 10, .inl (Y 0, 2048, .inl M_groups)), (a 11, .inl (Y 0, 155, .inl M_told))] := hD
  obtain ⟨locs, hlo⟩ : ∃ locs : List Loc, locs = [] := ⟨_, rfl⟩
  have hS : va_S A s.heap H locs := by rw [hlo]; exact hS
  have hl := lv_entry ([.ref (a 0), .int x1]) (n := 2) (Nat.le_of_ble_eq_true rfl)
  rw [lg_entry_eq]
  generalize (lg_sl ([.ref (a 0), .int x1]) ++ List.replicate (2 - (lg_sl ([.ref (a 0), .int x1])).length) Slot.unset).toArray = ls at hl ⊢
  have hl : lv_has ls 2 [(0, .ref (a 0)), (1, .int x1)] := hl
  refine wk_start hHe hlo ?_
  rw [f_X11_isWrong] at hf
  refine lv_aload_n hx hb dX11_isWrong_0 rfl (lv_at hl 0 rfl) ?_
  refine lv_aload_n hx hb dX11_isWrong_1 rfl (lv_at hl 0 rfl) ?_
  refine lv_iload_n hx hb dX11_isWrong_2 rfl (lv_at hl 1 rfl) ?_
  obtain ⟨r1, hr2, hf⟩ := wkb1_s hf
  have hPc := hP.sub (ws' := (wX11 Y a M_g M_kept M_saved M_before M_isSaved M_changes M_isWithin M_code M_input M_length M_fault M_failed M_signs M_signMany M_column M_loads M_many M_sums M_groups M_at M_told M_toldMany)) [0, 1, 2, 3, 4, 5, 6, 7, 8, 9, 10, 11] rfl
  refine wk_vi (As := [.int x1]) (rest := [.ref (a 0)]) ⟨hx, hb, hml, hown, hts⟩ (c_X11_isSet l dC dI Y a M_g M_kept M_saved M_before M_isSaved M_changes M_isWithin M_code M_input M_length M_fault M_failed M_signs M_signMany M_column M_loads M_many M_sums M_groups M_at M_told M_toldMany x1 r1 hr2) (cwV 1 hts gX11_isWrong_X11_isSet rfl rfl rfl (by decide +kernel) ⟨Nat.le_of_ble_eq_true rfl, Nat.le_of_ble_eq_true rfl⟩) hK hPc (va_recv hK hP (ci := 11) (q0 := 0) rfl rfl) rfl hl.1 rfl (Nat.le_of_ble_eq_true rfl) dX11_isWrong_3 ⟨Nat.le_of_ble_eq_true rfl, Nat.le_of_ble_eq_true rfl⟩ ?_
  refine lv_if_eq (tgt := 13) hx hb dX11_isWrong_6 (by decide) (fun q3 => ?_) (fun q3 => ?_)
  · have hf := wk_t hf q3
    refine lv_iconst (v := 1) hx hb dX11_isWrong_13 (by decide) ?_
    obtain ⟨r4, w5, hr6, hf⟩ := wkb2_s hf
    refine wk_evi (As := [.int 1]) (rest := []) (wc := (wX11 Y a M_g M_kept M_saved M_before M_isSaved M_changes M_isWithin M_code M_input M_length M_fault M_failed M_signs M_signMany M_column M_loads M_many M_sums M_groups M_at M_told M_toldMany)) (w1 := (wX11 Y a M_g M_kept M_saved M_before M_isSaved M_changes M_isWithin w5 M_input M_length M_fault M_failed M_signs M_signMany M_column M_loads M_many M_sums M_groups M_at M_told M_toldMany)) (wr := []) ⟨hx, hb, hml, hown, hts⟩ (c_X11_fails l dC dI Y a M_g M_kept M_saved M_before M_isSaved M_changes M_isWithin M_code M_input M_length M_fault M_failed M_signs M_signMany M_column M_loads M_many M_sums M_groups M_at M_told M_toldMany 1 H.size r4 w5 hr6) (cwV 1 hts gX11_isWrong_X11_fails rfl rfl rfl (by decide +kernel) ⟨Nat.le_of_ble_eq_true rfl, Nat.le_of_ble_eq_true rfl⟩) hK hP hD hS hA [0, 1, 2, 3, 4, 5, 6, 7, 8, 9, 10, 11] [] rfl rfl (by decide) (by decide) (by decide) (va_recv hK hP (ci := 11) (q0 := 0) rfl rfl) rfl hl.1 rfl (Nat.le_of_ble_eq_true rfl) dX11_isWrong_14 ⟨Nat.le_of_ble_eq_true rfl, Nat.le_of_ble_eq_true rfl⟩ (fun H locs hP hD hS => ?_)
    have hP : va_P (dC, dI) vwCl [(a 0, .inr (11, [.ref (a 1), .ref (a 2), .ref (a 3), .ref (a 4), .int M_isSaved, .int M_changes, .int M_isWithin, .int w5, .ref (a 5), .int M_length, .int M_fault, .int M_failed, .ref (a 6), .int M_signMany, .ref (a 7), .ref (a 8), .int M_many, .ref (a 9), .ref (a 10), .int M_at, .ref (a 11), .int M_toldMany])), (a 1, .inl (Y 0, 238, .inl M_g)), (a 2, .inl (Y 0, 1904, .inl M_kept)), (a 3, .inl (Y 0, 238, .inl M_saved)), (a 4, .inl (Y 0, 238, .inl M_before)), (a 5, .inl (Y 0, 60, .inl M_input)), (a 6, .inl (Y 2, 100, .inl M_signs)), (a 7, .inl (Y 0, 6, .inl M_column)), (a 8, .inl (Y 0, 6, .inl M_loads)), (a 9, .inl (Y 0, 2048, .inl M_sums)), (a 10, .inl (Y 0, 2048, .inl M_groups)), (a 11, .inl (Y 0, 155, .inl M_told))] H := hP
    have hD : va_D A [(a 0, .inr (11, [.ref (a 1), .ref (a 2), .ref (a 3), .ref (a 4), .int M_isSaved, .int M_changes, .int M_isWithin, .int w5, .ref (a 5), .int M_length, .int M_fault, .int M_failed, .ref (a 6), .int M_signMany, .ref (a 7), .ref (a 8), .int M_many, .ref (a 9), .ref (a 10), .int M_at, .ref (a 11), .int M_toldMany])), (a 1, .inl (Y 0, 238, .inl M_g)), (a 2, .inl (Y 0, 1904, .inl M_kept)), (a 3, .inl (Y 0, 238, .inl M_saved)), (a 4, .inl (Y 0, 238, .inl M_before)), (a 5, .inl (Y 0, 60, .inl M_input)), (a 6, .inl (Y 2, 100, .inl M_signs)), (a 7, .inl (Y 0, 6, .inl M_column)), (a 8, .inl (Y 0, 6, .inl M_loads)), (a 9, .inl (Y 0, 2048, .inl M_sums)), (a 10, .inl (Y 0, 2048, .inl M_groups)), (a 11, .inl (Y 0, 155, .inl M_told))] := hD
    refine lv_if_eq (tgt := 22) hx hb dX11_isWrong_17 (by decide) (fun q7 => ?_) (fun q7 => ?_)
    · have hf := wk_t hf q7
      refine lv_aload_n hx hb dX11_isWrong_22 rfl (lv_at hl 0 rfl) ?_
      refine lv_iload_n hx hb dX11_isWrong_23 rfl (lv_at hl 1 rfl) ?_
      obtain ⟨w8, w9, w10, hr11, hf⟩ := wkb3_s hf
      refine wk_evv (As := [.int x1]) (rest := []) (wc := (wX11 Y a M_g M_kept M_saved M_before M_isSaved M_changes M_isWithin w5 M_input M_length M_fault M_failed M_signs M_signMany M_column M_loads M_many M_sums M_groups M_at M_told M_toldMany)) (w1 := (wX11 Y a M_g M_kept M_saved M_before M_isSaved M_changes M_isWithin w5 M_input M_length M_fault M_failed M_signs M_signMany w8 w9 w10 M_sums M_groups M_at M_told M_toldMany)) (wr := []) ⟨hx, hb, hml, hown, hts⟩ (c_X11_lays l dC dI Y a M_g M_kept M_saved M_before M_isSaved M_changes M_isWithin w5 M_input M_length M_fault M_failed M_signs M_signMany M_column M_loads M_many M_sums M_groups M_at M_told M_toldMany x1 H.size w8 w9 w10 hr11) (cwV 1 hts gX11_isWrong_X11_lays rfl rfl rfl (by decide +kernel) ⟨Nat.le_of_ble_eq_true rfl, Nat.le_of_ble_eq_true rfl⟩) hK hP hD hS hA [0, 1, 2, 3, 4, 5, 6, 7, 8, 9, 10, 11] [] rfl rfl (by decide) (by decide) (by decide) (va_recv hK hP (ci := 11) (q0 := 0) rfl rfl) rfl hl.1 rfl (Nat.le_of_ble_eq_true rfl) dX11_isWrong_24 ⟨Nat.le_of_ble_eq_true rfl, Nat.le_of_ble_eq_true rfl⟩ (fun H locs hP hD hS => ?_)
      have hP : va_P (dC, dI) vwCl [(a 0, .inr (11, [.ref (a 1), .ref (a 2), .ref (a 3), .ref (a 4), .int M_isSaved, .int M_changes, .int M_isWithin, .int w5, .ref (a 5), .int M_length, .int M_fault, .int M_failed, .ref (a 6), .int M_signMany, .ref (a 7), .ref (a 8), .int w10, .ref (a 9), .ref (a 10), .int M_at, .ref (a 11), .int M_toldMany])), (a 1, .inl (Y 0, 238, .inl M_g)), (a 2, .inl (Y 0, 1904, .inl M_kept)), (a 3, .inl (Y 0, 238, .inl M_saved)), (a 4, .inl (Y 0, 238, .inl M_before)), (a 5, .inl (Y 0, 60, .inl M_input)), (a 6, .inl (Y 2, 100, .inl M_signs)), (a 7, .inl (Y 0, 6, .inl w8)), (a 8, .inl (Y 0, 6, .inl w9)), (a 9, .inl (Y 0, 2048, .inl M_sums)), (a 10, .inl (Y 0, 2048, .inl M_groups)), (a 11, .inl (Y 0, 155, .inl M_told))] H := hP
      have hD : va_D A [(a 0, .inr (11, [.ref (a 1), .ref (a 2), .ref (a 3), .ref (a 4), .int M_isSaved, .int M_changes, .int M_isWithin, .int w5, .ref (a 5), .int M_length, .int M_fault, .int M_failed, .ref (a 6), .int M_signMany, .ref (a 7), .ref (a 8), .int w10, .ref (a 9), .ref (a 10), .int M_at, .ref (a 11), .int M_toldMany])), (a 1, .inl (Y 0, 238, .inl M_g)), (a 2, .inl (Y 0, 1904, .inl M_kept)), (a 3, .inl (Y 0, 238, .inl M_saved)), (a 4, .inl (Y 0, 238, .inl M_before)), (a 5, .inl (Y 0, 60, .inl M_input)), (a 6, .inl (Y 2, 100, .inl M_signs)), (a 7, .inl (Y 0, 6, .inl w8)), (a 8, .inl (Y 0, 6, .inl w9)), (a 9, .inl (Y 0, 2048, .inl M_sums)), (a 10, .inl (Y 0, 2048, .inl M_groups)), (a 11, .inl (Y 0, 155, .inl M_told))] := hD
      refine lv_iconst (v := 0) hx hb dX11_isWrong_27 (by decide) ?_
      obtain ⟨e0, e1, e2, e3, e4⟩ := wke5 hf
      subst e0
      subst e1
      subst e2
      subst e3
      subst e4
      have hP9 := hP.sub (ws' := (wX11 Y a M_g M_kept M_saved M_before M_isSaved M_changes M_isWithin w5 M_input M_length M_fault M_failed M_signs M_signMany w8 w9 w10 M_sums M_groups M_at M_told M_toldMany)) [0, 1, 2, 3, 4, 5, 6, 7, 8, 9, 10, 11] rfl
      have hD9 := hD.sub (ws' := (wX11 Y a M_g M_kept M_saved M_before M_isSaved M_changes M_isWithin w5 M_input M_length M_fault M_failed M_signs M_signMany w8 w9 w10 M_sums M_groups M_at M_told M_toldMany)) [0, 1, 2, 3, 4, 5, 6, 7, 8, 9, 10, 11] (by decide) rfl
      exact W.zret (v := 0) (ty := .boolean) hx hb hr rfl (fun t ht hW => ⟨⟨0, (), rfl, rfl, by rw [ht]; exact hP9, va_K.moved hW.alike hK, hD9⟩, hS.F ht⟩) hS.2.2 dX11_isWrong_28
    · have hf := wk_f hf q7
      refine lv_iconst (v := 1) hx hb dX11_isWrong_20 (by decide) ?_
      obtain ⟨e0, e1, e2, e3, e4⟩ := wke5 hf
      subst e0
      subst e1
      subst e2
      subst e3
      subst e4
      have hP9 := hP.sub (ws' := (wX11 Y a M_g M_kept M_saved M_before M_isSaved M_changes M_isWithin w5 M_input M_length M_fault M_failed M_signs M_signMany M_column M_loads M_many M_sums M_groups M_at M_told M_toldMany)) [0, 1, 2, 3, 4, 5, 6, 7, 8, 9, 10, 11] rfl
      have hD9 := hD.sub (ws' := (wX11 Y a M_g M_kept M_saved M_before M_isSaved M_changes M_isWithin w5 M_input M_length M_fault M_failed M_signs M_signMany M_column M_loads M_many M_sums M_groups M_at M_told M_toldMany)) [0, 1, 2, 3, 4, 5, 6, 7, 8, 9, 10, 11] (by decide) rfl
      exact W.zret (v := 1) (ty := .boolean) hx hb hr rfl (fun t ht hW => ⟨⟨1, (), rfl, rfl, by rw [ht]; exact hP9, va_K.moved hW.alike hK, hD9⟩, hS.F ht⟩) hS.2.2 dX11_isWrong_21
  · have hf := wk_f hf q3
    refine lv_iconst (v := 0) hx hb dX11_isWrong_9 (by decide) ?_
    refine lv_goto (tgt := 14) hx hb dX11_isWrong_10 (by decide) ?_
    obtain ⟨r12, w13, hr14, hf⟩ := wkb2_s hf
    refine wk_evi (As := [.int 0]) (rest := []) (wc := (wX11 Y a M_g M_kept M_saved M_before M_isSaved M_changes M_isWithin M_code M_input M_length M_fault M_failed M_signs M_signMany M_column M_loads M_many M_sums M_groups M_at M_told M_toldMany)) (w1 := (wX11 Y a M_g M_kept M_saved M_before M_isSaved M_changes M_isWithin w13 M_input M_length M_fault M_failed M_signs M_signMany M_column M_loads M_many M_sums M_groups M_at M_told M_toldMany)) (wr := []) ⟨hx, hb, hml, hown, hts⟩ (c_X11_fails l dC dI Y a M_g M_kept M_saved M_before M_isSaved M_changes M_isWithin M_code M_input M_length M_fault M_failed M_signs M_signMany M_column M_loads M_many M_sums M_groups M_at M_told M_toldMany 0 H.size r12 w13 hr14) (cwV 1 hts gX11_isWrong_X11_fails rfl rfl rfl (by decide +kernel) ⟨Nat.le_of_ble_eq_true rfl, Nat.le_of_ble_eq_true rfl⟩) hK hP hD hS hA [0, 1, 2, 3, 4, 5, 6, 7, 8, 9, 10, 11] [] rfl rfl (by decide) (by decide) (by decide) (va_recv hK hP (ci := 11) (q0 := 0) rfl rfl) rfl hl.1 rfl (Nat.le_of_ble_eq_true rfl) dX11_isWrong_14 ⟨Nat.le_of_ble_eq_true rfl, Nat.le_of_ble_eq_true rfl⟩ (fun H locs hP hD hS => ?_)
    have hP : va_P (dC, dI) vwCl [(a 0, .inr (11, [.ref (a 1), .ref (a 2), .ref (a 3), .ref (a 4), .int M_isSaved, .int M_changes, .int M_isWithin, .int w13, .ref (a 5), .int M_length, .int M_fault, .int M_failed, .ref (a 6), .int M_signMany, .ref (a 7), .ref (a 8), .int M_many, .ref (a 9), .ref (a 10), .int M_at, .ref (a 11), .int M_toldMany])), (a 1, .inl (Y 0, 238, .inl M_g)), (a 2, .inl (Y 0, 1904, .inl M_kept)), (a 3, .inl (Y 0, 238, .inl M_saved)), (a 4, .inl (Y 0, 238, .inl M_before)), (a 5, .inl (Y 0, 60, .inl M_input)), (a 6, .inl (Y 2, 100, .inl M_signs)), (a 7, .inl (Y 0, 6, .inl M_column)), (a 8, .inl (Y 0, 6, .inl M_loads)), (a 9, .inl (Y 0, 2048, .inl M_sums)), (a 10, .inl (Y 0, 2048, .inl M_groups)), (a 11, .inl (Y 0, 155, .inl M_told))] H := hP
    have hD : va_D A [(a 0, .inr (11, [.ref (a 1), .ref (a 2), .ref (a 3), .ref (a 4), .int M_isSaved, .int M_changes, .int M_isWithin, .int w13, .ref (a 5), .int M_length, .int M_fault, .int M_failed, .ref (a 6), .int M_signMany, .ref (a 7), .ref (a 8), .int M_many, .ref (a 9), .ref (a 10), .int M_at, .ref (a 11), .int M_toldMany])), (a 1, .inl (Y 0, 238, .inl M_g)), (a 2, .inl (Y 0, 1904, .inl M_kept)), (a 3, .inl (Y 0, 238, .inl M_saved)), (a 4, .inl (Y 0, 238, .inl M_before)), (a 5, .inl (Y 0, 60, .inl M_input)), (a 6, .inl (Y 2, 100, .inl M_signs)), (a 7, .inl (Y 0, 6, .inl M_column)), (a 8, .inl (Y 0, 6, .inl M_loads)), (a 9, .inl (Y 0, 2048, .inl M_sums)), (a 10, .inl (Y 0, 2048, .inl M_groups)), (a 11, .inl (Y 0, 155, .inl M_told))] := hD
    refine lv_if_eq (tgt := 22) hx hb dX11_isWrong_17 (by decide) (fun q15 => ?_) (fun q15 => ?_)
    · have hf := wk_t hf q15
      refine lv_aload_n hx hb dX11_isWrong_22 rfl (lv_at hl 0 rfl) ?_
      refine lv_iload_n hx hb dX11_isWrong_23 rfl (lv_at hl 1 rfl) ?_
      obtain ⟨w16, w17, w18, hr19, hf⟩ := wkb3_s hf
      refine wk_evv (As := [.int x1]) (rest := []) (wc := (wX11 Y a M_g M_kept M_saved M_before M_isSaved M_changes M_isWithin w13 M_input M_length M_fault M_failed M_signs M_signMany M_column M_loads M_many M_sums M_groups M_at M_told M_toldMany)) (w1 := (wX11 Y a M_g M_kept M_saved M_before M_isSaved M_changes M_isWithin w13 M_input M_length M_fault M_failed M_signs M_signMany w16 w17 w18 M_sums M_groups M_at M_told M_toldMany)) (wr := []) ⟨hx, hb, hml, hown, hts⟩ (c_X11_lays l dC dI Y a M_g M_kept M_saved M_before M_isSaved M_changes M_isWithin w13 M_input M_length M_fault M_failed M_signs M_signMany M_column M_loads M_many M_sums M_groups M_at M_told M_toldMany x1 H.size w16 w17 w18 hr19) (cwV 1 hts gX11_isWrong_X11_lays rfl rfl rfl (by decide +kernel) ⟨Nat.le_of_ble_eq_true rfl, Nat.le_of_ble_eq_true rfl⟩) hK hP hD hS hA [0, 1, 2, 3, 4, 5, 6, 7, 8, 9, 10, 11] [] rfl rfl (by decide) (by decide) (by decide) (va_recv hK hP (ci := 11) (q0 := 0) rfl rfl) rfl hl.1 rfl (Nat.le_of_ble_eq_true rfl) dX11_isWrong_24 ⟨Nat.le_of_ble_eq_true rfl, Nat.le_of_ble_eq_true rfl⟩ (fun H locs hP hD hS => ?_)
      have hP : va_P (dC, dI) vwCl [(a 0, .inr (11, [.ref (a 1), .ref (a 2), .ref (a 3), .ref (a 4), .int M_isSaved, .int M_changes, .int M_isWithin, .int w13, .ref (a 5), .int M_length, .int M_fault, .int M_failed, .ref (a 6), .int M_signMany, .ref (a 7), .ref (a 8), .int w18, .ref (a 9), .ref (a 10), .int M_at, .ref (a 11), .int M_toldMany])), (a 1, .inl (Y 0, 238, .inl M_g)), (a 2, .inl (Y 0, 1904, .inl M_kept)), (a 3, .inl (Y 0, 238, .inl M_saved)), (a 4, .inl (Y 0, 238, .inl M_before)), (a 5, .inl (Y 0, 60, .inl M_input)), (a 6, .inl (Y 2, 100, .inl M_signs)), (a 7, .inl (Y 0, 6, .inl w16)), (a 8, .inl (Y 0, 6, .inl w17)), (a 9, .inl (Y 0, 2048, .inl M_sums)), (a 10, .inl (Y 0, 2048, .inl M_groups)), (a 11, .inl (Y 0, 155, .inl M_told))] H := hP
      have hD : va_D A [(a 0, .inr (11, [.ref (a 1), .ref (a 2), .ref (a 3), .ref (a 4), .int M_isSaved, .int M_changes, .int M_isWithin, .int w13, .ref (a 5), .int M_length, .int M_fault, .int M_failed, .ref (a 6), .int M_signMany, .ref (a 7), .ref (a 8), .int w18, .ref (a 9), .ref (a 10), .int M_at, .ref (a 11), .int M_toldMany])), (a 1, .inl (Y 0, 238, .inl M_g)), (a 2, .inl (Y 0, 1904, .inl M_kept)), (a 3, .inl (Y 0, 238, .inl M_saved)), (a 4, .inl (Y 0, 238, .inl M_before)), (a 5, .inl (Y 0, 60, .inl M_input)), (a 6, .inl (Y 2, 100, .inl M_signs)), (a 7, .inl (Y 0, 6, .inl w16)), (a 8, .inl (Y 0, 6, .inl w17)), (a 9, .inl (Y 0, 2048, .inl M_sums)), (a 10, .inl (Y 0, 2048, .inl M_groups)), (a 11, .inl (Y 0, 155, .inl M_told))] := hD
      refine lv_iconst (v := 0) hx hb dX11_isWrong_27 (by decide) ?_
      obtain ⟨e0, e1, e2, e3, e4⟩ := wke5 hf
      subst e0
      subst e1
      subst e2
      subst e3
      subst e4
      have hP9 := hP.sub (ws' := (wX11 Y a M_g M_kept M_saved M_before M_isSaved M_changes M_isWithin w13 M_input M_length M_fault M_failed M_signs M_signMany w16 w17 w18 M_sums M_groups M_at M_told M_toldMany)) [0, 1, 2, 3, 4, 5, 6, 7, 8, 9, 10, 11] rfl
      have hD9 := hD.sub (ws' := (wX11 Y a M_g M_kept M_saved M_before M_isSaved M_changes M_isWithin w13 M_input M_length M_fault M_failed M_signs M_signMany w16 w17 w18 M_sums M_groups M_at M_told M_toldMany)) [0, 1, 2, 3, 4, 5, 6, 7, 8, 9, 10, 11] (by decide) rfl
      exact W.zret (v := 0) (ty := .boolean) hx hb hr rfl (fun t ht hW => ⟨⟨0, (), rfl, rfl, by rw [ht]; exact hP9, va_K.moved hW.alike hK, hD9⟩, hS.F ht⟩) hS.2.2 dX11_isWrong_28
    · have hf := wk_f hf q15
      refine lv_iconst (v := 1) hx hb dX11_isWrong_20 (by decide) ?_
      obtain ⟨e0, e1, e2, e3, e4⟩ := wke5 hf
      subst e0
      subst e1
      subst e2
      subst e3
      subst e4
      have hP9 := hP.sub (ws' := (wX11 Y a M_g M_kept M_saved M_before M_isSaved M_changes M_isWithin w13 M_input M_length M_fault M_failed M_signs M_signMany M_column M_loads M_many M_sums M_groups M_at M_told M_toldMany)) [0, 1, 2, 3, 4, 5, 6, 7, 8, 9, 10, 11] rfl
      have hD9 := hD.sub (ws' := (wX11 Y a M_g M_kept M_saved M_before M_isSaved M_changes M_isWithin w13 M_input M_length M_fault M_failed M_signs M_signMany M_column M_loads M_many M_sums M_groups M_at M_told M_toldMany)) [0, 1, 2, 3, 4, 5, 6, 7, 8, 9, 10, 11] (by decide) rfl
      exact W.zret (v := 1) (ty := .boolean) hx hb hr rfl (fun t ht hW => ⟨⟨1, (), rfl, rfl, by rw [ht]; exact hP9, va_K.moved hW.alike hK, hD9⟩, hS.F ht⟩) hS.2.2 dX11_isWrong_21
theorem lk_X11_areHurt_RX11_7 : Cond.fieldLink RX11 7 "CircusLedgerModel" "g" "[I" ∈ wsX11_areHurt := by decide +kernel
theorem in_X11_areHurt_X11 : ∀ w ∈ u_ws RX11 TX11 22, w ∈ wsX11_areHurt := by decide +kernel
def f_X11_areHurt_L2 (M_g : Nat → Int32) (x1 : Int32) : Nat → Int32 → Option (Int32)
  | 0, _ => none
  | nn + 1, x2 =>
    if (M_g 0) ≤ x2 then
      (some (0))
    else
      (if ((x1 >>> (x2 &&& 31)) &&& 1) = 1 then
        (wkb1 (f_X11_of M_g x2 4) (fun r3 =>
        if r3 ≤ 0 then
          (f_X11_areHurt_L2 M_g x1 nn (x2 + 1))
        else
          (some (1))))
      else
        (f_X11_areHurt_L2 M_g x1 nn (x2 + 1)))
def f_X11_areHurt (M_g : Nat → Int32) (x1 : Int32) : Option (Int32) :=
  f_X11_areHurt_L2 M_g x1 FU 0
set_option maxHeartbeats 4000000 in
set_option maxRecDepth 100000 in
theorem wl_X11_areHurt_L2 {p : Program} {l : Launch} {e : Env} {s : State} {m : MethodId} {args : Array Value} {below : List Frame} {meth : Method} {c : Code} {dC : Nat → ClassId} {dI : Nat → Nat → Nat} {Y : Nat → ClassId} {a : Nat → Nat} {M_g : Nat → Int32} {M_kept : Nat → Int32} {M_saved : Nat → Int32} {M_before : Nat → Int32} {M_isSaved : Int32} {M_changes : Int32} {M_isWithin : Int32} {M_code : Int32} {M_input : Nat → Int32} {M_length : Int32} {M_fault : Int32} {M_failed : Int32} {M_signs : Nat → Int32} {M_signMany : Int32} {M_column : Nat → Int32} {M_loads : Nat → Int32} {M_many : Int32} {M_sums : Nat → Int32} {M_groups : Nat → Int32} {M_at : Int32} {M_told : Nat → Int32} {M_toldMany : Int32} {x1 : Int32} {r : Int32}  (C0 : wk_C p s m args meth c cX11_areHurt 3 (some .boolean) wsX11_areHurt RX11) (hK : va_K (dC, dI) vwCl (vTy Y) s) (hP : va_P (dC, dI) vwCl (wX11 Y a M_g M_kept M_saved M_before M_isSaved M_changes M_isWithin M_code M_input M_length M_fault M_failed M_signs M_signMany M_column M_loads M_many M_sums M_groups M_at M_told M_toldMany) s.heap) : ∀ (nn : Nat) (x2 : Int32)  , f_X11_areHurt_L2 M_g x1 nn x2 = some (r) → ∀ (ls : Array Slot), lv_has ls 3 [(0, .ref (a 0)), (1, .int x1), (2, .int x2)] → W p l e (headSpec wsX11_areHurt ({ frames := 1, cells := 0, slots := 0, locals := 22 } : Room)).room s m args below meth c s.heap [] 0 0 (MQ below (vp_Si (fun r2 => r2 = r)) args s 0 0 (fun _ => False)) (F0 m 2 ls []) := by
  have C0 := C0
  obtain ⟨hx, hb, hml, hr, hlocks, hown, hts⟩ := id C0
  intro nn
  induction nn with
  | zero =>
    intro x2 hf
    rw [f_X11_areHurt_L2] at hf
    cases hf
  | succ nn ih =>
    intro x2 hf ls hl
    rw [f_X11_areHurt_L2] at hf
    have hP : va_P (dC, dI) vwCl [(a 0, .inr (11, [.ref (a 1), .ref (a 2), .ref (a 3), .ref (a 4), .int M_isSaved, .int M_changes, .int M_isWithin, .int M_code, .ref (a 5), .int M_length, .int M_fault, .int M_failed, .ref (a 6), .int M_signMany, .ref (a 7), .ref (a 8), .int M_many, .ref (a 9), .ref (a 10), .int M_at, .ref (a 11), .int M_toldMany])), (a 1, .inl (Y 0, 238, .inl M_g)), (a 2, .inl (Y 0, 1904, .inl M_kept)), (a 3, .inl (Y 0, 238, .inl M_saved)), (a 4, .inl (Y 0, 238, .inl M_before)), (a 5, .inl (Y 0, 60, .inl M_input)), (a 6, .inl (Y 2, 100, .inl M_signs)), (a 7, .inl (Y 0, 6, .inl M_column)), (a 8, .inl (Y 0, 6, .inl M_loads)), (a 9, .inl (Y 0, 2048, .inl M_sums)), (a 10, .inl (Y 0, 2048, .inl M_groups)), (a 11, .inl (Y 0, 155, .inl M_told))] s.heap := hP
    refine lv_iload_n hx hb dX11_areHurt_2 rfl (lv_at hl 2 rfl) ?_
    refine lv_aload_n hx hb dX11_areHurt_3 rfl (lv_at hl 0 rfl) ?_
    refine va_get (D := (dC, dI)) (ci := 11) (v := .ref (a 1)) (C := RX11) (T := TX11) (N := 22) hx hb hts in_X11_areHurt_X11 hown hK hP 0 rfl rfl 0 (by decide) (hts _ lk_X11_areHurt_RX11_7) (fun _ h9 => h9) rfl dX11_areHurt_4 ?_
    refine lv_iconst (v := 0) hx hb dX11_areHurt_7 (by decide) ?_
    refine wk_iald hx hb hK hP 1 0 (k := 0) rfl rfl (vp_lit (by decide)) (by decide) dX11_areHurt_8 ?_
    refine lv_icmp_ge (tgt := 38) hx hb dX11_areHurt_9 (by decide) (fun q1 => ?_) (fun q1 => ?_)
    · have hf := wk_t hf q1
      refine lv_iconst (v := 0) hx hb dX11_areHurt_38 (by decide) ?_
      have e0 := wke1 hf
      subst e0
      exact W.zret (v := 0) (ty := .boolean) hx hb hr rfl (fun t ht hW => ⟨0, rfl, rfl, ht⟩) (fun q h => absurd h List.not_mem_nil) dX11_areHurt_39
    · have hf := wk_f hf q1
      refine lv_iload_n hx hb dX11_areHurt_12 rfl (lv_at hl 1 rfl) ?_
      refine lv_iload_n hx hb dX11_areHurt_13 rfl (lv_at hl 2 rfl) ?_
      refine lv_ishr hx hb dX11_areHurt_14 ?_
      refine lv_iconst (v := 1) hx hb dX11_areHurt_15 (by decide) ?_
      refine lv_iand hx hb dX11_areHurt_16 ?_
      refine lv_iconst (v := 1) hx hb dX11_areHurt_17 (by decide) ?_
      refine lv_icmp_ne (tgt := 32) hx hb dX11_areHurt_18 (by decide) (fun q2 => ?_) (fun q2 => ?_)
      · have hf := wk_f hf q2
        refine lv_iinc (v := (x2 + 1)) (lv' := [(2, .int (x2 + 1)), (0, .ref (a 0)), (1, .int x1)]) hx hb dX11_areHurt_32 hl (k := 2) rfl rfl (by decide) rfl (fun ls hl => ?_)
        refine lv_goto (tgt := 2) hx hb dX11_areHurt_35 (by decide) ?_
        exact ih (x2 + 1) hf ls (lv_sub hl [1, 2, 0] rfl)
      · have hf := wk_t hf q2
        refine lv_aload_n hx hb dX11_areHurt_21 rfl (lv_at hl 0 rfl) ?_
        refine lv_iload_n hx hb dX11_areHurt_22 rfl (lv_at hl 2 rfl) ?_
        refine lv_iconst (v := 4) hx hb dX11_areHurt_23 (by decide) ?_
        obtain ⟨r3, hr4, hf⟩ := wkb1_s hf
        have hPc := hP.sub (ws' := (wX11 Y a M_g M_kept M_saved M_before M_isSaved M_changes M_isWithin M_code M_input M_length M_fault M_failed M_signs M_signMany M_column M_loads M_many M_sums M_groups M_at M_told M_toldMany)) [0, 1, 2, 3, 4, 5, 6, 7, 8, 9, 10, 11] rfl
        refine wk_vi (As := [.int x2, .int 4]) (rest := []) ⟨hx, hb, hml, hown, hts⟩ (c_X11_of l dC dI Y a M_g M_kept M_saved M_before M_isSaved M_changes M_isWithin M_code M_input M_length M_fault M_failed M_signs M_signMany M_column M_loads M_many M_sums M_groups M_at M_told M_toldMany x2 4 r3 hr4) (cwV 2 hts gX11_areHurt_X11_of rfl rfl rfl (by decide +kernel) ⟨Nat.le_of_ble_eq_true rfl, Nat.le_of_ble_eq_true rfl⟩) hK hPc (va_recv hK hP (ci := 11) (q0 := 0) rfl rfl) rfl hl.1 rfl (Nat.le_of_ble_eq_true rfl) dX11_areHurt_24 ⟨Nat.le_of_ble_eq_true rfl, Nat.le_of_ble_eq_true rfl⟩ ?_
        refine lv_if_le (tgt := 32) hx hb dX11_areHurt_27 (by decide) (fun q5 => ?_) (fun q5 => ?_)
        · have hf := wk_t hf q5
          refine lv_iinc (v := (x2 + 1)) (lv' := [(2, .int (x2 + 1)), (0, .ref (a 0)), (1, .int x1)]) hx hb dX11_areHurt_32 hl (k := 2) rfl rfl (by decide) rfl (fun ls hl => ?_)
          refine lv_goto (tgt := 2) hx hb dX11_areHurt_35 (by decide) ?_
          exact ih (x2 + 1) hf ls (lv_sub hl [1, 2, 0] rfl)
        · have hf := wk_f hf q5
          refine lv_iconst (v := 1) hx hb dX11_areHurt_30 (by decide) ?_
          have e0 := wke1 hf
          subst e0
          exact W.zret (v := 1) (ty := .boolean) hx hb hr rfl (fun t ht hW => ⟨1, rfl, rfl, ht⟩) (fun q h => absurd h List.not_mem_nil) dX11_areHurt_31
set_option maxHeartbeats 4000000 in
set_option maxRecDepth 100000 in
theorem c_X11_areHurt (l : Launch) (dC : Nat → ClassId) (dI : Nat → Nat → Nat) (Y : Nat → ClassId) (a : Nat → Nat) (M_g : Nat → Int32) (M_kept : Nat → Int32) (M_saved : Nat → Int32) (M_before : Nat → Int32) (M_isSaved : Int32) (M_changes : Int32) (M_isWithin : Int32) (M_code : Int32) (M_input : Nat → Int32) (M_length : Int32) (M_fault : Int32) (M_failed : Int32) (M_signs : Nat → Int32) (M_signMany : Int32) (M_column : Nat → Int32) (M_loads : Nat → Int32) (M_many : Int32) (M_sums : Nat → Int32) (M_groups : Nat → Int32) (M_at : Int32) (M_told : Nat → Int32) (M_toldMany : Int32) (x1 : Int32) (r : Int32) (hf : f_X11_areHurt M_g x1 = some (r)) : Met l yX11_areHurt wsX11_areHurt ({ frames := 1, cells := 0, slots := 0, locals := 22 } : Room) (va_Pc [.ref (a 0), .int x1] (wk_B (dC, dI) Y (wX11 Y a M_g M_kept M_saved M_before M_isSaved M_changes M_isWithin M_code M_input M_length M_fault M_failed M_signs M_signMany M_column M_loads M_many M_sums M_groups M_at M_told M_toldMany))) (vp_Si (fun r2 => r2 = r)) 0 0 (fun _ => False) := by
  refine Met.ofW (cc := cX11_areHurt) (maxL := 3) (ret := (some .boolean)) (by decide) rfl ?_
  intro p e s m args below meth c s₁ B hml hv
  obtain ⟨rfl, hP, hK⟩ := hv
  have hx := B.exec
  have hb := B.bytes
  have hr := B.returns
  have hts := atoms_spec (ws := wsX11_areHurt) B.pre
  have hown : s.vm.findClass RX11 = some m.cls := findClass_of_methodNamed B.named
  have hlocks := B.notSynchronized
  have C0 : wk_C p s m _ meth c cX11_areHurt 3 (some .boolean) wsX11_areHurt RX11 := ⟨hx, hb, hml, hr, hlocks, hown, hts⟩
  have hP : va_P (dC, dI) vwCl [(a 0, .inr (11, [.ref (a 1), .ref (a 2), .ref (a 3), .ref (a 4), .int M_isSaved, .int M_changes, .int M_isWithin, .int M_code, .ref (a 5), .int M_length, .int M_fault, .int M_failed, .ref (a 6), .int M_signMany, .ref (a 7), .ref (a 8), .int M_many, .ref (a 9), .ref (a 10), .int M_at, .ref (a 11), .int M_toldMany])), (a 1, .inl (Y 0, 238, .inl M_g)), (a 2, .inl (Y 0, 1904, .inl M_kept)), (a 3, .inl (Y 0, 238, .inl M_saved)), (a 4, .inl (Y 0, 238, .inl M_before)), (a 5, .inl (Y 0, 60, .inl M_input)), (a 6, .inl (Y 2, 100, .inl M_signs)), (a 7, .inl (Y 0, 6, .inl M_column)), (a 8, .inl (Y 0, 6, .inl M_loads)), (a 9, .inl (Y 0, 2048, .inl M_sums)), (a 10, .inl (Y 0, 2048, .inl M_groups)), (a 11, .inl (Y 0, 155, .inl M_told))] s.heap := hP
  have hl := lv_entry ([.ref (a 0), .int x1]) (n := 3) (Nat.le_of_ble_eq_true rfl)
  rw [lg_entry_eq]
  generalize (lg_sl ([.ref (a 0), .int x1]) ++ List.replicate (3 - (lg_sl ([.ref (a 0), .int x1])).length) Slot.unset).toArray = ls at hl ⊢
  have hl : lv_has ls 3 [(0, .ref (a 0)), (1, .int x1)] := hl
  rw [f_X11_areHurt] at hf
  refine lv_iconst (v := 0) hx hb dX11_areHurt_0 (by decide) ?_
  refine lv_istore_n (lv' := [(2, .int 0), (0, .ref (a 0)), (1, .int x1)]) hx hb dX11_areHurt_1 rfl hl (by decide) rfl (fun ls hl => ?_)
  exact wl_X11_areHurt_L2 C0 hK hP FU 0 hf ls (lv_sub hl [1, 2, 0] rfl)
theorem lk_X11_passes_RX11_7 : Cond.fieldLink RX11 7 "CircusLedgerModel" "g" "[I" ∈ wsX11_passes := by decide +kernel
theorem in_X11_passes_X11 : ∀ w ∈ u_ws RX11 TX11 22, w ∈ wsX11_passes := by decide +kernel
def f_X11_passes_L14 (x1 : Int32) : Nat → Int32 → Int32 → (Nat → Int32) → Option (Int32 × (Nat → Int32))
  | 0, _, _, _ => none
  | nn + 1, x2, x3, M_g =>
    if (M_g 0) ≤ x3 then
      (some (x2, M_g))
    else
      (wkb1 (f_X11_of M_g x3 4) (fun r2 =>
      if (r2 - x1) ≤ 0 then
        (gin ((6 + (5 * x3)) + 4) 238 (wkl (upd M_g (((6 + (5 * x3)) + 4).toNatClampNeg) 0) (fun g5 =>
        if (r2 - x1) ≤ 0 then
          (f_X11_passes_L14 x1 nn (x2 + 0) (x3 + 1) g5)
        else
          (f_X11_passes_L14 x1 nn (x2 + 1) (x3 + 1) g5))))
      else
        (gin ((6 + (5 * x3)) + 4) 238 (wkl (upd M_g (((6 + (5 * x3)) + 4).toNatClampNeg) (r2 - x1)) (fun g8 =>
        if (r2 - x1) ≤ 0 then
          (f_X11_passes_L14 x1 nn (x2 + 0) (x3 + 1) g8)
        else
          (f_X11_passes_L14 x1 nn (x2 + 1) (x3 + 1) g8))))))
def f_X11_passes (M_g : Nat → Int32) (x1 : Int32) : Option (Int32 × (Nat → Int32)) :=
  wkl (upd M_g 1 ((M_g 1) + x1)) (fun g1 =>
  f_X11_passes_L14 x1 FU 0 0 g1)
set_option maxHeartbeats 4000000 in
set_option maxRecDepth 100000 in
theorem wl_X11_passes_L14 {p : Program} {l : Launch} {e : Env} {s : State} {m : MethodId} {args : Array Value} {below : List Frame} {meth : Method} {c : Code} {dC : Nat → ClassId} {dI : Nat → Nat → Nat} {Y : Nat → ClassId} {a : Nat → Nat} {M_kept : Nat → Int32} {M_saved : Nat → Int32} {M_before : Nat → Int32} {M_isSaved : Int32} {M_changes : Int32} {M_isWithin : Int32} {M_code : Int32} {M_input : Nat → Int32} {M_length : Int32} {M_fault : Int32} {M_failed : Int32} {M_signs : Nat → Int32} {M_signMany : Int32} {M_column : Nat → Int32} {M_loads : Nat → Int32} {M_many : Int32} {M_sums : Nat → Int32} {M_groups : Nat → Int32} {M_at : Int32} {M_told : Nat → Int32} {M_toldMany : Int32} {x1 : Int32} {r : Int32} {zM_g : Nat → Int32}  (C0 : wk_C p s m args meth c cX11_passes 5 (some .int) wsX11_passes RX11) {A : Nat → Prop} (hK : va_K (dC, dI) vwCl (vTy Y) s) (hA : ∀ q, s.heap.size ≤ q → A q) : ∀ (nn : Nat) (x2 : Int32) (x3 : Int32)  (M_g : Nat → Int32), f_X11_passes_L14 x1 nn x2 x3 M_g = some (r, zM_g) → ∀ (H : Heap) (locs : List Loc), va_P (dC, dI) vwCl (wX11 Y a M_g M_kept M_saved M_before M_isSaved M_changes M_isWithin M_code M_input M_length M_fault M_failed M_signs M_signMany M_column M_loads M_many M_sums M_groups M_at M_told M_toldMany) H → va_D A (wX11 Y a M_g M_kept M_saved M_before M_isSaved M_changes M_isWithin M_code M_input M_length M_fault M_failed M_signs M_signMany M_column M_loads M_many M_sums M_groups M_at M_told M_toldMany) → va_S A s.heap H locs → ∀ (ls : Array Slot), lv_has ls 5 [(0, .ref (a 0)), (1, .int x1), (2, .int x2), (3, .int x3)] → W p l e (headSpec wsX11_passes ({ frames := 1, cells := 0, slots := 0, locals := 22 } : Room)).room s m args below meth c H locs 0 0 (MQ below (va_Qi (fun r2 (_ : Unit) => r2 = r) (fun _ t => wk_X (dC, dI) Y (wX11 Y a zM_g M_kept M_saved M_before M_isSaved M_changes M_isWithin M_code M_input M_length M_fault M_failed M_signs M_signMany M_column M_loads M_many M_sums M_groups M_at M_told M_toldMany) A t) A) args s 0 0 A) (F0 m 14 ls []) := by
  have C0 := C0
  obtain ⟨hx, hb, hml, hr, hlocks, hown, hts⟩ := id C0
  intro nn
  induction nn with
  | zero =>
    intro x2 x3 M_g hf
    rw [f_X11_passes_L14] at hf
    cases hf
  | succ nn ih =>
    intro x2 x3 M_g hf H locs hP hD hS ls hl
    rw [f_X11_passes_L14] at hf
    have hP : va_P (dC, dI) vwCl [(a 0, .inr (11, [.ref (a 1), .ref (a 2), .ref (a 3), .ref (a 4), .int M_isSaved, .int M_changes, .int M_isWithin, .int M_code, .ref (a 5), .int M_length, .int M_fault, .int M_failed, .ref (a 6), .int M_signMany, .ref (a 7), .ref (a 8), .int M_many, .ref (a 9), .ref (a 10), .int M_at, .ref (a 11), .int M_toldMany])), (a 1, .inl (Y 0, 238, .inl M_g)), (a 2, .inl (Y 0, 1904, .inl M_kept)), (a 3, .inl (Y 0, 238, .inl M_saved)), (a 4, .inl (Y 0, 238, .inl M_before)), (a 5, .inl (Y 0, 60, .inl M_input)), (a 6, .inl (Y 2, 100, .inl M_signs)), (a 7, .inl (Y 0, 6, .inl M_column)), (a 8, .inl (Y 0, 6, .inl M_loads)), (a 9, .inl (Y 0, 2048, .inl M_sums)), (a 10, .inl (Y 0, 2048, .inl M_groups)), (a 11, .inl (Y 0, 155, .inl M_told))] H := hP
    have hD : va_D A [(a 0, .inr (11, [.ref (a 1), .ref (a 2), .ref (a 3), .ref (a 4), .int M_isSaved, .int M_changes, .int M_isWithin, .int M_code, .ref (a 5), .int M_length, .int M_fault, .int M_failed, .ref (a 6), .int M_signMany, .ref (a 7), .ref (a 8), .int M_many, .ref (a 9), .ref (a 10), .int M_at, .ref (a 11), .int M_toldMany])), (a 1, .inl (Y 0, 238, .inl M_g)), (a 2, .inl (Y 0, 1904, .inl M_kept)), (a 3, .inl (Y 0, 238, .inl M_saved)), (a 4, .inl (Y 0, 238, .inl M_before)), (a 5, .inl (Y 0, 60, .inl M_input)), (a 6, .inl (Y 2, 100, .inl M_signs)), (a 7, .inl (Y 0, 6, .inl M_column)), (a 8, .inl (Y 0, 6, .inl M_loads)), (a 9, .inl (Y 0, 2048, .inl M_sums)), (a 10, .inl (Y 0, 2048, .inl M_groups)), (a 11, .inl (Y 0, 155, .inl M_told))] := hD
    refine lv_iload_n hx hb dX11_passes_14 rfl (lv_at hl 3 rfl) ?_
    refine lv_aload_n hx hb dX11_passes_15 rfl (lv_at hl 0 rfl) ?_
    refine va_get (D := (dC, dI)) (ci := 11) (v := .ref (a 1)) (C := RX11) (T := TX11) (N := 22) hx hb hts in_X11_passes_X11 hown hK hP 0 rfl rfl 0 (by decide) (hts _ lk_X11_passes_RX11_7) (fun _ h9 => h9) rfl dX11_passes_16 ?_
    refine lv_iconst (v := 0) hx hb dX11_passes_19 (by decide) ?_
    refine wk_iald hx hb hK hP 1 0 (k := 0) rfl rfl (vp_lit (by decide)) (by decide) dX11_passes_20 ?_
    refine lv_icmp_ge (tgt := 77) hx hb dX11_passes_21 (by decide) (fun q1 => ?_) (fun q1 => ?_)
    · have hf := wk_t hf q1
      refine lv_iload_n hx hb dX11_passes_77 rfl (lv_at hl 2 rfl) ?_
      obtain ⟨e0, e1⟩ := wke2 hf
      subst e0
      subst e1
      have hP9 := hP.sub (ws' := (wX11 Y a M_g M_kept M_saved M_before M_isSaved M_changes M_isWithin M_code M_input M_length M_fault M_failed M_signs M_signMany M_column M_loads M_many M_sums M_groups M_at M_told M_toldMany)) [0, 1, 2, 3, 4, 5, 6, 7, 8, 9, 10, 11] rfl
      have hD9 := hD.sub (ws' := (wX11 Y a M_g M_kept M_saved M_before M_isSaved M_changes M_isWithin M_code M_input M_length M_fault M_failed M_signs M_signMany M_column M_loads M_many M_sums M_groups M_at M_told M_toldMany)) [0, 1, 2, 3, 4, 5, 6, 7, 8, 9, 10, 11] (by decide) rfl
      exact W.iret (v := x2) hx hb hr (fun t ht hW => ⟨⟨x2, (), rfl, rfl, by rw [ht]; exact hP9, va_K.moved hW.alike hK, hD9⟩, hS.F ht⟩) hS.2.2 dX11_passes_78
    · have hf := wk_f hf q1
      refine lv_aload_n hx hb dX11_passes_24 rfl (lv_at hl 0 rfl) ?_
      refine lv_iload_n hx hb dX11_passes_25 rfl (lv_at hl 3 rfl) ?_
      refine lv_iconst (v := 4) hx hb dX11_passes_26 (by decide) ?_
      obtain ⟨r2, hr3, hf⟩ := wkb1_s hf
      have hPc := hP.sub (ws' := (wX11 Y a M_g M_kept M_saved M_before M_isSaved M_changes M_isWithin M_code M_input M_length M_fault M_failed M_signs M_signMany M_column M_loads M_many M_sums M_groups M_at M_told M_toldMany)) [0, 1, 2, 3, 4, 5, 6, 7, 8, 9, 10, 11] rfl
      refine wk_vi (As := [.int x3, .int 4]) (rest := []) ⟨hx, hb, hml, hown, hts⟩ (c_X11_of l dC dI Y a M_g M_kept M_saved M_before M_isSaved M_changes M_isWithin M_code M_input M_length M_fault M_failed M_signs M_signMany M_column M_loads M_many M_sums M_groups M_at M_told M_toldMany x3 4 r2 hr3) (cwV 2 hts gX11_passes_X11_of rfl rfl rfl (by decide +kernel) ⟨Nat.le_of_ble_eq_true rfl, Nat.le_of_ble_eq_true rfl⟩) hK hPc (va_recv hK hP (ci := 11) (q0 := 0) rfl rfl) rfl hl.1 rfl (Nat.le_of_ble_eq_true rfl) dX11_passes_27 ⟨Nat.le_of_ble_eq_true rfl, Nat.le_of_ble_eq_true rfl⟩ ?_
      refine lv_iload_n hx hb dX11_passes_30 rfl (lv_at hl 1 rfl) ?_
      refine lv_isub hx hb dX11_passes_31 ?_
      refine lv_istore (lv' := [(4, .int (r2 - x1)), (0, .ref (a 0)), (1, .int x1), (2, .int x2), (3, .int x3)]) hx hb dX11_passes_32 hl (by decide) rfl (fun ls hl => ?_)
      refine lv_aload_n hx hb dX11_passes_34 rfl (lv_at hl 1 rfl) ?_
      refine va_get (D := (dC, dI)) (ci := 11) (v := .ref (a 1)) (C := RX11) (T := TX11) (N := 22) hx hb hts in_X11_passes_X11 hown hK hP 0 rfl rfl 0 (by decide) (hts _ lk_X11_passes_RX11_7) (fun _ h9 => h9) rfl dX11_passes_35 ?_
      refine lv_bipush (v := 6) hx hb dX11_passes_38 (by decide) ?_
      refine lv_iconst (v := 5) hx hb dX11_passes_40 (by decide) ?_
      refine lv_iload_n hx hb dX11_passes_41 rfl (lv_at hl 4 rfl) ?_
      refine lv_imul hx hb dX11_passes_42 ?_
      refine lv_iadd hx hb dX11_passes_43 ?_
      refine lv_iconst (v := 4) hx hb dX11_passes_44 (by decide) ?_
      refine lv_iadd hx hb dX11_passes_45 ?_
      refine lv_iload hx hb dX11_passes_46 (lv_at hl 0 rfl) ?_
      refine lv_if_le (tgt := 56) hx hb dX11_passes_48 (by decide) (fun q4 => ?_) (fun q4 => ?_)
      · have hf := wk_t hf q4
        refine lv_iconst (v := 0) hx hb dX11_passes_56 (by decide) ?_
        obtain ⟨h6, hf⟩ := gin_s hf
        refine wk_iast hx hb hK hP hD hS 1 0 (k := ((6 + (5 * x3)) + 4).toNatClampNeg) rfl rfl h6 rfl dX11_passes_57 (fun g5 H locs eg5 hP hD hS => ?_)
        have hP : va_P (dC, dI) vwCl [(a 0, .inr (11, [.ref (a 1), .ref (a 2), .ref (a 3), .ref (a 4), .int M_isSaved, .int M_changes, .int M_isWithin, .int M_code, .ref (a 5), .int M_length, .int M_fault, .int M_failed, .ref (a 6), .int M_signMany, .ref (a 7), .ref (a 8), .int M_many, .ref (a 9), .ref (a 10), .int M_at, .ref (a 11), .int M_toldMany])), (a 1, .inl (Y 0, 238, .inl g5)), (a 2, .inl (Y 0, 1904, .inl M_kept)), (a 3, .inl (Y 0, 238, .inl M_saved)), (a 4, .inl (Y 0, 238, .inl M_before)), (a 5, .inl (Y 0, 60, .inl M_input)), (a 6, .inl (Y 2, 100, .inl M_signs)), (a 7, .inl (Y 0, 6, .inl M_column)), (a 8, .inl (Y 0, 6, .inl M_loads)), (a 9, .inl (Y 0, 2048, .inl M_sums)), (a 10, .inl (Y 0, 2048, .inl M_groups)), (a 11, .inl (Y 0, 155, .inl M_told))] H := hP
        have hD : va_D A [(a 0, .inr (11, [.ref (a 1), .ref (a 2), .ref (a 3), .ref (a 4), .int M_isSaved, .int M_changes, .int M_isWithin, .int M_code, .ref (a 5), .int M_length, .int M_fault, .int M_failed, .ref (a 6), .int M_signMany, .ref (a 7), .ref (a 8), .int M_many, .ref (a 9), .ref (a 10), .int M_at, .ref (a 11), .int M_toldMany])), (a 1, .inl (Y 0, 238, .inl g5)), (a 2, .inl (Y 0, 1904, .inl M_kept)), (a 3, .inl (Y 0, 238, .inl M_saved)), (a 4, .inl (Y 0, 238, .inl M_before)), (a 5, .inl (Y 0, 60, .inl M_input)), (a 6, .inl (Y 2, 100, .inl M_signs)), (a 7, .inl (Y 0, 6, .inl M_column)), (a 8, .inl (Y 0, 6, .inl M_loads)), (a 9, .inl (Y 0, 2048, .inl M_sums)), (a 10, .inl (Y 0, 2048, .inl M_groups)), (a 11, .inl (Y 0, 155, .inl M_told))] := hD
        have hf := wkl_s hf eg5
        refine lv_iload_n hx hb dX11_passes_58 rfl (lv_at hl 3 rfl) ?_
        refine lv_iload hx hb dX11_passes_59 (lv_at hl 0 rfl) ?_
        refine lv_if_le (tgt := 68) hx hb dX11_passes_61 (by decide) (fun q7 => ?_) (fun q7 => ?_)
        · have hf := wk_t hf q7
          refine lv_iconst (v := 0) hx hb dX11_passes_68 (by decide) ?_
          refine lv_iadd hx hb dX11_passes_69 ?_
          refine lv_istore_n (lv' := [(2, .int (x2 + 0)), (4, .int (r2 - x1)), (0, .ref (a 0)), (1, .int x1), (3, .int x3)]) hx hb dX11_passes_70 rfl hl (by decide) rfl (fun ls hl => ?_)
          refine lv_iinc (v := (x3 + 1)) (lv' := [(3, .int (x3 + 1)), (2, .int (x2 + 0)), (4, .int (r2 - x1)), (0, .ref (a 0)), (1, .int x1)]) hx hb dX11_passes_71 hl (k := 4) rfl rfl (by decide) rfl (fun ls hl => ?_)
          refine lv_goto (tgt := 14) hx hb dX11_passes_74 (by decide) ?_
          exact ih (x2 + 0) (x3 + 1) g5 hf H locs hP hD hS ls (lv_sub hl [3, 4, 1, 0] rfl)
        · have hf := wk_f hf q7
          refine lv_iconst (v := 1) hx hb dX11_passes_64 (by decide) ?_
          refine lv_goto (tgt := 69) hx hb dX11_passes_65 (by decide) ?_
          refine lv_iadd hx hb dX11_passes_69 ?_
          refine lv_istore_n (lv' := [(2, .int (x2 + 1)), (4, .int (r2 - x1)), (0, .ref (a 0)), (1, .int x1), (3, .int x3)]) hx hb dX11_passes_70 rfl hl (by decide) rfl (fun ls hl => ?_)
          refine lv_iinc (v := (x3 + 1)) (lv' := [(3, .int (x3 + 1)), (2, .int (x2 + 1)), (4, .int (r2 - x1)), (0, .ref (a 0)), (1, .int x1)]) hx hb dX11_passes_71 hl (k := 4) rfl rfl (by decide) rfl (fun ls hl => ?_)
          refine lv_goto (tgt := 14) hx hb dX11_passes_74 (by decide) ?_
          exact ih (x2 + 1) (x3 + 1) g5 hf H locs hP hD hS ls (lv_sub hl [3, 4, 1, 0] rfl)
      · have hf := wk_f hf q4
        refine lv_iload hx hb dX11_passes_51 (lv_at hl 0 rfl) ?_
        refine lv_goto (tgt := 57) hx hb dX11_passes_53 (by decide) ?_
        obtain ⟨h9, hf⟩ := gin_s hf
        refine wk_iast hx hb hK hP hD hS 1 0 (k := ((6 + (5 * x3)) + 4).toNatClampNeg) rfl rfl h9 rfl dX11_passes_57 (fun g8 H locs eg8 hP hD hS => ?_)
        have hP : va_P (dC, dI) vwCl [(a 0, .inr (11, [.ref (a 1), .ref (a 2), .ref (a 3), .ref (a 4), .int M_isSaved, .int M_changes, .int M_isWithin, .int M_code, .ref (a 5), .int M_length, .int M_fault, .int M_failed, .ref (a 6), .int M_signMany, .ref (a 7), .ref (a 8), .int M_many, .ref (a 9), .ref (a 10), .int M_at, .ref (a 11), .int M_toldMany])), (a 1, .inl (Y 0, 238, .inl g8)), (a 2, .inl (Y 0, 1904, .inl M_kept)), (a 3, .inl (Y 0, 238, .inl M_saved)), (a 4, .inl (Y 0, 238, .inl M_before)), (a 5, .inl (Y 0, 60, .inl M_input)), (a 6, .inl (Y 2, 100, .inl M_signs)), (a 7, .inl (Y 0, 6, .inl M_column)), (a 8, .inl (Y 0, 6, .inl M_loads)), (a 9, .inl (Y 0, 2048, .inl M_sums)), (a 10, .inl (Y 0, 2048, .inl M_groups)), (a 11, .inl (Y 0, 155, .inl M_told))] H := hP
        have hD : va_D A [(a 0, .inr (11, [.ref (a 1), .ref (a 2), .ref (a 3), .ref (a 4), .int M_isSaved, .int M_changes, .int M_isWithin, .int M_code, .ref (a 5), .int M_length, .int M_fault, .int M_failed, .ref (a 6), .int M_signMany, .ref (a 7), .ref (a 8), .int M_many, .ref (a 9), .ref (a 10), .int M_at, .ref (a 11), .int M_toldMany])), (a 1, .inl (Y 0, 238, .inl g8)), (a 2, .inl (Y 0, 1904, .inl M_kept)), (a 3, .inl (Y 0, 238, .inl M_saved)), (a 4, .inl (Y 0, 238, .inl M_before)), (a 5, .inl (Y 0, 60, .inl M_input)), (a 6, .inl (Y 2, 100, .inl M_signs)), (a 7, .inl (Y 0, 6, .inl M_column)), (a 8, .inl (Y 0, 6, .inl M_loads)), (a 9, .inl (Y 0, 2048, .inl M_sums)), (a 10, .inl (Y 0, 2048, .inl M_groups)), (a 11, .inl (Y 0, 155, .inl M_told))] := hD
        have hf := wkl_s hf eg8
        refine lv_iload_n hx hb dX11_passes_58 rfl (lv_at hl 3 rfl) ?_
        refine lv_iload hx hb dX11_passes_59 (lv_at hl 0 rfl) ?_
        refine lv_if_le (tgt := 68) hx hb dX11_passes_61 (by decide) (fun q10 => ?_) (fun q10 => ?_)
        · have hf := wk_t hf q10
          refine lv_iconst (v := 0) hx hb dX11_passes_68 (by decide) ?_
          refine lv_iadd hx hb dX11_passes_69 ?_
          refine lv_istore_n (lv' := [(2, .int (x2 + 0)), (4, .int (r2 - x1)), (0, .ref (a 0)), (1, .int x1), (3, .int x3)]) hx hb dX11_passes_70 rfl hl (by decide) rfl (fun ls hl => ?_)
          refine lv_iinc (v := (x3 + 1)) (lv' := [(3, .int (x3 + 1)), (2, .int (x2 + 0)), (4, .int (r2 - x1)), (0, .ref (a 0)), (1, .int x1)]) hx hb dX11_passes_71 hl (k := 4) rfl rfl (by decide) rfl (fun ls hl => ?_)
          refine lv_goto (tgt := 14) hx hb dX11_passes_74 (by decide) ?_
          exact ih (x2 + 0) (x3 + 1) g8 hf H locs hP hD hS ls (lv_sub hl [3, 4, 1, 0] rfl)
        · have hf := wk_f hf q10
          refine lv_iconst (v := 1) hx hb dX11_passes_64 (by decide) ?_
          refine lv_goto (tgt := 69) hx hb dX11_passes_65 (by decide) ?_
          refine lv_iadd hx hb dX11_passes_69 ?_
          refine lv_istore_n (lv' := [(2, .int (x2 + 1)), (4, .int (r2 - x1)), (0, .ref (a 0)), (1, .int x1), (3, .int x3)]) hx hb dX11_passes_70 rfl hl (by decide) rfl (fun ls hl => ?_)
          refine lv_iinc (v := (x3 + 1)) (lv' := [(3, .int (x3 + 1)), (2, .int (x2 + 1)), (4, .int (r2 - x1)), (0, .ref (a 0)), (1, .int x1)]) hx hb dX11_passes_71 hl (k := 4) rfl rfl (by decide) rfl (fun ls hl => ?_)
          refine lv_goto (tgt := 14) hx hb dX11_passes_74 (by decide) ?_
          exact ih (x2 + 1) (x3 + 1) g8 hf H locs hP hD hS ls (lv_sub hl [3, 4, 1, 0] rfl)
set_option maxHeartbeats 4000000 in
set_option maxRecDepth 100000 in
theorem c_X11_passes (l : Launch) (dC : Nat → ClassId) (dI : Nat → Nat → Nat) (Y : Nat → ClassId) (a : Nat → Nat) (M_g : Nat → Int32) (M_kept : Nat → Int32) (M_saved : Nat → Int32) (M_before : Nat → Int32) (M_isSaved : Int32) (M_changes : Int32) (M_isWithin : Int32) (M_code : Int32) (M_input : Nat → Int32) (M_length : Int32) (M_fault : Int32) (M_failed : Int32) (M_signs : Nat → Int32) (M_signMany : Int32) (M_column : Nat → Int32) (M_loads : Nat → Int32) (M_many : Int32) (M_sums : Nat → Int32) (M_groups : Nat → Int32) (M_at : Int32) (M_told : Nat → Int32) (M_toldMany : Int32) (x1 : Int32) (sz : Nat) (r : Int32) (zM_g : Nat → Int32) (hf : f_X11_passes M_g x1 = some (r, zM_g)) : Met l yX11_passes wsX11_passes ({ frames := 1, cells := 0, slots := 0, locals := 22 } : Room) (va_Pc [.ref (a 0), .int x1] (wk_E (dC, dI) Y (wX11 Y a M_g M_kept M_saved M_before M_isSaved M_changes M_isWithin M_code M_input M_length M_fault M_failed M_signs M_signMany M_column M_loads M_many M_sums M_groups M_at M_told M_toldMany) sz)) (va_Qi (fun r2 (_ : Unit) => r2 = r) (fun _ t => wk_X (dC, dI) Y (wX11 Y a zM_g M_kept M_saved M_before M_isSaved M_changes M_isWithin M_code M_input M_length M_fault M_failed M_signs M_signMany M_column M_loads M_many M_sums M_groups M_at M_told M_toldMany) (va_A (wX11 Y a M_g M_kept M_saved M_before M_isSaved M_changes M_isWithin M_code M_input M_length M_fault M_failed M_signs M_signMany M_column M_loads M_many M_sums M_groups M_at M_told M_toldMany) sz) t) (va_A (wX11 Y a M_g M_kept M_saved M_before M_isSaved M_changes M_isWithin M_code M_input M_length M_fault M_failed M_signs M_signMany M_column M_loads M_many M_sums M_groups M_at M_told M_toldMany) sz)) 0 0 (va_A (wX11 Y a M_g M_kept M_saved M_before M_isSaved M_changes M_isWithin M_code M_input M_length M_fault M_failed M_signs M_signMany M_column M_loads M_many M_sums M_groups M_at M_told M_toldMany) sz) := by
  refine Met.ofW (cc := cX11_passes) (maxL := 5) (ret := (some .int)) (by decide) rfl ?_
  intro p e s m args below meth c s₁ B hml hv
  obtain ⟨rfl, hsz, hP, hK, hD0⟩ := hv
  have hx := B.exec
  have hb := B.bytes
  have hr := B.returns
  have hts := atoms_spec (ws := wsX11_passes) B.pre
  have hown : s.vm.findClass RX11 = some m.cls := findClass_of_methodNamed B.named
  have hlocks := B.notSynchronized
  have C0 : wk_C p s m _ meth c cX11_passes 5 (some .int) wsX11_passes RX11 := ⟨hx, hb, hml, hr, hlocks, hown, hts⟩
  subst hsz
  have hD := hD0.self (sz := s.heap.size)
  generalize hAe : va_A (wX11 Y a M_g M_kept M_saved M_before M_isSaved M_changes M_isWithin M_code M_input M_length M_fault M_failed M_signs M_signMany M_column M_loads M_many M_sums M_groups M_at M_told M_toldMany) s.heap.size = A at hD ⊢
  have hA : ∀ q : Nat, s.heap.size ≤ q → A q := fun q h => by rw [← hAe]; exact Or.inr h
  have hS : va_S A s.heap s.heap [] := va_S.rf
  obtain ⟨H, hHe⟩ : ∃ H, H = s.heap := ⟨_, rfl⟩
  have hS : va_S A s.heap H [] := by rw [hHe]; exact hS
  have hP : va_P (dC, dI) vwCl [(a 0, .inr (11, [.ref (a 1), .ref (a 2), .ref (a 3), .ref (a 4), .int M_isSaved, .int M_changes, .int M_isWithin, .int M_code, .ref (a 5), .int M_length, .int M_fault, .int M_failed, .ref (a 6), .int M_signMany, .ref (a 7), .ref (a 8), .int M_many, .ref (a 9), .ref (a 10), .int M_at, .ref (a 11), .int M_toldMany])), (a 1, .inl (Y 0, 238, .inl M_g)), (a 2, .inl (Y 0, 1904, .inl M_kept)), (a 3, .inl (Y 0, 238, .inl M_saved)), (a 4, .inl (Y 0, 238, .inl M_before)), (a 5, .inl (Y 0, 60, .inl M_input)), (a 6, .inl (Y 2, 100, .inl M_signs)), (a 7, .inl (Y 0, 6, .inl M_column)), (a 8, .inl (Y 0, 6, .inl M_loads)), (a 9, .inl (Y 0, 2048, .inl M_sums)), (a 10, .inl (Y 0, 2048, .inl M_groups)), (a 11, .inl (Y 0, 155, .inl M_told))] H := by rw [hHe]; exact hP
  have hD : va_D A [(a 0, .inr (11, [.ref (a 1), .ref (a 2), .ref (a 3), .ref (a 4), .int M_isSaved, .int M_changes, .int M_isWithin, .int M_code, .ref (a 5), .int M_length, .int M_fault, .int M_failed, .ref (a 6), .int M_signMany, .ref (a 7), .ref (a 8), .int M_many, .ref (a 9), .ref (a 10), .int M_at, .ref (a 11), .int M_toldMany])), (a 1, .inl (Y 0, 238, .inl M_g)), (a 2, .inl (Y 0, 1904, .inl M_kept)), (a 3, .inl (Y 0, 238, .inl M_saved)), (a 4, .inl (Y 0, 238, .inl M_before)), (a 5, .inl (Y 0, 60, .inl M_input)), (a 6, .inl (Y 2, 100, .inl M_signs)), (a 7, .inl (Y 0, 6, .inl M_column)), (a 8, .inl (Y 0, 6, .inl M_loads)), (a 9, .inl (Y 0, 2048, .inl M_sums)), (a 10, .inl (Y 0, 2048, .inl M_groups)), (a 11, .inl (Y 0, 155, .inl M_told))] := hD
  obtain ⟨locs, hlo⟩ : ∃ locs : List Loc, locs = [] := ⟨_, rfl⟩
  have hS : va_S A s.heap H locs := by rw [hlo]; exact hS
  have hl := lv_entry ([.ref (a 0), .int x1]) (n := 5) (Nat.le_of_ble_eq_true rfl)
  rw [lg_entry_eq]
  generalize (lg_sl ([.ref (a 0), .int x1]) ++ List.replicate (5 - (lg_sl ([.ref (a 0), .int x1])).length) Slot.unset).toArray = ls at hl ⊢
  have hl : lv_has ls 5 [(0, .ref (a 0)), (1, .int x1)] := hl
  refine wk_start hHe hlo ?_
  rw [f_X11_passes] at hf
  refine lv_iconst (v := 0) hx hb dX11_passes_0 (by decide) ?_
  refine lv_istore_n (lv' := [(2, .int 0), (0, .ref (a 0)), (1, .int x1)]) hx hb dX11_passes_1 rfl hl (by decide) rfl (fun ls hl => ?_)
  refine lv_aload_n hx hb dX11_passes_2 rfl (lv_at hl 1 rfl) ?_
  refine va_get (D := (dC, dI)) (ci := 11) (v := .ref (a 1)) (C := RX11) (T := TX11) (N := 22) hx hb hts in_X11_passes_X11 hown hK hP 0 rfl rfl 0 (by decide) (hts _ lk_X11_passes_RX11_7) (fun _ h9 => h9) rfl dX11_passes_3 ?_
  refine lv_iconst (v := 1) hx hb dX11_passes_6 (by decide) ?_
  refine lv_dup2_11 hx hb dX11_passes_7 rfl rfl ?_
  refine wk_iald hx hb hK hP 1 0 (k := 1) rfl rfl (vp_lit (by decide)) (by decide) dX11_passes_8 ?_
  refine lv_iload_n hx hb dX11_passes_9 rfl (lv_at hl 2 rfl) ?_
  refine lv_iadd hx hb dX11_passes_10 ?_
  refine wk_iast hx hb hK hP hD hS 1 0 (k := 1) rfl rfl (vp_lit (by decide)) (by decide) dX11_passes_11 (fun g1 H locs eg1 hP hD hS => ?_)
  have hP : va_P (dC, dI) vwCl [(a 0, .inr (11, [.ref (a 1), .ref (a 2), .ref (a 3), .ref (a 4), .int M_isSaved, .int M_changes, .int M_isWithin, .int M_code, .ref (a 5), .int M_length, .int M_fault, .int M_failed, .ref (a 6), .int M_signMany, .ref (a 7), .ref (a 8), .int M_many, .ref (a 9), .ref (a 10), .int M_at, .ref (a 11), .int M_toldMany])), (a 1, .inl (Y 0, 238, .inl g1)), (a 2, .inl (Y 0, 1904, .inl M_kept)), (a 3, .inl (Y 0, 238, .inl M_saved)), (a 4, .inl (Y 0, 238, .inl M_before)), (a 5, .inl (Y 0, 60, .inl M_input)), (a 6, .inl (Y 2, 100, .inl M_signs)), (a 7, .inl (Y 0, 6, .inl M_column)), (a 8, .inl (Y 0, 6, .inl M_loads)), (a 9, .inl (Y 0, 2048, .inl M_sums)), (a 10, .inl (Y 0, 2048, .inl M_groups)), (a 11, .inl (Y 0, 155, .inl M_told))] H := hP
  have hD : va_D A [(a 0, .inr (11, [.ref (a 1), .ref (a 2), .ref (a 3), .ref (a 4), .int M_isSaved, .int M_changes, .int M_isWithin, .int M_code, .ref (a 5), .int M_length, .int M_fault, .int M_failed, .ref (a 6), .int M_signMany, .ref (a 7), .ref (a 8), .int M_many, .ref (a 9), .ref (a 10), .int M_at, .ref (a 11), .int M_toldMany])), (a 1, .inl (Y 0, 238, .inl g1)), (a 2, .inl (Y 0, 1904, .inl M_kept)), (a 3, .inl (Y 0, 238, .inl M_saved)), (a 4, .inl (Y 0, 238, .inl M_before)), (a 5, .inl (Y 0, 60, .inl M_input)), (a 6, .inl (Y 2, 100, .inl M_signs)), (a 7, .inl (Y 0, 6, .inl M_column)), (a 8, .inl (Y 0, 6, .inl M_loads)), (a 9, .inl (Y 0, 2048, .inl M_sums)), (a 10, .inl (Y 0, 2048, .inl M_groups)), (a 11, .inl (Y 0, 155, .inl M_told))] := hD
  have hf := wkl_s hf eg1
  refine lv_iconst (v := 0) hx hb dX11_passes_12 (by decide) ?_
  refine lv_istore_n (lv' := [(3, .int 0), (2, .int 0), (0, .ref (a 0)), (1, .int x1)]) hx hb dX11_passes_13 rfl hl (by decide) rfl (fun ls hl => ?_)
  exact wl_X11_passes_L14 C0 hK hA FU 0 0 g1 hf H locs hP hD hS ls (lv_sub hl [2, 3, 1, 0] rfl)
theorem lk_X11_stands_RX11_7 : Cond.fieldLink RX11 7 "CircusLedgerModel" "g" "[I" ∈ wsX11_stands := by decide +kernel
theorem in_X11_stands_X11 : ∀ w ∈ u_ws RX11 TX11 22, w ∈ wsX11_stands := by decide +kernel
def f_X11_stands_L18 (x1 : Int32) : Nat → Int32 → Int32 → (Nat → Int32) → Option (Int32 × (Nat → Int32))
  | 0, _, _, _ => none
  | nn + 1, x2, x3, M_g =>
    if (M_g 0) ≤ x3 then
      (some (x2, M_g))
    else
      (if ((x1 >>> (x3 &&& 31)) &&& 1) = 1 then
        (wkb1 (f_X11_of M_g x3 3) (fun r3 =>
        wkb1 (f_X11_books M_g 4 (5 + x3) r3) (fun w5 =>
        f_X11_stands_L18 x1 nn x2 (x3 + 1) w5)))
      else
        (f_X11_stands_L18 x1 nn x2 (x3 + 1) M_g))
def f_X11_stands (M_g : Nat → Int32) (x1 : Int32) : Option (Int32 × (Nat → Int32)) :=
  wkb1 (f_X11_tall M_g x1) (fun r1 =>
  wkb1 (f_X11_books M_g 0 2 (r1 / 10)) (fun w3 =>
  f_X11_stands_L18 x1 FU (r1 / 10) 0 w3))
set_option maxHeartbeats 4000000 in
set_option maxRecDepth 100000 in
theorem wl_X11_stands_L18 {p : Program} {l : Launch} {e : Env} {s : State} {m : MethodId} {args : Array Value} {below : List Frame} {meth : Method} {c : Code} {dC : Nat → ClassId} {dI : Nat → Nat → Nat} {Y : Nat → ClassId} {a : Nat → Nat} {M_kept : Nat → Int32} {M_saved : Nat → Int32} {M_before : Nat → Int32} {M_isSaved : Int32} {M_changes : Int32} {M_isWithin : Int32} {M_code : Int32} {M_input : Nat → Int32} {M_length : Int32} {M_fault : Int32} {M_failed : Int32} {M_signs : Nat → Int32} {M_signMany : Int32} {M_column : Nat → Int32} {M_loads : Nat → Int32} {M_many : Int32} {M_sums : Nat → Int32} {M_groups : Nat → Int32} {M_at : Int32} {M_told : Nat → Int32} {M_toldMany : Int32} {x1 : Int32} {r : Int32} {zM_g : Nat → Int32}  (C0 : wk_C p s m args meth c cX11_stands 4 (some .int) wsX11_stands RX11) {A : Nat → Prop} (hK : va_K (dC, dI) vwCl (vTy Y) s) (hA : ∀ q, s.heap.size ≤ q → A q) : ∀ (nn : Nat) (x2 : Int32) (x3 : Int32)  (M_g : Nat → Int32), f_X11_stands_L18 x1 nn x2 x3 M_g = some (r, zM_g) → ∀ (H : Heap) (locs : List Loc), va_P (dC, dI) vwCl (wX11 Y a M_g M_kept M_saved M_before M_isSaved M_changes M_isWithin M_code M_input M_length M_fault M_failed M_signs M_signMany M_column M_loads M_many M_sums M_groups M_at M_told M_toldMany) H → va_D A (wX11 Y a M_g M_kept M_saved M_before M_isSaved M_changes M_isWithin M_code M_input M_length M_fault M_failed M_signs M_signMany M_column M_loads M_many M_sums M_groups M_at M_told M_toldMany) → va_S A s.heap H locs → ∀ (ls : Array Slot), lv_has ls 4 [(0, .ref (a 0)), (1, .int x1), (2, .int x2), (3, .int x3)] → W p l e (headSpec wsX11_stands ({ frames := 2, cells := 0, slots := 0, locals := 45 } : Room)).room s m args below meth c H locs 0 0 (MQ below (va_Qi (fun r2 (_ : Unit) => r2 = r) (fun _ t => wk_X (dC, dI) Y (wX11 Y a zM_g M_kept M_saved M_before M_isSaved M_changes M_isWithin M_code M_input M_length M_fault M_failed M_signs M_signMany M_column M_loads M_many M_sums M_groups M_at M_told M_toldMany) A t) A) args s 0 0 A) (F0 m 18 ls []) := by
  have C0 := C0
  obtain ⟨hx, hb, hml, hr, hlocks, hown, hts⟩ := id C0
  intro nn
  induction nn with
  | zero =>
    intro x2 x3 M_g hf
    rw [f_X11_stands_L18] at hf
    cases hf
  | succ nn ih =>
    intro x2 x3 M_g hf H locs hP hD hS ls hl
    rw [f_X11_stands_L18] at hf
    have hP : va_P (dC, dI) vwCl [(a 0, .inr (11, [.ref (a 1), .ref (a 2), .ref (a 3), .ref (a 4), .int M_isSaved, .int M_changes, .int M_isWithin, .int M_code, .ref (a 5), .int M_length, .int M_fault, .int M_failed, .ref (a 6), .int M_signMany, .ref (a 7), .ref (a 8), .int M_many, .ref (a 9), .ref (a 10), .int M_at, .ref (a 11), .int M_toldMany])), (a 1, .inl (Y 0, 238, .inl M_g)), (a 2, .inl (Y 0, 1904, .inl M_kept)), (a 3, .inl (Y 0, 238, .inl M_saved)), (a 4, .inl (Y 0, 238, .inl M_before)), (a 5, .inl (Y 0, 60, .inl M_input)), (a 6, .inl (Y 2, 100, .inl M_signs)), (a 7, .inl (Y 0, 6, .inl M_column)), (a 8, .inl (Y 0, 6, .inl M_loads)), (a 9, .inl (Y 0, 2048, .inl M_sums)), (a 10, .inl (Y 0, 2048, .inl M_groups)), (a 11, .inl (Y 0, 155, .inl M_told))] H := hP
    have hD : va_D A [(a 0, .inr (11, [.ref (a 1), .ref (a 2), .ref (a 3), .ref (a 4), .int M_isSaved, .int M_changes, .int M_isWithin, .int M_code, .ref (a 5), .int M_length, .int M_fault, .int M_failed, .ref (a 6), .int M_signMany, .ref (a 7), .ref (a 8), .int M_many, .ref (a 9), .ref (a 10), .int M_at, .ref (a 11), .int M_toldMany])), (a 1, .inl (Y 0, 238, .inl M_g)), (a 2, .inl (Y 0, 1904, .inl M_kept)), (a 3, .inl (Y 0, 238, .inl M_saved)), (a 4, .inl (Y 0, 238, .inl M_before)), (a 5, .inl (Y 0, 60, .inl M_input)), (a 6, .inl (Y 2, 100, .inl M_signs)), (a 7, .inl (Y 0, 6, .inl M_column)), (a 8, .inl (Y 0, 6, .inl M_loads)), (a 9, .inl (Y 0, 2048, .inl M_sums)), (a 10, .inl (Y 0, 2048, .inl M_groups)), (a 11, .inl (Y 0, 155, .inl M_told))] := hD
    refine lv_iload_n hx hb dX11_stands_18 rfl (lv_at hl 3 rfl) ?_
    refine lv_aload_n hx hb dX11_stands_19 rfl (lv_at hl 0 rfl) ?_
    refine va_get (D := (dC, dI)) (ci := 11) (v := .ref (a 1)) (C := RX11) (T := TX11) (N := 22) hx hb hts in_X11_stands_X11 hown hK hP 0 rfl rfl 0 (by decide) (hts _ lk_X11_stands_RX11_7) (fun _ h9 => h9) rfl dX11_stands_20 ?_
    refine lv_iconst (v := 0) hx hb dX11_stands_23 (by decide) ?_
    refine wk_iald hx hb hK hP 1 0 (k := 0) rfl rfl (vp_lit (by decide)) (by decide) dX11_stands_24 ?_
    refine lv_icmp_ge (tgt := 57) hx hb dX11_stands_25 (by decide) (fun q1 => ?_) (fun q1 => ?_)
    · have hf := wk_t hf q1
      refine lv_iload_n hx hb dX11_stands_57 rfl (lv_at hl 2 rfl) ?_
      obtain ⟨e0, e1⟩ := wke2 hf
      subst e0
      subst e1
      have hP9 := hP.sub (ws' := (wX11 Y a M_g M_kept M_saved M_before M_isSaved M_changes M_isWithin M_code M_input M_length M_fault M_failed M_signs M_signMany M_column M_loads M_many M_sums M_groups M_at M_told M_toldMany)) [0, 1, 2, 3, 4, 5, 6, 7, 8, 9, 10, 11] rfl
      have hD9 := hD.sub (ws' := (wX11 Y a M_g M_kept M_saved M_before M_isSaved M_changes M_isWithin M_code M_input M_length M_fault M_failed M_signs M_signMany M_column M_loads M_many M_sums M_groups M_at M_told M_toldMany)) [0, 1, 2, 3, 4, 5, 6, 7, 8, 9, 10, 11] (by decide) rfl
      exact W.iret (v := x2) hx hb hr (fun t ht hW => ⟨⟨x2, (), rfl, rfl, by rw [ht]; exact hP9, va_K.moved hW.alike hK, hD9⟩, hS.F ht⟩) hS.2.2 dX11_stands_58
    · have hf := wk_f hf q1
      refine lv_iload_n hx hb dX11_stands_28 rfl (lv_at hl 1 rfl) ?_
      refine lv_iload_n hx hb dX11_stands_29 rfl (lv_at hl 3 rfl) ?_
      refine lv_ishr hx hb dX11_stands_30 ?_
      refine lv_iconst (v := 1) hx hb dX11_stands_31 (by decide) ?_
      refine lv_iand hx hb dX11_stands_32 ?_
      refine lv_iconst (v := 1) hx hb dX11_stands_33 (by decide) ?_
      refine lv_icmp_ne (tgt := 51) hx hb dX11_stands_34 (by decide) (fun q2 => ?_) (fun q2 => ?_)
      · have hf := wk_f hf q2
        refine lv_iinc (v := (x3 + 1)) (lv' := [(3, .int (x3 + 1)), (0, .ref (a 0)), (1, .int x1), (2, .int x2)]) hx hb dX11_stands_51 hl (k := 3) rfl rfl (by decide) rfl (fun ls hl => ?_)
        refine lv_goto (tgt := 18) hx hb dX11_stands_54 (by decide) ?_
        exact ih x2 (x3 + 1) M_g hf H locs hP hD hS ls (lv_sub hl [1, 2, 3, 0] rfl)
      · have hf := wk_t hf q2
        refine lv_aload_n hx hb dX11_stands_37 rfl (lv_at hl 0 rfl) ?_
        refine lv_iconst (v := 4) hx hb dX11_stands_38 (by decide) ?_
        refine lv_iconst (v := 5) hx hb dX11_stands_39 (by decide) ?_
        refine lv_iload_n hx hb dX11_stands_40 rfl (lv_at hl 3 rfl) ?_
        refine lv_iadd hx hb dX11_stands_41 ?_
        refine lv_aload_n hx hb dX11_stands_42 rfl (lv_at hl 0 rfl) ?_
        refine lv_iload_n hx hb dX11_stands_43 rfl (lv_at hl 3 rfl) ?_
        refine lv_iconst (v := 3) hx hb dX11_stands_44 (by decide) ?_
        obtain ⟨r3, hr4, hf⟩ := wkb1_s hf
        have hPc := hP.sub (ws' := (wX11 Y a M_g M_kept M_saved M_before M_isSaved M_changes M_isWithin M_code M_input M_length M_fault M_failed M_signs M_signMany M_column M_loads M_many M_sums M_groups M_at M_told M_toldMany)) [0, 1, 2, 3, 4, 5, 6, 7, 8, 9, 10, 11] rfl
        refine wk_vi (As := [.int x3, .int 3]) (rest := [.int (5 + x3), .int 4, .ref (a 0)]) ⟨hx, hb, hml, hown, hts⟩ (c_X11_of l dC dI Y a M_g M_kept M_saved M_before M_isSaved M_changes M_isWithin M_code M_input M_length M_fault M_failed M_signs M_signMany M_column M_loads M_many M_sums M_groups M_at M_told M_toldMany x3 3 r3 hr4) (cwV 2 hts gX11_stands_X11_of rfl rfl rfl (by decide +kernel) ⟨Nat.le_of_ble_eq_true rfl, Nat.le_of_ble_eq_true rfl⟩) hK hPc (va_recv hK hP (ci := 11) (q0 := 0) rfl rfl) rfl hl.1 rfl (Nat.le_of_ble_eq_true rfl) dX11_stands_45 ⟨Nat.le_of_ble_eq_true rfl, Nat.le_of_ble_eq_true rfl⟩ ?_
        obtain ⟨w5, hr6, hf⟩ := wkb1_s hf
        refine wk_evv (As := [.int 4, .int (5 + x3), .int r3]) (rest := []) (wc := (wX11 Y a M_g M_kept M_saved M_before M_isSaved M_changes M_isWithin M_code M_input M_length M_fault M_failed M_signs M_signMany M_column M_loads M_many M_sums M_groups M_at M_told M_toldMany)) (w1 := (wX11 Y a w5 M_kept M_saved M_before M_isSaved M_changes M_isWithin M_code M_input M_length M_fault M_failed M_signs M_signMany M_column M_loads M_many M_sums M_groups M_at M_told M_toldMany)) (wr := []) ⟨hx, hb, hml, hown, hts⟩ (c_X11_books l dC dI Y a M_g M_kept M_saved M_before M_isSaved M_changes M_isWithin M_code M_input M_length M_fault M_failed M_signs M_signMany M_column M_loads M_many M_sums M_groups M_at M_told M_toldMany 4 (5 + x3) r3 H.size w5 hr6) (cwV 3 hts gX11_stands_X11_books rfl rfl rfl (by decide +kernel) ⟨Nat.le_of_ble_eq_true rfl, Nat.le_of_ble_eq_true rfl⟩) hK hP hD hS hA [0, 1, 2, 3, 4, 5, 6, 7, 8, 9, 10, 11] [] rfl rfl (by decide) (by decide) (by decide) (va_recv hK hP (ci := 11) (q0 := 0) rfl rfl) rfl hl.1 rfl (Nat.le_of_ble_eq_true rfl) dX11_stands_48 ⟨Nat.le_of_ble_eq_true rfl, Nat.le_of_ble_eq_true rfl⟩ (fun H locs hP hD hS => ?_)
        have hP : va_P (dC, dI) vwCl [(a 0, .inr (11, [.ref (a 1), .ref (a 2), .ref (a 3), .ref (a 4), .int M_isSaved, .int M_changes, .int M_isWithin, .int M_code, .ref (a 5), .int M_length, .int M_fault, .int M_failed, .ref (a 6), .int M_signMany, .ref (a 7), .ref (a 8), .int M_many, .ref (a 9), .ref (a 10), .int M_at, .ref (a 11), .int M_toldMany])), (a 1, .inl (Y 0, 238, .inl w5)), (a 2, .inl (Y 0, 1904, .inl M_kept)), (a 3, .inl (Y 0, 238, .inl M_saved)), (a 4, .inl (Y 0, 238, .inl M_before)), (a 5, .inl (Y 0, 60, .inl M_input)), (a 6, .inl (Y 2, 100, .inl M_signs)), (a 7, .inl (Y 0, 6, .inl M_column)), (a 8, .inl (Y 0, 6, .inl M_loads)), (a 9, .inl (Y 0, 2048, .inl M_sums)), (a 10, .inl (Y 0, 2048, .inl M_groups)), (a 11, .inl (Y 0, 155, .inl M_told))] H := hP
        have hD : va_D A [(a 0, .inr (11, [.ref (a 1), .ref (a 2), .ref (a 3), .ref (a 4), .int M_isSaved, .int M_changes, .int M_isWithin, .int M_code, .ref (a 5), .int M_length, .int M_fault, .int M_failed, .ref (a 6), .int M_signMany, .ref (a 7), .ref (a 8), .int M_many, .ref (a 9), .ref (a 10), .int M_at, .ref (a 11), .int M_toldMany])), (a 1, .inl (Y 0, 238, .inl w5)), (a 2, .inl (Y 0, 1904, .inl M_kept)), (a 3, .inl (Y 0, 238, .inl M_saved)), (a 4, .inl (Y 0, 238, .inl M_before)), (a 5, .inl (Y 0, 60, .inl M_input)), (a 6, .inl (Y 2, 100, .inl M_signs)), (a 7, .inl (Y 0, 6, .inl M_column)), (a 8, .inl (Y 0, 6, .inl M_loads)), (a 9, .inl (Y 0, 2048, .inl M_sums)), (a 10, .inl (Y 0, 2048, .inl M_groups)), (a 11, .inl (Y 0, 155, .inl M_told))] := hD
        refine lv_iinc (v := (x3 + 1)) (lv' := [(3, .int (x3 + 1)), (0, .ref (a 0)), (1, .int x1), (2, .int x2)]) hx hb dX11_stands_51 hl (k := 3) rfl rfl (by decide) rfl (fun ls hl => ?_)
        refine lv_goto (tgt := 18) hx hb dX11_stands_54 (by decide) ?_
        exact ih x2 (x3 + 1) w5 hf H locs hP hD hS ls (lv_sub hl [1, 2, 3, 0] rfl)
set_option maxHeartbeats 4000000 in
set_option maxRecDepth 100000 in
theorem c_X11_stands (l : Launch) (dC : Nat → ClassId) (dI : Nat → Nat → Nat) (Y : Nat → ClassId) (a : Nat → Nat) (M_g : Nat → Int32) (M_kept : Nat → Int32) (M_saved : Nat → Int32) (M_before : Nat → Int32) (M_isSaved : Int32) (M_changes : Int32) (M_isWithin : Int32) (M_code : Int32) (M_input : Nat → Int32) (M_length : Int32) (M_fault : Int32) (M_failed : Int32) (M_signs : Nat → Int32) (M_signMany : Int32) (M_column : Nat → Int32) (M_loads : Nat → Int32) (M_many : Int32) (M_sums : Nat → Int32) (M_groups : Nat → Int32) (M_at : Int32) (M_told : Nat → Int32) (M_toldMany : Int32) (x1 : Int32) (sz : Nat) (r : Int32) (zM_g : Nat → Int32) (hf : f_X11_stands M_g x1 = some (r, zM_g)) : Met l yX11_stands wsX11_stands ({ frames := 2, cells := 0, slots := 0, locals := 45 } : Room) (va_Pc [.ref (a 0), .int x1] (wk_E (dC, dI) Y (wX11 Y a M_g M_kept M_saved M_before M_isSaved M_changes M_isWithin M_code M_input M_length M_fault M_failed M_signs M_signMany M_column M_loads M_many M_sums M_groups M_at M_told M_toldMany) sz)) (va_Qi (fun r2 (_ : Unit) => r2 = r) (fun _ t => wk_X (dC, dI) Y (wX11 Y a zM_g M_kept M_saved M_before M_isSaved M_changes M_isWithin M_code M_input M_length M_fault M_failed M_signs M_signMany M_column M_loads M_many M_sums M_groups M_at M_told M_toldMany) (va_A (wX11 Y a M_g M_kept M_saved M_before M_isSaved M_changes M_isWithin M_code M_input M_length M_fault M_failed M_signs M_signMany M_column M_loads M_many M_sums M_groups M_at M_told M_toldMany) sz) t) (va_A (wX11 Y a M_g M_kept M_saved M_before M_isSaved M_changes M_isWithin M_code M_input M_length M_fault M_failed M_signs M_signMany M_column M_loads M_many M_sums M_groups M_at M_told M_toldMany) sz)) 0 0 (va_A (wX11 Y a M_g M_kept M_saved M_before M_isSaved M_changes M_isWithin M_code M_input M_length M_fault M_failed M_signs M_signMany M_column M_loads M_many M_sums M_groups M_at M_told M_toldMany) sz) := by
  refine Met.ofW (cc := cX11_stands) (maxL := 4) (ret := (some .int)) (by decide) rfl ?_
  intro p e s m args below meth c s₁ B hml hv
  obtain ⟨rfl, hsz, hP, hK, hD0⟩ := hv
  have hx := B.exec
  have hb := B.bytes
  have hr := B.returns
  have hts := atoms_spec (ws := wsX11_stands) B.pre
  have hown : s.vm.findClass RX11 = some m.cls := findClass_of_methodNamed B.named
  have hlocks := B.notSynchronized
  have C0 : wk_C p s m _ meth c cX11_stands 4 (some .int) wsX11_stands RX11 := ⟨hx, hb, hml, hr, hlocks, hown, hts⟩
  subst hsz
  have hD := hD0.self (sz := s.heap.size)
  generalize hAe : va_A (wX11 Y a M_g M_kept M_saved M_before M_isSaved M_changes M_isWithin M_code M_input M_length M_fault M_failed M_signs M_signMany M_column M_loads M_many M_sums M_groups M_at M_told M_toldMany) s.heap.size = A at hD ⊢
  have hA : ∀ q : Nat, s.heap.size ≤ q → A q := fun q h => by rw [← hAe]; exact Or.inr h
  have hS : va_S A s.heap s.heap [] := va_S.rf
  obtain ⟨H, hHe⟩ : ∃ H, H = s.heap := ⟨_, rfl⟩
  have hS : va_S A s.heap H [] := by rw [hHe]; exact hS
  have hP : va_P (dC, dI) vwCl [(a 0, .inr (11, [.ref (a 1), .ref (a 2), .ref (a 3), .ref (a 4), .int M_isSaved, .int M_changes, .int M_isWithin, .int M_code, .ref (a 5), .int M_length, .int M_fault, .int M_failed, .ref (a 6), .int M_signMany, .ref (a 7), .ref (a 8), .int M_many, .ref (a 9), .ref (a 10), .int M_at, .ref (a 11), .int M_toldMany])), (a 1, .inl (Y 0, 238, .inl M_g)), (a 2, .inl (Y 0, 1904, .inl M_kept)), (a 3, .inl (Y 0, 238, .inl M_saved)), (a 4, .inl (Y 0, 238, .inl M_before)), (a 5, .inl (Y 0, 60, .inl M_input)), (a 6, .inl (Y 2, 100, .inl M_signs)), (a 7, .inl (Y 0, 6, .inl M_column)), (a 8, .inl (Y 0, 6, .inl M_loads)), (a 9, .inl (Y 0, 2048, .inl M_sums)), (a 10, .inl (Y 0, 2048, .inl M_groups)), (a 11, .inl (Y 0, 155, .inl M_told))] H := by rw [hHe]; exact hP
  have hD : va_D A [(a 0, .inr (11, [.ref (a 1), .ref (a 2), .ref (a 3), .ref (a 4), .int M_isSaved, .int M_changes, .int M_isWithin, .int M_code, .ref (a 5), .int M_length, .int M_fault, .int M_failed, .ref (a 6), .int M_signMany, .ref (a 7), .ref (a 8), .int M_many, .ref (a 9), .ref (a 10), .int M_at, .ref (a 11), .int M_toldMany])), (a 1, .inl (Y 0, 238, .inl M_g)), (a 2, .inl (Y 0, 1904, .inl M_kept)), (a 3, .inl (Y 0, 238, .inl M_saved)), (a 4, .inl (Y 0, 238, .inl M_before)), (a 5, .inl (Y 0, 60, .inl M_input)), (a 6, .inl (Y 2, 100, .inl M_signs)), (a 7, .inl (Y 0, 6, .inl M_column)), (a 8, .inl (Y 0, 6, .inl M_loads)), (a 9, .inl (Y 0, 2048, .inl M_sums)), (a 10, .inl (Y 0, 2048, .inl M_groups)), (a 11, .inl (Y 0, 155, .inl M_told))] := hD
  obtain ⟨locs, hlo⟩ : ∃ locs : List Loc, locs = [] := ⟨_, rfl⟩
  have hS : va_S A s.heap H locs := by rw [hlo]; exact hS
  have hl := lv_entry ([.ref (a 0), .int x1]) (n := 4) (Nat.le_of_ble_eq_true rfl)
  rw [lg_entry_eq]
  generalize (lg_sl ([.ref (a 0), .int x1]) ++ List.replicate (4 - (lg_sl ([.ref (a 0), .int x1])).length) Slot.unset).toArray = ls at hl ⊢
  have hl : lv_has ls 4 [(0, .ref (a 0)), (1, .int x1)] := hl
  refine wk_start hHe hlo ?_
  rw [f_X11_stands] at hf
  refine lv_aload_n hx hb dX11_stands_0 rfl (lv_at hl 0 rfl) ?_
  refine lv_iload_n hx hb dX11_stands_1 rfl (lv_at hl 1 rfl) ?_
  obtain ⟨r1, hr2, hf⟩ := wkb1_s hf
  have hPc := hP.sub (ws' := (wX11 Y a M_g M_kept M_saved M_before M_isSaved M_changes M_isWithin M_code M_input M_length M_fault M_failed M_signs M_signMany M_column M_loads M_many M_sums M_groups M_at M_told M_toldMany)) [0, 1, 2, 3, 4, 5, 6, 7, 8, 9, 10, 11] rfl
  refine wk_vi (As := [.int x1]) (rest := []) ⟨hx, hb, hml, hown, hts⟩ (c_X11_tall l dC dI Y a M_g M_kept M_saved M_before M_isSaved M_changes M_isWithin M_code M_input M_length M_fault M_failed M_signs M_signMany M_column M_loads M_many M_sums M_groups M_at M_told M_toldMany x1 r1 hr2) (cwV 1 hts gX11_stands_X11_tall rfl rfl rfl (by decide +kernel) ⟨Nat.le_of_ble_eq_true rfl, Nat.le_of_ble_eq_true rfl⟩) hK hPc (va_recv hK hP (ci := 11) (q0 := 0) rfl rfl) rfl hl.1 rfl (Nat.le_of_ble_eq_true rfl) dX11_stands_2 ⟨Nat.le_of_ble_eq_true rfl, Nat.le_of_ble_eq_true rfl⟩ ?_
  refine lv_bipush (v := 10) hx hb dX11_stands_5 (by decide) ?_
  refine lv_idiv hx hb dX11_stands_7 (by decide) ?_
  refine lv_istore_n (lv' := [(2, .int (r1 / 10)), (0, .ref (a 0)), (1, .int x1)]) hx hb dX11_stands_8 rfl hl (by decide) rfl (fun ls hl => ?_)
  refine lv_aload_n hx hb dX11_stands_9 rfl (lv_at hl 1 rfl) ?_
  refine lv_iconst (v := 0) hx hb dX11_stands_10 (by decide) ?_
  refine lv_iconst (v := 2) hx hb dX11_stands_11 (by decide) ?_
  refine lv_iload_n hx hb dX11_stands_12 rfl (lv_at hl 0 rfl) ?_
  obtain ⟨w3, hr4, hf⟩ := wkb1_s hf
  refine wk_evv (As := [.int 0, .int 2, .int (r1 / 10)]) (rest := []) (wc := (wX11 Y a M_g M_kept M_saved M_before M_isSaved M_changes M_isWithin M_code M_input M_length M_fault M_failed M_signs M_signMany M_column M_loads M_many M_sums M_groups M_at M_told M_toldMany)) (w1 := (wX11 Y a w3 M_kept M_saved M_before M_isSaved M_changes M_isWithin M_code M_input M_length M_fault M_failed M_signs M_signMany M_column M_loads M_many M_sums M_groups M_at M_told M_toldMany)) (wr := []) ⟨hx, hb, hml, hown, hts⟩ (c_X11_books l dC dI Y a M_g M_kept M_saved M_before M_isSaved M_changes M_isWithin M_code M_input M_length M_fault M_failed M_signs M_signMany M_column M_loads M_many M_sums M_groups M_at M_told M_toldMany 0 2 (r1 / 10) H.size w3 hr4) (cwV 3 hts gX11_stands_X11_books rfl rfl rfl (by decide +kernel) ⟨Nat.le_of_ble_eq_true rfl, Nat.le_of_ble_eq_true rfl⟩) hK hP hD hS hA [0, 1, 2, 3, 4, 5, 6, 7, 8, 9, 10, 11] [] rfl rfl (by decide) (by decide) (by decide) (va_recv hK hP (ci := 11) (q0 := 0) rfl rfl) rfl hl.1 rfl (Nat.le_of_ble_eq_true rfl) dX11_stands_13 ⟨Nat.le_of_ble_eq_true rfl, Nat.le_of_ble_eq_true rfl⟩ (fun H locs hP hD hS => ?_)
  have hP : va_P (dC, dI) vwCl [(a 0, .inr (11, [.ref (a 1), .ref (a 2), .ref (a 3), .ref (a 4), .int M_isSaved, .int M_changes, .int M_isWithin, .int M_code, .ref (a 5), .int M_length, .int M_fault, .int M_failed, .ref (a 6), .int M_signMany, .ref (a 7), .ref (a 8), .int M_many, .ref (a 9), .ref (a 10), .int M_at, .ref (a 11), .int M_toldMany])), (a 1, .inl (Y 0, 238, .inl w3)), (a 2, .inl (Y 0, 1904, .inl M_kept)), (a 3, .inl (Y 0, 238, .inl M_saved)), (a 4, .inl (Y 0, 238, .inl M_before)), (a 5, .inl (Y 0, 60, .inl M_input)), (a 6, .inl (Y 2, 100, .inl M_signs)), (a 7, .inl (Y 0, 6, .inl M_column)), (a 8, .inl (Y 0, 6, .inl M_loads)), (a 9, .inl (Y 0, 2048, .inl M_sums)), (a 10, .inl (Y 0, 2048, .inl M_groups)), (a 11, .inl (Y 0, 155, .inl M_told))] H := hP
  have hD : va_D A [(a 0, .inr (11, [.ref (a 1), .ref (a 2), .ref (a 3), .ref (a 4), .int M_isSaved, .int M_changes, .int M_isWithin, .int M_code, .ref (a 5), .int M_length, .int M_fault, .int M_failed, .ref (a 6), .int M_signMany, .ref (a 7), .ref (a 8), .int M_many, .ref (a 9), .ref (a 10), .int M_at, .ref (a 11), .int M_toldMany])), (a 1, .inl (Y 0, 238, .inl w3)), (a 2, .inl (Y 0, 1904, .inl M_kept)), (a 3, .inl (Y 0, 238, .inl M_saved)), (a 4, .inl (Y 0, 238, .inl M_before)), (a 5, .inl (Y 0, 60, .inl M_input)), (a 6, .inl (Y 2, 100, .inl M_signs)), (a 7, .inl (Y 0, 6, .inl M_column)), (a 8, .inl (Y 0, 6, .inl M_loads)), (a 9, .inl (Y 0, 2048, .inl M_sums)), (a 10, .inl (Y 0, 2048, .inl M_groups)), (a 11, .inl (Y 0, 155, .inl M_told))] := hD
  refine lv_iconst (v := 0) hx hb dX11_stands_16 (by decide) ?_
  refine lv_istore_n (lv' := [(3, .int 0), (2, .int (r1 / 10)), (0, .ref (a 0)), (1, .int x1)]) hx hb dX11_stands_17 rfl hl (by decide) rfl (fun ls hl => ?_)
  exact wl_X11_stands_L18 C0 hK hA FU (r1 / 10) 0 w3 hf H locs hP hD hS ls (lv_sub hl [2, 3, 1, 0] rfl)
theorem lk_X11_falls_RX11_7 : Cond.fieldLink RX11 7 "CircusLedgerModel" "g" "[I" ∈ wsX11_falls := by decide +kernel
theorem lk_X11_falls_RX11_36 : Cond.fieldLink RX11 36 "CircusLedgerModel" "column" "[I" ∈ wsX11_falls := by decide +kernel
theorem lk_X11_falls_RX11_95 : Cond.fieldLink RX11 95 "CircusLedgerModel" "many" "I" ∈ wsX11_falls := by decide +kernel
theorem in_X11_falls_X11 : ∀ w ∈ u_ws RX11 TX11 22, w ∈ wsX11_falls := by decide +kernel
def f_X11_falls_L53 (M_column : Nat → Int32) (M_loads : Nat → Int32) (M_many : Int32) : Nat → Int32 → Int32 → Int32 → (Nat → Int32) → Option (Int32 × (Nat → Int32))
  | 0, _, _, _, _ => none
  | nn + 1, x1, x2, x4, M_g =>
    if M_many ≤ x4 then
      (wkl (upd M_g 5 ((M_g 5) + ((M_many - 1) - x2))) (fun g2 =>
      some ((-x1), g2)))
    else
      (if (x4 - x2) ≤ (M_g 2) then
        (f_X11_falls_L53 M_column M_loads M_many nn x1 x2 (x4 + 1) M_g)
      else
        (gin x4 6 (gin ((6 + (5 * (M_column x4.toNatClampNeg))) + 4) 238 (wkl (upd M_g (((6 + (5 * (M_column x4.toNatClampNeg))) + 4).toNatClampNeg) 3) (fun g5 =>
        f_X11_falls_L53 M_column M_loads M_many nn x1 x2 (x4 + 1) g5)))))
def f_X11_falls (M_g : Nat → Int32) (M_column : Nat → Int32) (M_loads : Nat → Int32) (M_many : Int32) : Option (Int32 × (Nat → Int32)) :=
  wkb1 (f_X11_costs M_g M_column M_loads M_many) (fun r1 =>
  wkb1 (f_X11_breaks M_g M_column M_loads M_many) (fun r3 =>
  wkb1 (f_X11_least r1 (M_g 37)) (fun r5 =>
  wkb1 (f_X11_books M_g 3 1 r5) (fun w7 =>
  wkb1 (f_X11_least (r1 - r5) (w7 36)) (fun r9 =>
  wkb1 (f_X11_books w7 3 0 r9) (fun w11 =>
  f_X11_falls_L53 M_column M_loads M_many FU r1 r3 (r3 + 1) w11))))))
set_option maxHeartbeats 4000000 in
set_option maxRecDepth 100000 in
theorem wl_X11_falls_L53 {p : Program} {l : Launch} {e : Env} {s : State} {m : MethodId} {args : Array Value} {below : List Frame} {meth : Method} {c : Code} {dC : Nat → ClassId} {dI : Nat → Nat → Nat} {Y : Nat → ClassId} {a : Nat → Nat} {M_kept : Nat → Int32} {M_saved : Nat → Int32} {M_before : Nat → Int32} {M_isSaved : Int32} {M_changes : Int32} {M_isWithin : Int32} {M_code : Int32} {M_input : Nat → Int32} {M_length : Int32} {M_fault : Int32} {M_failed : Int32} {M_signs : Nat → Int32} {M_signMany : Int32} {M_column : Nat → Int32} {M_loads : Nat → Int32} {M_many : Int32} {M_sums : Nat → Int32} {M_groups : Nat → Int32} {M_at : Int32} {M_told : Nat → Int32} {M_toldMany : Int32}  {r : Int32} {zM_g : Nat → Int32}  (C0 : wk_C p s m args meth c cX11_falls 5 (some .int) wsX11_falls RX11) {A : Nat → Prop} (hK : va_K (dC, dI) vwCl (vTy Y) s) (hA : ∀ q, s.heap.size ≤ q → A q) : ∀ (nn : Nat) (x1 : Int32) (x2 : Int32) (x4 : Int32)  (M_g : Nat → Int32), f_X11_falls_L53 M_column M_loads M_many nn x1 x2 x4 M_g = some (r, zM_g) → ∀ (H : Heap) (locs : List Loc), va_P (dC, dI) vwCl (wX11 Y a M_g M_kept M_saved M_before M_isSaved M_changes M_isWithin M_code M_input M_length M_fault M_failed M_signs M_signMany M_column M_loads M_many M_sums M_groups M_at M_told M_toldMany) H → va_D A (wX11 Y a M_g M_kept M_saved M_before M_isSaved M_changes M_isWithin M_code M_input M_length M_fault M_failed M_signs M_signMany M_column M_loads M_many M_sums M_groups M_at M_told M_toldMany) → va_S A s.heap H locs → ∀ (ls : Array Slot), lv_has ls 5 [(0, .ref (a 0)), (1, .int x1), (2, .int x2), (4, .int x4)] → W p l e (headSpec wsX11_falls ({ frames := 3, cells := 0, slots := 0, locals := 63 } : Room)).room s m args below meth c H locs 0 0 (MQ below (va_Qi (fun r2 (_ : Unit) => r2 = r) (fun _ t => wk_X (dC, dI) Y (wX11 Y a zM_g M_kept M_saved M_before M_isSaved M_changes M_isWithin M_code M_input M_length M_fault M_failed M_signs M_signMany M_column M_loads M_many M_sums M_groups M_at M_told M_toldMany) A t) A) args s 0 0 A) (F0 m 53 ls []) := by
  have C0 := C0
  obtain ⟨hx, hb, hml, hr, hlocks, hown, hts⟩ := id C0
  intro nn
  induction nn with
  | zero =>
    intro x1 x2 x4 M_g hf
    rw [f_X11_falls_L53] at hf
    cases hf
  | succ nn ih =>
    intro x1 x2 x4 M_g hf H locs hP hD hS ls hl
    rw [f_X11_falls_L53] at hf
    have hP : va_P (dC, dI) vwCl [(a 0, .inr (11, [.ref (a 1), .ref (a 2), .ref (a 3), .ref (a 4), .int M_isSaved, .int M_changes, .int M_isWithin, .int M_code, .ref (a 5), .int M_length, .int M_fault, .int M_failed, .ref (a 6), .int M_signMany, .ref (a 7), .ref (a 8), .int M_many, .ref (a 9), .ref (a 10), .int M_at, .ref (a 11), .int M_toldMany])), (a 1, .inl (Y 0, 238, .inl M_g)), (a 2, .inl (Y 0, 1904, .inl M_kept)), (a 3, .inl (Y 0, 238, .inl M_saved)), (a 4, .inl (Y 0, 238, .inl M_before)), (a 5, .inl (Y 0, 60, .inl M_input)), (a 6, .inl (Y 2, 100, .inl M_signs)), (a 7, .inl (Y 0, 6, .inl M_column)), (a 8, .inl (Y 0, 6, .inl M_loads)), (a 9, .inl (Y 0, 2048, .inl M_sums)), (a 10, .inl (Y 0, 2048, .inl M_groups)), (a 11, .inl (Y 0, 155, .inl M_told))] H := hP
    have hD : va_D A [(a 0, .inr (11, [.ref (a 1), .ref (a 2), .ref (a 3), .ref (a 4), .int M_isSaved, .int M_changes, .int M_isWithin, .int M_code, .ref (a 5), .int M_length, .int M_fault, .int M_failed, .ref (a 6), .int M_signMany, .ref (a 7), .ref (a 8), .int M_many, .ref (a 9), .ref (a 10), .int M_at, .ref (a 11), .int M_toldMany])), (a 1, .inl (Y 0, 238, .inl M_g)), (a 2, .inl (Y 0, 1904, .inl M_kept)), (a 3, .inl (Y 0, 238, .inl M_saved)), (a 4, .inl (Y 0, 238, .inl M_before)), (a 5, .inl (Y 0, 60, .inl M_input)), (a 6, .inl (Y 2, 100, .inl M_signs)), (a 7, .inl (Y 0, 6, .inl M_column)), (a 8, .inl (Y 0, 6, .inl M_loads)), (a 9, .inl (Y 0, 2048, .inl M_sums)), (a 10, .inl (Y 0, 2048, .inl M_groups)), (a 11, .inl (Y 0, 155, .inl M_told))] := hD
    refine lv_iload hx hb dX11_falls_53 (lv_at hl 3 rfl) ?_
    refine lv_aload_n hx hb dX11_falls_55 rfl (lv_at hl 0 rfl) ?_
    refine va_get (D := (dC, dI)) (ci := 11) (v := .int M_many) (C := RX11) (T := TX11) (N := 22) hx hb hts in_X11_falls_X11 hown hK hP 0 rfl rfl 16 (by decide) (hts _ lk_X11_falls_RX11_95) (fun _ h9 => h9) rfl dX11_falls_56 ?_
    refine lv_icmp_ge (tgt := 101) hx hb dX11_falls_59 (by decide) (fun q1 => ?_) (fun q1 => ?_)
    · have hf := wk_t hf q1
      refine lv_aload_n hx hb dX11_falls_101 rfl (lv_at hl 0 rfl) ?_
      refine va_get (D := (dC, dI)) (ci := 11) (v := .ref (a 1)) (C := RX11) (T := TX11) (N := 22) hx hb hts in_X11_falls_X11 hown hK hP 0 rfl rfl 0 (by decide) (hts _ lk_X11_falls_RX11_7) (fun _ h9 => h9) rfl dX11_falls_102 ?_
      refine lv_iconst (v := 5) hx hb dX11_falls_105 (by decide) ?_
      refine lv_dup2_11 hx hb dX11_falls_106 rfl rfl ?_
      refine wk_iald hx hb hK hP 1 0 (k := 5) rfl rfl (vp_lit (by decide)) (by decide) dX11_falls_107 ?_
      refine lv_aload_n hx hb dX11_falls_108 rfl (lv_at hl 0 rfl) ?_
      refine va_get (D := (dC, dI)) (ci := 11) (v := .int M_many) (C := RX11) (T := TX11) (N := 22) hx hb hts in_X11_falls_X11 hown hK hP 0 rfl rfl 16 (by decide) (hts _ lk_X11_falls_RX11_95) (fun _ h9 => h9) rfl dX11_falls_109 ?_
      refine lv_iconst (v := 1) hx hb dX11_falls_112 (by decide) ?_
      refine lv_isub hx hb dX11_falls_113 ?_
      refine lv_iload_n hx hb dX11_falls_114 rfl (lv_at hl 2 rfl) ?_
      refine lv_isub hx hb dX11_falls_115 ?_
      refine lv_iadd hx hb dX11_falls_116 ?_
      refine wk_iast hx hb hK hP hD hS 1 0 (k := 5) rfl rfl (vp_lit (by decide)) (by decide) dX11_falls_117 (fun g2 H locs eg2 hP hD hS => ?_)
      have hP : va_P (dC, dI) vwCl [(a 0, .inr (11, [.ref (a 1), .ref (a 2), .ref (a 3), .ref (a 4), .int M_isSaved, .int M_changes, .int M_isWithin, .int M_code, .ref (a 5), .int M_length, .int M_fault, .int M_failed, .ref (a 6), .int M_signMany, .ref (a 7), .ref (a 8), .int M_many, .ref (a 9), .ref (a 10), .int M_at, .ref (a 11), .int M_toldMany])), (a 1, .inl (Y 0, 238, .inl g2)), (a 2, .inl (Y 0, 1904, .inl M_kept)), (a 3, .inl (Y 0, 238, .inl M_saved)), (a 4, .inl (Y 0, 238, .inl M_before)), (a 5, .inl (Y 0, 60, .inl M_input)), (a 6, .inl (Y 2, 100, .inl M_signs)), (a 7, .inl (Y 0, 6, .inl M_column)), (a 8, .inl (Y 0, 6, .inl M_loads)), (a 9, .inl (Y 0, 2048, .inl M_sums)), (a 10, .inl (Y 0, 2048, .inl M_groups)), (a 11, .inl (Y 0, 155, .inl M_told))] H := hP
      have hD : va_D A [(a 0, .inr (11, [.ref (a 1), .ref (a 2), .ref (a 3), .ref (a 4), .int M_isSaved, .int M_changes, .int M_isWithin, .int M_code, .ref (a 5), .int M_length, .int M_fault, .int M_failed, .ref (a 6), .int M_signMany, .ref (a 7), .ref (a 8), .int M_many, .ref (a 9), .ref (a 10), .int M_at, .ref (a 11), .int M_toldMany])), (a 1, .inl (Y 0, 238, .inl g2)), (a 2, .inl (Y 0, 1904, .inl M_kept)), (a 3, .inl (Y 0, 238, .inl M_saved)), (a 4, .inl (Y 0, 238, .inl M_before)), (a 5, .inl (Y 0, 60, .inl M_input)), (a 6, .inl (Y 2, 100, .inl M_signs)), (a 7, .inl (Y 0, 6, .inl M_column)), (a 8, .inl (Y 0, 6, .inl M_loads)), (a 9, .inl (Y 0, 2048, .inl M_sums)), (a 10, .inl (Y 0, 2048, .inl M_groups)), (a 11, .inl (Y 0, 155, .inl M_told))] := hD
      have hf := wkl_s hf eg2
      refine lv_iload_n hx hb dX11_falls_118 rfl (lv_at hl 1 rfl) ?_
      refine lv_ineg hx hb dX11_falls_119 ?_
      obtain ⟨e0, e1⟩ := wke2 hf
      subst e0
      subst e1
      have hP9 := hP.sub (ws' := (wX11 Y a g2 M_kept M_saved M_before M_isSaved M_changes M_isWithin M_code M_input M_length M_fault M_failed M_signs M_signMany M_column M_loads M_many M_sums M_groups M_at M_told M_toldMany)) [0, 1, 2, 3, 4, 5, 6, 7, 8, 9, 10, 11] rfl
      have hD9 := hD.sub (ws' := (wX11 Y a g2 M_kept M_saved M_before M_isSaved M_changes M_isWithin M_code M_input M_length M_fault M_failed M_signs M_signMany M_column M_loads M_many M_sums M_groups M_at M_told M_toldMany)) [0, 1, 2, 3, 4, 5, 6, 7, 8, 9, 10, 11] (by decide) rfl
      exact W.iret (v := (-x1)) hx hb hr (fun t ht hW => ⟨⟨(-x1), (), rfl, rfl, by rw [ht]; exact hP9, va_K.moved hW.alike hK, hD9⟩, hS.F ht⟩) hS.2.2 dX11_falls_120
    · have hf := wk_f hf q1
      refine lv_iload hx hb dX11_falls_62 (lv_at hl 3 rfl) ?_
      refine lv_iload_n hx hb dX11_falls_64 rfl (lv_at hl 2 rfl) ?_
      refine lv_isub hx hb dX11_falls_65 ?_
      refine lv_aload_n hx hb dX11_falls_66 rfl (lv_at hl 0 rfl) ?_
      refine va_get (D := (dC, dI)) (ci := 11) (v := .ref (a 1)) (C := RX11) (T := TX11) (N := 22) hx hb hts in_X11_falls_X11 hown hK hP 0 rfl rfl 0 (by decide) (hts _ lk_X11_falls_RX11_7) (fun _ h9 => h9) rfl dX11_falls_67 ?_
      refine lv_iconst (v := 2) hx hb dX11_falls_70 (by decide) ?_
      refine wk_iald hx hb hK hP 1 0 (k := 2) rfl rfl (vp_lit (by decide)) (by decide) dX11_falls_71 ?_
      refine lv_icmp_le (tgt := 95) hx hb dX11_falls_72 (by decide) (fun q3 => ?_) (fun q3 => ?_)
      · have hf := wk_t hf q3
        refine lv_iinc (v := (x4 + 1)) (lv' := [(4, .int (x4 + 1)), (0, .ref (a 0)), (1, .int x1), (2, .int x2)]) hx hb dX11_falls_95 hl (k := 3) rfl rfl (by decide) rfl (fun ls hl => ?_)
        refine lv_goto (tgt := 53) hx hb dX11_falls_98 (by decide) ?_
        exact ih x1 x2 (x4 + 1) M_g hf H locs hP hD hS ls (lv_sub hl [1, 2, 3, 0] rfl)
      · have hf := wk_f hf q3
        refine lv_aload_n hx hb dX11_falls_75 rfl (lv_at hl 0 rfl) ?_
        refine va_get (D := (dC, dI)) (ci := 11) (v := .ref (a 1)) (C := RX11) (T := TX11) (N := 22) hx hb hts in_X11_falls_X11 hown hK hP 0 rfl rfl 0 (by decide) (hts _ lk_X11_falls_RX11_7) (fun _ h9 => h9) rfl dX11_falls_76 ?_
        refine lv_bipush (v := 6) hx hb dX11_falls_79 (by decide) ?_
        refine lv_iconst (v := 5) hx hb dX11_falls_81 (by decide) ?_
        refine lv_aload_n hx hb dX11_falls_82 rfl (lv_at hl 0 rfl) ?_
        refine va_get (D := (dC, dI)) (ci := 11) (v := .ref (a 7)) (C := RX11) (T := TX11) (N := 22) hx hb hts in_X11_falls_X11 hown hK hP 0 rfl rfl 14 (by decide) (hts _ lk_X11_falls_RX11_36) (fun _ h9 => h9) rfl dX11_falls_83 ?_
        refine lv_iload hx hb dX11_falls_86 (lv_at hl 3 rfl) ?_
        obtain ⟨h4, hf⟩ := gin_s hf
        refine wk_iald hx hb hK hP 7 0 rfl rfl h4 rfl dX11_falls_88 ?_
        refine lv_imul hx hb dX11_falls_89 ?_
        refine lv_iadd hx hb dX11_falls_90 ?_
        refine lv_iconst (v := 4) hx hb dX11_falls_91 (by decide) ?_
        refine lv_iadd hx hb dX11_falls_92 ?_
        refine lv_iconst (v := 3) hx hb dX11_falls_93 (by decide) ?_
        obtain ⟨h6, hf⟩ := gin_s hf
        refine wk_iast hx hb hK hP hD hS 1 0 (k := ((6 + (5 * (M_column x4.toNatClampNeg))) + 4).toNatClampNeg) rfl rfl h6 rfl dX11_falls_94 (fun g5 H locs eg5 hP hD hS => ?_)
        have hP : va_P (dC, dI) vwCl [(a 0, .inr (11, [.ref (a 1), .ref (a 2), .ref (a 3), .ref (a 4), .int M_isSaved, .int M_changes, .int M_isWithin, .int M_code, .ref (a 5), .int M_length, .int M_fault, .int M_failed, .ref (a 6), .int M_signMany, .ref (a 7), .ref (a 8), .int M_many, .ref (a 9), .ref (a 10), .int M_at, .ref (a 11), .int M_toldMany])), (a 1, .inl (Y 0, 238, .inl g5)), (a 2, .inl (Y 0, 1904, .inl M_kept)), (a 3, .inl (Y 0, 238, .inl M_saved)), (a 4, .inl (Y 0, 238, .inl M_before)), (a 5, .inl (Y 0, 60, .inl M_input)), (a 6, .inl (Y 2, 100, .inl M_signs)), (a 7, .inl (Y 0, 6, .inl M_column)), (a 8, .inl (Y 0, 6, .inl M_loads)), (a 9, .inl (Y 0, 2048, .inl M_sums)), (a 10, .inl (Y 0, 2048, .inl M_groups)), (a 11, .inl (Y 0, 155, .inl M_told))] H := hP
        have hD : va_D A [(a 0, .inr (11, [.ref (a 1), .ref (a 2), .ref (a 3), .ref (a 4), .int M_isSaved, .int M_changes, .int M_isWithin, .int M_code, .ref (a 5), .int M_length, .int M_fault, .int M_failed, .ref (a 6), .int M_signMany, .ref (a 7), .ref (a 8), .int M_many, .ref (a 9), .ref (a 10), .int M_at, .ref (a 11), .int M_toldMany])), (a 1, .inl (Y 0, 238, .inl g5)), (a 2, .inl (Y 0, 1904, .inl M_kept)), (a 3, .inl (Y 0, 238, .inl M_saved)), (a 4, .inl (Y 0, 238, .inl M_before)), (a 5, .inl (Y 0, 60, .inl M_input)), (a 6, .inl (Y 2, 100, .inl M_signs)), (a 7, .inl (Y 0, 6, .inl M_column)), (a 8, .inl (Y 0, 6, .inl M_loads)), (a 9, .inl (Y 0, 2048, .inl M_sums)), (a 10, .inl (Y 0, 2048, .inl M_groups)), (a 11, .inl (Y 0, 155, .inl M_told))] := hD
        have hf := wkl_s hf eg5
        refine lv_iinc (v := (x4 + 1)) (lv' := [(4, .int (x4 + 1)), (0, .ref (a 0)), (1, .int x1), (2, .int x2)]) hx hb dX11_falls_95 hl (k := 3) rfl rfl (by decide) rfl (fun ls hl => ?_)
        refine lv_goto (tgt := 53) hx hb dX11_falls_98 (by decide) ?_
        exact ih x1 x2 (x4 + 1) g5 hf H locs hP hD hS ls (lv_sub hl [1, 2, 3, 0] rfl)
set_option maxHeartbeats 4000000 in
set_option maxRecDepth 100000 in
theorem c_X11_falls (l : Launch) (dC : Nat → ClassId) (dI : Nat → Nat → Nat) (Y : Nat → ClassId) (a : Nat → Nat) (M_g : Nat → Int32) (M_kept : Nat → Int32) (M_saved : Nat → Int32) (M_before : Nat → Int32) (M_isSaved : Int32) (M_changes : Int32) (M_isWithin : Int32) (M_code : Int32) (M_input : Nat → Int32) (M_length : Int32) (M_fault : Int32) (M_failed : Int32) (M_signs : Nat → Int32) (M_signMany : Int32) (M_column : Nat → Int32) (M_loads : Nat → Int32) (M_many : Int32) (M_sums : Nat → Int32) (M_groups : Nat → Int32) (M_at : Int32) (M_told : Nat → Int32) (M_toldMany : Int32)  (sz : Nat) (r : Int32) (zM_g : Nat → Int32) (hf : f_X11_falls M_g M_column M_loads M_many = some (r, zM_g)) : Met l yX11_falls wsX11_falls ({ frames := 3, cells := 0, slots := 0, locals := 63 } : Room) (va_Pc [.ref (a 0)] (wk_E (dC, dI) Y (wX11 Y a M_g M_kept M_saved M_before M_isSaved M_changes M_isWithin M_code M_input M_length M_fault M_failed M_signs M_signMany M_column M_loads M_many M_sums M_groups M_at M_told M_toldMany) sz)) (va_Qi (fun r2 (_ : Unit) => r2 = r) (fun _ t => wk_X (dC, dI) Y (wX11 Y a zM_g M_kept M_saved M_before M_isSaved M_changes M_isWithin M_code M_input M_length M_fault M_failed M_signs M_signMany M_column M_loads M_many M_sums M_groups M_at M_told M_toldMany) (va_A (wX11 Y a M_g M_kept M_saved M_before M_isSaved M_changes M_isWithin M_code M_input M_length M_fault M_failed M_signs M_signMany M_column M_loads M_many M_sums M_groups M_at M_told M_toldMany) sz) t) (va_A (wX11 Y a M_g M_kept M_saved M_before M_isSaved M_changes M_isWithin M_code M_input M_length M_fault M_failed M_signs M_signMany M_column M_loads M_many M_sums M_groups M_at M_told M_toldMany) sz)) 0 0 (va_A (wX11 Y a M_g M_kept M_saved M_before M_isSaved M_changes M_isWithin M_code M_input M_length M_fault M_failed M_signs M_signMany M_column M_loads M_many M_sums M_groups M_at M_told M_toldMany) sz) := by
  refine Met.ofW (cc := cX11_falls) (maxL := 5) (ret := (some .int)) (by decide) rfl ?_
  intro p e s m args below meth c s₁ B hml hv
  obtain ⟨rfl, hsz, hP, hK, hD0⟩ := hv
  have hx := B.exec
  have hb := B.bytes
  have hr := B.returns
  have hts := atoms_spec (ws := wsX11_falls) B.pre
  have hown : s.vm.findClass RX11 = some m.cls := findClass_of_methodNamed B.named
  have hlocks := B.notSynchronized
  have C0 : wk_C p s m _ meth c cX11_falls 5 (some .int) wsX11_falls RX11 := ⟨hx, hb, hml, hr, hlocks, hown, hts⟩
  subst hsz
  have hD := hD0.self (sz := s.heap.size)
  generalize hAe : va_A (wX11 Y a M_g M_kept M_saved M_before M_isSaved M_changes M_isWithin M_code M_input M_length M_fault M_failed M_signs M_signMany M_column M_loads M_many M_sums M_groups M_at M_told M_toldMany) s.heap.size = A at hD ⊢
  have hA : ∀ q : Nat, s.heap.size ≤ q → A q := fun q h => by rw [← hAe]; exact Or.inr h
  have hS : va_S A s.heap s.heap [] := va_S.rf
  obtain ⟨H, hHe⟩ : ∃ H, H = s.heap := ⟨_, rfl⟩
  have hS : va_S A s.heap H [] := by rw [hHe]; exact hS
  have hP : va_P (dC, dI) vwCl [(a 0, .inr (11, [.ref (a 1), .ref (a 2), .ref (a 3), .ref (a 4), .int M_isSaved, .int M_changes, .int M_isWithin, .int M_code, .ref (a 5), .int M_length, .int M_fault, .int M_failed, .ref (a 6), .int M_signMany, .ref (a 7), .ref (a 8), .int M_many, .ref (a 9), .ref (a 10), .int M_at, .ref (a 11), .int M_toldMany])), (a 1, .inl (Y 0, 238, .inl M_g)), (a 2, .inl (Y 0, 1904, .inl M_kept)), (a 3, .inl (Y 0, 238, .inl M_saved)), (a 4, .inl (Y 0, 238, .inl M_before)), (a 5, .inl (Y 0, 60, .inl M_input)), (a 6, .inl (Y 2, 100, .inl M_signs)), (a 7, .inl (Y 0, 6, .inl M_column)), (a 8, .inl (Y 0, 6, .inl M_loads)), (a 9, .inl (Y 0, 2048, .inl M_sums)), (a 10, .inl (Y 0, 2048, .inl M_groups)), (a 11, .inl (Y 0, 155, .inl M_told))] H := by rw [hHe]; exact hP
  have hD : va_D A [(a 0, .inr (11, [.ref (a 1), .ref (a 2), .ref (a 3), .ref (a 4), .int M_isSaved, .int M_changes, .int M_isWithin, .int M_code, .ref (a 5), .int M_length, .int M_fault, .int M_failed, .ref (a 6), .int M_signMany, .ref (a 7), .ref (a 8), .int M_many, .ref (a 9), .ref (a 10), .int M_at, .ref (a 11), .int M_toldMany])), (a 1, .inl (Y 0, 238, .inl M_g)), (a 2, .inl (Y 0, 1904, .inl M_kept)), (a 3, .inl (Y 0, 238, .inl M_saved)), (a 4, .inl (Y 0, 238, .inl M_before)), (a 5, .inl (Y 0, 60, .inl M_input)), (a 6, .inl (Y 2, 100, .inl M_signs)), (a 7, .inl (Y 0, 6, .inl M_column)), (a 8, .inl (Y 0, 6, .inl M_loads)), (a 9, .inl (Y 0, 2048, .inl M_sums)), (a 10, .inl (Y 0, 2048, .inl M_groups)), (a 11, .inl (Y 0, 155, .inl M_told))] := hD
  obtain ⟨locs, hlo⟩ : ∃ locs : List Loc, locs = [] := ⟨_, rfl⟩
  have hS : va_S A s.heap H locs := by rw [hlo]; exact hS
  have hl := lv_entry ([.ref (a 0)]) (n := 5) (Nat.le_of_ble_eq_true rfl)
  rw [lg_entry_eq]
  generalize (lg_sl ([.ref (a 0)]) ++ List.replicate (5 - (lg_sl ([.ref (a 0)])).length) Slot.unset).toArray = ls at hl ⊢
  have hl : lv_has ls 5 [(0, .ref (a 0))] := hl
  refine wk_start hHe hlo ?_
  rw [f_X11_falls] at hf
  refine lv_aload_n hx hb dX11_falls_0 rfl (lv_at hl 0 rfl) ?_
  obtain ⟨r1, hr2, hf⟩ := wkb1_s hf
  have hPc := hP.sub (ws' := (wX11 Y a M_g M_kept M_saved M_before M_isSaved M_changes M_isWithin M_code M_input M_length M_fault M_failed M_signs M_signMany M_column M_loads M_many M_sums M_groups M_at M_told M_toldMany)) [0, 1, 2, 3, 4, 5, 6, 7, 8, 9, 10, 11] rfl
  refine wk_vi (As := []) (rest := []) ⟨hx, hb, hml, hown, hts⟩ (c_X11_costs l dC dI Y a M_g M_kept M_saved M_before M_isSaved M_changes M_isWithin M_code M_input M_length M_fault M_failed M_signs M_signMany M_column M_loads M_many M_sums M_groups M_at M_told M_toldMany r1 hr2) (cwV 0 hts gX11_falls_X11_costs rfl rfl rfl (by decide +kernel) ⟨Nat.le_of_ble_eq_true rfl, Nat.le_of_ble_eq_true rfl⟩) hK hPc (va_recv hK hP (ci := 11) (q0 := 0) rfl rfl) rfl hl.1 rfl (Nat.le_of_ble_eq_true rfl) dX11_falls_1 ⟨Nat.le_of_ble_eq_true rfl, Nat.le_of_ble_eq_true rfl⟩ ?_
  refine lv_istore_n (lv' := [(1, .int r1), (0, .ref (a 0))]) hx hb dX11_falls_4 rfl hl (by decide) rfl (fun ls hl => ?_)
  refine lv_aload_n hx hb dX11_falls_5 rfl (lv_at hl 1 rfl) ?_
  obtain ⟨r3, hr4, hf⟩ := wkb1_s hf
  have hPc := hP.sub (ws' := (wX11 Y a M_g M_kept M_saved M_before M_isSaved M_changes M_isWithin M_code M_input M_length M_fault M_failed M_signs M_signMany M_column M_loads M_many M_sums M_groups M_at M_told M_toldMany)) [0, 1, 2, 3, 4, 5, 6, 7, 8, 9, 10, 11] rfl
  refine wk_vi (As := []) (rest := []) ⟨hx, hb, hml, hown, hts⟩ (c_X11_breaks l dC dI Y a M_g M_kept M_saved M_before M_isSaved M_changes M_isWithin M_code M_input M_length M_fault M_failed M_signs M_signMany M_column M_loads M_many M_sums M_groups M_at M_told M_toldMany r3 hr4) (cwV 0 hts gX11_falls_X11_breaks rfl rfl rfl (by decide +kernel) ⟨Nat.le_of_ble_eq_true rfl, Nat.le_of_ble_eq_true rfl⟩) hK hPc (va_recv hK hP (ci := 11) (q0 := 0) rfl rfl) rfl hl.1 rfl (Nat.le_of_ble_eq_true rfl) dX11_falls_6 ⟨Nat.le_of_ble_eq_true rfl, Nat.le_of_ble_eq_true rfl⟩ ?_
  refine lv_istore_n (lv' := [(2, .int r3), (1, .int r1), (0, .ref (a 0))]) hx hb dX11_falls_9 rfl hl (by decide) rfl (fun ls hl => ?_)
  refine lv_iload_n hx hb dX11_falls_10 rfl (lv_at hl 1 rfl) ?_
  refine lv_aload_n hx hb dX11_falls_11 rfl (lv_at hl 2 rfl) ?_
  refine va_get (D := (dC, dI)) (ci := 11) (v := .ref (a 1)) (C := RX11) (T := TX11) (N := 22) hx hb hts in_X11_falls_X11 hown hK hP 0 rfl rfl 0 (by decide) (hts _ lk_X11_falls_RX11_7) (fun _ h9 => h9) rfl dX11_falls_12 ?_
  refine lv_bipush (v := 37) hx hb dX11_falls_15 (by decide) ?_
  refine wk_iald hx hb hK hP 1 0 (k := 37) rfl rfl (vp_lit (by decide)) (by decide) dX11_falls_17 ?_
  obtain ⟨r5, hr6, hf⟩ := wkb1_s hf
  have hPc := hP.sub (ws' := ([] : va_W)) [] rfl
  refine wk_si (As := [.int r1, .int (M_g 37)]) (rest := []) ⟨hx, hb, hml, hown, hts⟩ (c_X11_least l dC dI Y r1 (M_g 37) r5 hr6) (va_cwS 2 hts gX11_falls_X11_least rfl rfl rfl (by decide +kernel) ⟨Nat.le_of_ble_eq_true rfl, Nat.le_of_ble_eq_true rfl⟩) hK hPc rfl hl.1 rfl (Nat.le_of_ble_eq_true rfl) dX11_falls_18 ⟨Nat.le_of_ble_eq_true rfl, Nat.le_of_ble_eq_true rfl⟩ ?_
  refine lv_istore_n (lv' := [(3, .int r5), (2, .int r3), (1, .int r1), (0, .ref (a 0))]) hx hb dX11_falls_21 rfl hl (by decide) rfl (fun ls hl => ?_)
  refine lv_aload_n hx hb dX11_falls_22 rfl (lv_at hl 3 rfl) ?_
  refine lv_iconst (v := 3) hx hb dX11_falls_23 (by decide) ?_
  refine lv_iconst (v := 1) hx hb dX11_falls_24 (by decide) ?_
  refine lv_iload_n hx hb dX11_falls_25 rfl (lv_at hl 0 rfl) ?_
  obtain ⟨w7, hr8, hf⟩ := wkb1_s hf
  refine wk_evv (As := [.int 3, .int 1, .int r5]) (rest := []) (wc := (wX11 Y a M_g M_kept M_saved M_before M_isSaved M_changes M_isWithin M_code M_input M_length M_fault M_failed M_signs M_signMany M_column M_loads M_many M_sums M_groups M_at M_told M_toldMany)) (w1 := (wX11 Y a w7 M_kept M_saved M_before M_isSaved M_changes M_isWithin M_code M_input M_length M_fault M_failed M_signs M_signMany M_column M_loads M_many M_sums M_groups M_at M_told M_toldMany)) (wr := []) ⟨hx, hb, hml, hown, hts⟩ (c_X11_books l dC dI Y a M_g M_kept M_saved M_before M_isSaved M_changes M_isWithin M_code M_input M_length M_fault M_failed M_signs M_signMany M_column M_loads M_many M_sums M_groups M_at M_told M_toldMany 3 1 r5 H.size w7 hr8) (cwV 3 hts gX11_falls_X11_books rfl rfl rfl (by decide +kernel) ⟨Nat.le_of_ble_eq_true rfl, Nat.le_of_ble_eq_true rfl⟩) hK hP hD hS hA [0, 1, 2, 3, 4, 5, 6, 7, 8, 9, 10, 11] [] rfl rfl (by decide) (by decide) (by decide) (va_recv hK hP (ci := 11) (q0 := 0) rfl rfl) rfl hl.1 rfl (Nat.le_of_ble_eq_true rfl) dX11_falls_26 ⟨Nat.le_of_ble_eq_true rfl, Nat.le_of_ble_eq_true rfl⟩ (fun H locs hP hD hS => ?_)
  have hP : va_P (dC, dI) vwCl [(a 0, .inr (11, [.ref (a 1), .ref (a 2), .ref (a 3), .ref (a 4), .int M_isSaved, .int M_changes, .int M_isWithin, .int M_code, .ref (a 5), .int M_length, .int M_fault, .int M_failed, .ref (a 6), .int M_signMany, .ref (a 7), .ref (a 8), .int M_many, .ref (a 9), .ref (a 10), .int M_at, .ref (a 11), .int M_toldMany])), (a 1, .inl (Y 0, 238, .inl w7)), (a 2, .inl (Y 0, 1904, .inl M_kept)), (a 3, .inl (Y 0, 238, .inl M_saved)), (a 4, .inl (Y 0, 238, .inl M_before)), (a 5, .inl (Y 0, 60, .inl M_input)), (a 6, .inl (Y 2, 100, .inl M_signs)), (a 7, .inl (Y 0, 6, .inl M_column)), (a 8, .inl (Y 0, 6, .inl M_loads)), (a 9, .inl (Y 0, 2048, .inl M_sums)), (a 10, .inl (Y 0, 2048, .inl M_groups)), (a 11, .inl (Y 0, 155, .inl M_told))] H := hP
  have hD : va_D A [(a 0, .inr (11, [.ref (a 1), .ref (a 2), .ref (a 3), .ref (a 4), .int M_isSaved, .int M_changes, .int M_isWithin, .int M_code, .ref (a 5), .int M_length, .int M_fault, .int M_failed, .ref (a 6), .int M_signMany, .ref (a 7), .ref (a 8), .int M_many, .ref (a 9), .ref (a 10), .int M_at, .ref (a 11), .int M_toldMany])), (a 1, .inl (Y 0, 238, .inl w7)), (a 2, .inl (Y 0, 1904, .inl M_kept)), (a 3, .inl (Y 0, 238, .inl M_saved)), (a 4, .inl (Y 0, 238, .inl M_before)), (a 5, .inl (Y 0, 60, .inl M_input)), (a 6, .inl (Y 2, 100, .inl M_signs)), (a 7, .inl (Y 0, 6, .inl M_column)), (a 8, .inl (Y 0, 6, .inl M_loads)), (a 9, .inl (Y 0, 2048, .inl M_sums)), (a 10, .inl (Y 0, 2048, .inl M_groups)), (a 11, .inl (Y 0, 155, .inl M_told))] := hD
  refine lv_aload_n hx hb dX11_falls_29 rfl (lv_at hl 3 rfl) ?_
  refine lv_iconst (v := 3) hx hb dX11_falls_30 (by decide) ?_
  refine lv_iconst (v := 0) hx hb dX11_falls_31 (by decide) ?_
  refine lv_iload_n hx hb dX11_falls_32 rfl (lv_at hl 2 rfl) ?_
  refine lv_iload_n hx hb dX11_falls_33 rfl (lv_at hl 0 rfl) ?_
  refine lv_isub hx hb dX11_falls_34 ?_
  refine lv_aload_n hx hb dX11_falls_35 rfl (lv_at hl 3 rfl) ?_
  refine va_get (D := (dC, dI)) (ci := 11) (v := .ref (a 1)) (C := RX11) (T := TX11) (N := 22) hx hb hts in_X11_falls_X11 hown hK hP 0 rfl rfl 0 (by decide) (hts _ lk_X11_falls_RX11_7) (fun _ h9 => h9) rfl dX11_falls_36 ?_
  refine lv_bipush (v := 36) hx hb dX11_falls_39 (by decide) ?_
  refine wk_iald hx hb hK hP 1 0 (k := 36) rfl rfl (vp_lit (by decide)) (by decide) dX11_falls_41 ?_
  obtain ⟨r9, hr10, hf⟩ := wkb1_s hf
  have hPc := hP.sub (ws' := ([] : va_W)) [] rfl
  refine wk_si (As := [.int (r1 - r5), .int (w7 36)]) (rest := [.int 0, .int 3, .ref (a 0)]) ⟨hx, hb, hml, hown, hts⟩ (c_X11_least l dC dI Y (r1 - r5) (w7 36) r9 hr10) (va_cwS 2 hts gX11_falls_X11_least rfl rfl rfl (by decide +kernel) ⟨Nat.le_of_ble_eq_true rfl, Nat.le_of_ble_eq_true rfl⟩) hK hPc rfl hl.1 rfl (Nat.le_of_ble_eq_true rfl) dX11_falls_42 ⟨Nat.le_of_ble_eq_true rfl, Nat.le_of_ble_eq_true rfl⟩ ?_
  obtain ⟨w11, hr12, hf⟩ := wkb1_s hf
  refine wk_evv (As := [.int 3, .int 0, .int r9]) (rest := []) (wc := (wX11 Y a w7 M_kept M_saved M_before M_isSaved M_changes M_isWithin M_code M_input M_length M_fault M_failed M_signs M_signMany M_column M_loads M_many M_sums M_groups M_at M_told M_toldMany)) (w1 := (wX11 Y a w11 M_kept M_saved M_before M_isSaved M_changes M_isWithin M_code M_input M_length M_fault M_failed M_signs M_signMany M_column M_loads M_many M_sums M_groups M_at M_told M_toldMany)) (wr := []) ⟨hx, hb, hml, hown, hts⟩ (c_X11_books l dC dI Y a w7 M_kept M_saved M_before M_isSaved M_changes M_isWithin M_code M_input M_length M_fault M_failed M_signs M_signMany M_column M_loads M_many M_sums M_groups M_at M_told M_toldMany 3 0 r9 H.size w11 hr12) (cwV 3 hts gX11_falls_X11_books rfl rfl rfl (by decide +kernel) ⟨Nat.le_of_ble_eq_true rfl, Nat.le_of_ble_eq_true rfl⟩) hK hP hD hS hA [0, 1, 2, 3, 4, 5, 6, 7, 8, 9, 10, 11] [] rfl rfl (by decide) (by decide) (by decide) (va_recv hK hP (ci := 11) (q0 := 0) rfl rfl) rfl hl.1 rfl (Nat.le_of_ble_eq_true rfl) dX11_falls_45 ⟨Nat.le_of_ble_eq_true rfl, Nat.le_of_ble_eq_true rfl⟩ (fun H locs hP hD hS => ?_)
  have hP : va_P (dC, dI) vwCl [(a 0, .inr (11, [.ref (a 1), .ref (a 2), .ref (a 3), .ref (a 4), .int M_isSaved, .int M_changes, .int M_isWithin, .int M_code, .ref (a 5), .int M_length, .int M_fault, .int M_failed, .ref (a 6), .int M_signMany, .ref (a 7), .ref (a 8), .int M_many, .ref (a 9), .ref (a 10), .int M_at, .ref (a 11), .int M_toldMany])), (a 1, .inl (Y 0, 238, .inl w11)), (a 2, .inl (Y 0, 1904, .inl M_kept)), (a 3, .inl (Y 0, 238, .inl M_saved)), (a 4, .inl (Y 0, 238, .inl M_before)), (a 5, .inl (Y 0, 60, .inl M_input)), (a 6, .inl (Y 2, 100, .inl M_signs)), (a 7, .inl (Y 0, 6, .inl M_column)), (a 8, .inl (Y 0, 6, .inl M_loads)), (a 9, .inl (Y 0, 2048, .inl M_sums)), (a 10, .inl (Y 0, 2048, .inl M_groups)), (a 11, .inl (Y 0, 155, .inl M_told))] H := hP
  have hD : va_D A [(a 0, .inr (11, [.ref (a 1), .ref (a 2), .ref (a 3), .ref (a 4), .int M_isSaved, .int M_changes, .int M_isWithin, .int M_code, .ref (a 5), .int M_length, .int M_fault, .int M_failed, .ref (a 6), .int M_signMany, .ref (a 7), .ref (a 8), .int M_many, .ref (a 9), .ref (a 10), .int M_at, .ref (a 11), .int M_toldMany])), (a 1, .inl (Y 0, 238, .inl w11)), (a 2, .inl (Y 0, 1904, .inl M_kept)), (a 3, .inl (Y 0, 238, .inl M_saved)), (a 4, .inl (Y 0, 238, .inl M_before)), (a 5, .inl (Y 0, 60, .inl M_input)), (a 6, .inl (Y 2, 100, .inl M_signs)), (a 7, .inl (Y 0, 6, .inl M_column)), (a 8, .inl (Y 0, 6, .inl M_loads)), (a 9, .inl (Y 0, 2048, .inl M_sums)), (a 10, .inl (Y 0, 2048, .inl M_groups)), (a 11, .inl (Y 0, 155, .inl M_told))] := hD
  refine lv_iload_n hx hb dX11_falls_48 rfl (lv_at hl 1 rfl) ?_
  refine lv_iconst (v := 1) hx hb dX11_falls_49 (by decide) ?_
  refine lv_iadd hx hb dX11_falls_50 ?_
  refine lv_istore (lv' := [(4, .int (r3 + 1)), (3, .int r5), (2, .int r3), (1, .int r1), (0, .ref (a 0))]) hx hb dX11_falls_51 hl (by decide) rfl (fun ls hl => ?_)
  exact wl_X11_falls_L53 C0 hK hA FU r1 r3 (r3 + 1) w11 hf H locs hP hD hS ls (lv_sub hl [4, 3, 2, 0] rfl)
theorem lk_X11_entriesOf_RX11_7 : Cond.fieldLink RX11 7 "CircusLedgerModel" "g" "[I" ∈ wsX11_entriesOf := by decide +kernel
theorem lk_X11_entriesOf_RX11_95 : Cond.fieldLink RX11 95 "CircusLedgerModel" "many" "I" ∈ wsX11_entriesOf := by decide +kernel
theorem in_X11_entriesOf_X11 : ∀ w ∈ u_ws RX11 TX11 22, w ∈ wsX11_entriesOf := by decide +kernel
def f_X11_entriesOf (M_g : Nat → Int32) (M_column : Nat → Int32) (M_loads : Nat → Int32) (M_many : Int32) : Option (Int32) :=
  wkb1 (f_X11_breaks M_g M_column M_loads M_many) (fun r1 =>
  if (0 : Int32) ≤ r1 then
    (wkb1 (f_X11_costs M_g M_column M_loads M_many) (fun r4 =>
    wkb1 (f_X11_least r4 (M_g 37)) (fun r6 =>
    wkb1 (f_X11_costs M_g M_column M_loads M_many) (fun r8 =>
    wkb1 (f_X11_least (r8 - r6) (M_g 36)) (fun r10 =>
    if r6 ≤ 0 then
      (if r10 ≤ 0 then
        (some ((0 + 0)))
      else
        (some ((0 + 1))))
    else
      (if r10 ≤ 0 then
        (some ((1 + 0)))
      else
        (some ((1 + 1)))))))))
  else
    (some ((M_many + 1))))
set_option maxHeartbeats 4000000 in
set_option maxRecDepth 100000 in
theorem c_X11_entriesOf (l : Launch) (dC : Nat → ClassId) (dI : Nat → Nat → Nat) (Y : Nat → ClassId) (a : Nat → Nat) (M_g : Nat → Int32) (M_kept : Nat → Int32) (M_saved : Nat → Int32) (M_before : Nat → Int32) (M_isSaved : Int32) (M_changes : Int32) (M_isWithin : Int32) (M_code : Int32) (M_input : Nat → Int32) (M_length : Int32) (M_fault : Int32) (M_failed : Int32) (M_signs : Nat → Int32) (M_signMany : Int32) (M_column : Nat → Int32) (M_loads : Nat → Int32) (M_many : Int32) (M_sums : Nat → Int32) (M_groups : Nat → Int32) (M_at : Int32) (M_told : Nat → Int32) (M_toldMany : Int32)  (r : Int32) (hf : f_X11_entriesOf M_g M_column M_loads M_many = some (r)) : Met l yX11_entriesOf wsX11_entriesOf ({ frames := 3, cells := 0, slots := 0, locals := 63 } : Room) (va_Pc [.ref (a 0)] (wk_B (dC, dI) Y (wX11 Y a M_g M_kept M_saved M_before M_isSaved M_changes M_isWithin M_code M_input M_length M_fault M_failed M_signs M_signMany M_column M_loads M_many M_sums M_groups M_at M_told M_toldMany))) (vp_Si (fun r2 => r2 = r)) 0 0 (fun _ => False) := by
  refine Met.ofW (cc := cX11_entriesOf) (maxL := 3) (ret := (some .int)) (by decide) rfl ?_
  intro p e s m args below meth c s₁ B hml hv
  obtain ⟨rfl, hP, hK⟩ := hv
  have hx := B.exec
  have hb := B.bytes
  have hr := B.returns
  have hts := atoms_spec (ws := wsX11_entriesOf) B.pre
  have hown : s.vm.findClass RX11 = some m.cls := findClass_of_methodNamed B.named
  have hlocks := B.notSynchronized
  have C0 : wk_C p s m _ meth c cX11_entriesOf 3 (some .int) wsX11_entriesOf RX11 := ⟨hx, hb, hml, hr, hlocks, hown, hts⟩
  have hP : va_P (dC, dI) vwCl [(a 0, .inr (11, [.ref (a 1), .ref (a 2), .ref (a 3), .ref (a 4), .int M_isSaved, .int M_changes, .int M_isWithin, .int M_code, .ref (a 5), .int M_length, .int M_fault, .int M_failed, .ref (a 6), .int M_signMany, .ref (a 7), .ref (a 8), .int M_many, .ref (a 9), .ref (a 10), .int M_at, .ref (a 11), .int M_toldMany])), (a 1, .inl (Y 0, 238, .inl M_g)), (a 2, .inl (Y 0, 1904, .inl M_kept)), (a 3, .inl (Y 0, 238, .inl M_saved)), (a 4, .inl (Y 0, 238, .inl M_before)), (a 5, .inl (Y 0, 60, .inl M_input)), (a 6, .inl (Y 2, 100, .inl M_signs)), (a 7, .inl (Y 0, 6, .inl M_column)), (a 8, .inl (Y 0, 6, .inl M_loads)), (a 9, .inl (Y 0, 2048, .inl M_sums)), (a 10, .inl (Y 0, 2048, .inl M_groups)), (a 11, .inl (Y 0, 155, .inl M_told))] s.heap := hP
  have hl := lv_entry ([.ref (a 0)]) (n := 3) (Nat.le_of_ble_eq_true rfl)
  rw [lg_entry_eq]
  generalize (lg_sl ([.ref (a 0)]) ++ List.replicate (3 - (lg_sl ([.ref (a 0)])).length) Slot.unset).toArray = ls at hl ⊢
  have hl : lv_has ls 3 [(0, .ref (a 0))] := hl
  rw [f_X11_entriesOf] at hf
  refine lv_aload_n hx hb dX11_entriesOf_0 rfl (lv_at hl 0 rfl) ?_
  obtain ⟨r1, hr2, hf⟩ := wkb1_s hf
  have hPc := hP.sub (ws' := (wX11 Y a M_g M_kept M_saved M_before M_isSaved M_changes M_isWithin M_code M_input M_length M_fault M_failed M_signs M_signMany M_column M_loads M_many M_sums M_groups M_at M_told M_toldMany)) [0, 1, 2, 3, 4, 5, 6, 7, 8, 9, 10, 11] rfl
  refine wk_vi (As := []) (rest := []) ⟨hx, hb, hml, hown, hts⟩ (c_X11_breaks l dC dI Y a M_g M_kept M_saved M_before M_isSaved M_changes M_isWithin M_code M_input M_length M_fault M_failed M_signs M_signMany M_column M_loads M_many M_sums M_groups M_at M_told M_toldMany r1 hr2) (cwV 0 hts gX11_entriesOf_X11_breaks rfl rfl rfl (by decide +kernel) ⟨Nat.le_of_ble_eq_true rfl, Nat.le_of_ble_eq_true rfl⟩) hK hPc (va_recv hK hP (ci := 11) (q0 := 0) rfl rfl) rfl hl.1 rfl (Nat.le_of_ble_eq_true rfl) dX11_entriesOf_1 ⟨Nat.le_of_ble_eq_true rfl, Nat.le_of_ble_eq_true rfl⟩ ?_
  refine lv_if_ge (tgt := 14) hx hb dX11_entriesOf_4 (by decide) (fun q3 => ?_) (fun q3 => ?_)
  · have hf := wk_t hf q3
    refine lv_aload_n hx hb dX11_entriesOf_14 rfl (lv_at hl 0 rfl) ?_
    obtain ⟨r4, hr5, hf⟩ := wkb1_s hf
    have hPc := hP.sub (ws' := (wX11 Y a M_g M_kept M_saved M_before M_isSaved M_changes M_isWithin M_code M_input M_length M_fault M_failed M_signs M_signMany M_column M_loads M_many M_sums M_groups M_at M_told M_toldMany)) [0, 1, 2, 3, 4, 5, 6, 7, 8, 9, 10, 11] rfl
    refine wk_vi (As := []) (rest := []) ⟨hx, hb, hml, hown, hts⟩ (c_X11_costs l dC dI Y a M_g M_kept M_saved M_before M_isSaved M_changes M_isWithin M_code M_input M_length M_fault M_failed M_signs M_signMany M_column M_loads M_many M_sums M_groups M_at M_told M_toldMany r4 hr5) (cwV 0 hts gX11_entriesOf_X11_costs rfl rfl rfl (by decide +kernel) ⟨Nat.le_of_ble_eq_true rfl, Nat.le_of_ble_eq_true rfl⟩) hK hPc (va_recv hK hP (ci := 11) (q0 := 0) rfl rfl) rfl hl.1 rfl (Nat.le_of_ble_eq_true rfl) dX11_entriesOf_15 ⟨Nat.le_of_ble_eq_true rfl, Nat.le_of_ble_eq_true rfl⟩ ?_
    refine lv_aload_n hx hb dX11_entriesOf_18 rfl (lv_at hl 0 rfl) ?_
    refine va_get (D := (dC, dI)) (ci := 11) (v := .ref (a 1)) (C := RX11) (T := TX11) (N := 22) hx hb hts in_X11_entriesOf_X11 hown hK hP 0 rfl rfl 0 (by decide) (hts _ lk_X11_entriesOf_RX11_7) (fun _ h9 => h9) rfl dX11_entriesOf_19 ?_
    refine lv_bipush (v := 37) hx hb dX11_entriesOf_22 (by decide) ?_
    refine wk_iald hx hb hK hP 1 0 (k := 37) rfl rfl (vp_lit (by decide)) (by decide) dX11_entriesOf_24 ?_
    obtain ⟨r6, hr7, hf⟩ := wkb1_s hf
    have hPc := hP.sub (ws' := ([] : va_W)) [] rfl
    refine wk_si (As := [.int r4, .int (M_g 37)]) (rest := []) ⟨hx, hb, hml, hown, hts⟩ (c_X11_least l dC dI Y r4 (M_g 37) r6 hr7) (va_cwS 2 hts gX11_entriesOf_X11_least rfl rfl rfl (by decide +kernel) ⟨Nat.le_of_ble_eq_true rfl, Nat.le_of_ble_eq_true rfl⟩) hK hPc rfl hl.1 rfl (Nat.le_of_ble_eq_true rfl) dX11_entriesOf_25 ⟨Nat.le_of_ble_eq_true rfl, Nat.le_of_ble_eq_true rfl⟩ ?_
    refine lv_istore_n (lv' := [(1, .int r6), (0, .ref (a 0))]) hx hb dX11_entriesOf_28 rfl hl (by decide) rfl (fun ls hl => ?_)
    refine lv_aload_n hx hb dX11_entriesOf_29 rfl (lv_at hl 1 rfl) ?_
    obtain ⟨r8, hr9, hf⟩ := wkb1_s hf
    have hPc := hP.sub (ws' := (wX11 Y a M_g M_kept M_saved M_before M_isSaved M_changes M_isWithin M_code M_input M_length M_fault M_failed M_signs M_signMany M_column M_loads M_many M_sums M_groups M_at M_told M_toldMany)) [0, 1, 2, 3, 4, 5, 6, 7, 8, 9, 10, 11] rfl
    refine wk_vi (As := []) (rest := []) ⟨hx, hb, hml, hown, hts⟩ (c_X11_costs l dC dI Y a M_g M_kept M_saved M_before M_isSaved M_changes M_isWithin M_code M_input M_length M_fault M_failed M_signs M_signMany M_column M_loads M_many M_sums M_groups M_at M_told M_toldMany r8 hr9) (cwV 0 hts gX11_entriesOf_X11_costs rfl rfl rfl (by decide +kernel) ⟨Nat.le_of_ble_eq_true rfl, Nat.le_of_ble_eq_true rfl⟩) hK hPc (va_recv hK hP (ci := 11) (q0 := 0) rfl rfl) rfl hl.1 rfl (Nat.le_of_ble_eq_true rfl) dX11_entriesOf_30 ⟨Nat.le_of_ble_eq_true rfl, Nat.le_of_ble_eq_true rfl⟩ ?_
    refine lv_iload_n hx hb dX11_entriesOf_33 rfl (lv_at hl 0 rfl) ?_
    refine lv_isub hx hb dX11_entriesOf_34 ?_
    refine lv_aload_n hx hb dX11_entriesOf_35 rfl (lv_at hl 1 rfl) ?_
    refine va_get (D := (dC, dI)) (ci := 11) (v := .ref (a 1)) (C := RX11) (T := TX11) (N := 22) hx hb hts in_X11_entriesOf_X11 hown hK hP 0 rfl rfl 0 (by decide) (hts _ lk_X11_entriesOf_RX11_7) (fun _ h9 => h9) rfl dX11_entriesOf_36 ?_
    refine lv_bipush (v := 36) hx hb dX11_entriesOf_39 (by decide) ?_
    refine wk_iald hx hb hK hP 1 0 (k := 36) rfl rfl (vp_lit (by decide)) (by decide) dX11_entriesOf_41 ?_
    obtain ⟨r10, hr11, hf⟩ := wkb1_s hf
    have hPc := hP.sub (ws' := ([] : va_W)) [] rfl
    refine wk_si (As := [.int (r8 - r6), .int (M_g 36)]) (rest := []) ⟨hx, hb, hml, hown, hts⟩ (c_X11_least l dC dI Y (r8 - r6) (M_g 36) r10 hr11) (va_cwS 2 hts gX11_entriesOf_X11_least rfl rfl rfl (by decide +kernel) ⟨Nat.le_of_ble_eq_true rfl, Nat.le_of_ble_eq_true rfl⟩) hK hPc rfl hl.1 rfl (Nat.le_of_ble_eq_true rfl) dX11_entriesOf_42 ⟨Nat.le_of_ble_eq_true rfl, Nat.le_of_ble_eq_true rfl⟩ ?_
    refine lv_istore_n (lv' := [(2, .int r10), (1, .int r6), (0, .ref (a 0))]) hx hb dX11_entriesOf_45 rfl hl (by decide) rfl (fun ls hl => ?_)
    refine lv_iload_n hx hb dX11_entriesOf_46 rfl (lv_at hl 1 rfl) ?_
    refine lv_if_le (tgt := 54) hx hb dX11_entriesOf_47 (by decide) (fun q12 => ?_) (fun q12 => ?_)
    · have hf := wk_t hf q12
      refine lv_iconst (v := 0) hx hb dX11_entriesOf_54 (by decide) ?_
      refine lv_iload_n hx hb dX11_entriesOf_55 rfl (lv_at hl 0 rfl) ?_
      refine lv_if_le (tgt := 63) hx hb dX11_entriesOf_56 (by decide) (fun q13 => ?_) (fun q13 => ?_)
      · have hf := wk_t hf q13
        refine lv_iconst (v := 0) hx hb dX11_entriesOf_63 (by decide) ?_
        refine lv_iadd hx hb dX11_entriesOf_64 ?_
        have e0 := wke1 hf
        subst e0
        exact W.iret (v := (0 + 0)) hx hb hr (fun t ht hW => ⟨(0 + 0), rfl, rfl, ht⟩) (fun q h => absurd h List.not_mem_nil) dX11_entriesOf_65
      · have hf := wk_f hf q13
        refine lv_iconst (v := 1) hx hb dX11_entriesOf_59 (by decide) ?_
        refine lv_goto (tgt := 64) hx hb dX11_entriesOf_60 (by decide) ?_
        refine lv_iadd hx hb dX11_entriesOf_64 ?_
        have e0 := wke1 hf
        subst e0
        exact W.iret (v := (0 + 1)) hx hb hr (fun t ht hW => ⟨(0 + 1), rfl, rfl, ht⟩) (fun q h => absurd h List.not_mem_nil) dX11_entriesOf_65
    · have hf := wk_f hf q12
      refine lv_iconst (v := 1) hx hb dX11_entriesOf_50 (by decide) ?_
      refine lv_goto (tgt := 55) hx hb dX11_entriesOf_51 (by decide) ?_
      refine lv_iload_n hx hb dX11_entriesOf_55 rfl (lv_at hl 0 rfl) ?_
      refine lv_if_le (tgt := 63) hx hb dX11_entriesOf_56 (by decide) (fun q14 => ?_) (fun q14 => ?_)
      · have hf := wk_t hf q14
        refine lv_iconst (v := 0) hx hb dX11_entriesOf_63 (by decide) ?_
        refine lv_iadd hx hb dX11_entriesOf_64 ?_
        have e0 := wke1 hf
        subst e0
        exact W.iret (v := (1 + 0)) hx hb hr (fun t ht hW => ⟨(1 + 0), rfl, rfl, ht⟩) (fun q h => absurd h List.not_mem_nil) dX11_entriesOf_65
      · have hf := wk_f hf q14
        refine lv_iconst (v := 1) hx hb dX11_entriesOf_59 (by decide) ?_
        refine lv_goto (tgt := 64) hx hb dX11_entriesOf_60 (by decide) ?_
        refine lv_iadd hx hb dX11_entriesOf_64 ?_
        have e0 := wke1 hf
        subst e0
        exact W.iret (v := (1 + 1)) hx hb hr (fun t ht hW => ⟨(1 + 1), rfl, rfl, ht⟩) (fun q h => absurd h List.not_mem_nil) dX11_entriesOf_65
  · have hf := wk_f hf q3
    refine lv_aload_n hx hb dX11_entriesOf_7 rfl (lv_at hl 0 rfl) ?_
    refine va_get (D := (dC, dI)) (ci := 11) (v := .int M_many) (C := RX11) (T := TX11) (N := 22) hx hb hts in_X11_entriesOf_X11 hown hK hP 0 rfl rfl 16 (by decide) (hts _ lk_X11_entriesOf_RX11_95) (fun _ h9 => h9) rfl dX11_entriesOf_8 ?_
    refine lv_iconst (v := 1) hx hb dX11_entriesOf_11 (by decide) ?_
    refine lv_iadd hx hb dX11_entriesOf_12 ?_
    have e0 := wke1 hf
    subst e0
    exact W.iret (v := (M_many + 1)) hx hb hr (fun t ht hW => ⟨(M_many + 1), rfl, rfl, ht⟩) (fun q h => absurd h List.not_mem_nil) dX11_entriesOf_13
theorem lk_X11_show_RX11_7 : Cond.fieldLink RX11 7 "CircusLedgerModel" "g" "[I" ∈ wsX11_show := by decide +kernel
theorem in_X11_show_X11 : ∀ w ∈ u_ws RX11 TX11 22, w ∈ wsX11_show := by decide +kernel
def f_X11_show_L77 (M_isWithin : Int32) (x1 : Int32) (y0 : Int32) (M_g : (Nat → Int32)) (M_kept : (Nat → Int32)) (M_changes : Int32) (M_code : Int32) (M_column : (Nat → Int32)) (M_loads : (Nat → Int32)) (M_many : Int32) : Option (Int32 × (Nat → Int32) × (Nat → Int32) × Int32 × Int32 × (Nat → Int32) × (Nat → Int32) × Int32) :=
    wkb2 (f_X11_passes M_g 1) (fun r1 w2 =>
    wkl (upd w2 4 ((w2 4) + 1)) (fun g4 =>
    if (0 : Int32) ≤ r1 then
      (some (y0, g4, M_kept, M_changes, M_code, M_column, M_loads, M_many))
    else
      (some (0, g4, M_kept, M_changes, M_code, M_column, M_loads, M_many))))
def f_X11_show_L42 (M_isWithin : Int32) (x1 : Int32) (y0 : Int32) (M_g : (Nat → Int32)) (M_kept : (Nat → Int32)) (M_changes : Int32) (M_code : Int32) (M_column : (Nat → Int32)) (M_loads : (Nat → Int32)) (M_many : Int32) : Option (Int32 × (Nat → Int32) × (Nat → Int32) × Int32 × Int32 × (Nat → Int32) × (Nat → Int32) × Int32) :=
    wkb2 (f_X11_fails M_code y0) (fun r1 w2 =>
    if r1 = 0 then
      (wkb3 (f_X11_keeps_g M_g M_kept M_changes M_isWithin w2) (fun w5 w6 w7 =>
      wkb1 (f_X11_breaks M_g M_column M_loads M_many) (fun r9 =>
      if (0 : Int32) ≤ r9 then
        (wkb2 (f_X11_falls M_g M_column M_loads M_many) (fun r12 w13 =>
        f_X11_show_L77 M_isWithin x1 r12 w13 w5 w6 w7 M_column M_loads M_many))
      else
        (wkb2 (f_X11_stands M_g x1) (fun r15 w16 =>
        f_X11_show_L77 M_isWithin x1 r15 w16 w5 w6 w7 M_column M_loads M_many)))))
    else
      (some (0, M_g, M_kept, M_changes, w2, M_column, M_loads, M_many)))
def f_X11_show (M_g : Nat → Int32) (M_kept : Nat → Int32) (M_changes : Int32) (M_isWithin : Int32) (M_code : Int32) (M_column : Nat → Int32) (M_loads : Nat → Int32) (M_many : Int32) (x1 : Int32) : Option (Int32 × (Nat → Int32) × (Nat → Int32) × Int32 × Int32 × (Nat → Int32) × (Nat → Int32) × Int32) :=
  wkb5 (f_X11_isWrong M_g M_code M_column M_loads M_many x1) (fun r1 w2 w3 w4 w5 =>
  if r1 = 0 then
    (wkb1 (f_X11_areHurt M_g x1) (fun r8 =>
    if r8 = 0 then
      (wkb1 (f_X11_entriesOf M_g w3 w4 w5) (fun r11 =>
      if ((M_g 3) + r11) ≤ 60 then
        (f_X11_show_L42 M_isWithin x1 0 M_g M_kept M_changes w2 w3 w4 w5)
      else
        (f_X11_show_L42 M_isWithin x1 3 M_g M_kept M_changes w2 w3 w4 w5)))
    else
      (f_X11_show_L42 M_isWithin x1 2 M_g M_kept M_changes w2 w3 w4 w5)))
  else
    (some (0, M_g, M_kept, M_changes, w2, w3, w4, w5)))
set_option maxHeartbeats 4000000 in
set_option maxRecDepth 100000 in
theorem wl_X11_show_L77 {p : Program} {l : Launch} {e : Env} {s : State} {m : MethodId} {args : Array Value} {below : List Frame} {meth : Method} {c : Code} {dC : Nat → ClassId} {dI : Nat → Nat → Nat} {Y : Nat → ClassId} {a : Nat → Nat} {M_saved : Nat → Int32} {M_before : Nat → Int32} {M_isSaved : Int32} {M_isWithin : Int32} {M_input : Nat → Int32} {M_length : Int32} {M_fault : Int32} {M_failed : Int32} {M_signs : Nat → Int32} {M_signMany : Int32} {M_sums : Nat → Int32} {M_groups : Nat → Int32} {M_at : Int32} {M_told : Nat → Int32} {M_toldMany : Int32} {x1 : Int32} {r : Int32} {zM_g : Nat → Int32} {zM_kept : Nat → Int32} {zM_changes : Int32} {zM_code : Int32} {zM_column : Nat → Int32} {zM_loads : Nat → Int32} {zM_many : Int32}  (C0 : wk_C p s m args meth c cX11_show 4 (some .int) wsX11_show RX11) {A : Nat → Prop} (hK : va_K (dC, dI) vwCl (vTy Y) s) (hA : ∀ q, s.heap.size ≤ q → A q) : ∀  (y0 : Int32) (M_g : Nat → Int32) (M_kept : Nat → Int32) (M_changes : Int32) (M_code : Int32) (M_column : Nat → Int32) (M_loads : Nat → Int32) (M_many : Int32), f_X11_show_L77 M_isWithin x1 y0 M_g M_kept M_changes M_code M_column M_loads M_many = some (r, zM_g, zM_kept, zM_changes, zM_code, zM_column, zM_loads, zM_many) → ∀ (H : Heap) (locs : List Loc), va_P (dC, dI) vwCl (wX11 Y a M_g M_kept M_saved M_before M_isSaved M_changes M_isWithin M_code M_input M_length M_fault M_failed M_signs M_signMany M_column M_loads M_many M_sums M_groups M_at M_told M_toldMany) H → va_D A (wX11 Y a M_g M_kept M_saved M_before M_isSaved M_changes M_isWithin M_code M_input M_length M_fault M_failed M_signs M_signMany M_column M_loads M_many M_sums M_groups M_at M_told M_toldMany) → va_S A s.heap H locs → ∀ (ls : Array Slot), lv_has ls 4 [(0, .ref (a 0))] → W p l e (headSpec wsX11_show ({ frames := 4, cells := 0, slots := 0, locals := 89 } : Room)).room s m args below meth c H locs 0 0 (MQ below (va_Qi (fun r2 (_ : Unit) => r2 = r) (fun _ t => wk_X (dC, dI) Y (wX11 Y a zM_g zM_kept M_saved M_before M_isSaved zM_changes M_isWithin zM_code M_input M_length M_fault M_failed M_signs M_signMany zM_column zM_loads zM_many M_sums M_groups M_at M_told M_toldMany) A t) A) args s 0 0 A) (F0 m 77 ls [.int y0]) := by
  obtain ⟨hx, hb, hml, hr, hlocks, hown, hts⟩ := id C0
  intro y0 M_g M_kept M_changes M_code M_column M_loads M_many hf H locs hP hD hS ls hl
  rw [f_X11_show_L77] at hf
  have hP : va_P (dC, dI) vwCl [(a 0, .inr (11, [.ref (a 1), .ref (a 2), .ref (a 3), .ref (a 4), .int M_isSaved, .int M_changes, .int M_isWithin, .int M_code, .ref (a 5), .int M_length, .int M_fault, .int M_failed, .ref (a 6), .int M_signMany, .ref (a 7), .ref (a 8), .int M_many, .ref (a 9), .ref (a 10), .int M_at, .ref (a 11), .int M_toldMany])), (a 1, .inl (Y 0, 238, .inl M_g)), (a 2, .inl (Y 0, 1904, .inl M_kept)), (a 3, .inl (Y 0, 238, .inl M_saved)), (a 4, .inl (Y 0, 238, .inl M_before)), (a 5, .inl (Y 0, 60, .inl M_input)), (a 6, .inl (Y 2, 100, .inl M_signs)), (a 7, .inl (Y 0, 6, .inl M_column)), (a 8, .inl (Y 0, 6, .inl M_loads)), (a 9, .inl (Y 0, 2048, .inl M_sums)), (a 10, .inl (Y 0, 2048, .inl M_groups)), (a 11, .inl (Y 0, 155, .inl M_told))] H := hP
  have hD : va_D A [(a 0, .inr (11, [.ref (a 1), .ref (a 2), .ref (a 3), .ref (a 4), .int M_isSaved, .int M_changes, .int M_isWithin, .int M_code, .ref (a 5), .int M_length, .int M_fault, .int M_failed, .ref (a 6), .int M_signMany, .ref (a 7), .ref (a 8), .int M_many, .ref (a 9), .ref (a 10), .int M_at, .ref (a 11), .int M_toldMany])), (a 1, .inl (Y 0, 238, .inl M_g)), (a 2, .inl (Y 0, 1904, .inl M_kept)), (a 3, .inl (Y 0, 238, .inl M_saved)), (a 4, .inl (Y 0, 238, .inl M_before)), (a 5, .inl (Y 0, 60, .inl M_input)), (a 6, .inl (Y 2, 100, .inl M_signs)), (a 7, .inl (Y 0, 6, .inl M_column)), (a 8, .inl (Y 0, 6, .inl M_loads)), (a 9, .inl (Y 0, 2048, .inl M_sums)), (a 10, .inl (Y 0, 2048, .inl M_groups)), (a 11, .inl (Y 0, 155, .inl M_told))] := hD
  refine lv_istore_n (lv' := [(2, .int y0), (0, .ref (a 0))]) hx hb dX11_show_77 rfl hl (by decide) rfl (fun ls hl => ?_)
  refine lv_aload_n hx hb dX11_show_78 rfl (lv_at hl 1 rfl) ?_
  refine lv_iconst (v := 1) hx hb dX11_show_79 (by decide) ?_
  obtain ⟨r1, w2, hr3, hf⟩ := wkb2_s hf
  refine wk_evi (As := [.int 1]) (rest := []) (wc := (wX11 Y a M_g M_kept M_saved M_before M_isSaved M_changes M_isWithin M_code M_input M_length M_fault M_failed M_signs M_signMany M_column M_loads M_many M_sums M_groups M_at M_told M_toldMany)) (w1 := (wX11 Y a w2 M_kept M_saved M_before M_isSaved M_changes M_isWithin M_code M_input M_length M_fault M_failed M_signs M_signMany M_column M_loads M_many M_sums M_groups M_at M_told M_toldMany)) (wr := []) ⟨hx, hb, hml, hown, hts⟩ (c_X11_passes l dC dI Y a M_g M_kept M_saved M_before M_isSaved M_changes M_isWithin M_code M_input M_length M_fault M_failed M_signs M_signMany M_column M_loads M_many M_sums M_groups M_at M_told M_toldMany 1 H.size r1 w2 hr3) (cwV 1 hts gX11_show_X11_passes rfl rfl rfl (by decide +kernel) ⟨Nat.le_of_ble_eq_true rfl, Nat.le_of_ble_eq_true rfl⟩) hK hP hD hS hA [0, 1, 2, 3, 4, 5, 6, 7, 8, 9, 10, 11] [] rfl rfl (by decide) (by decide) (by decide) (va_recv hK hP (ci := 11) (q0 := 0) rfl rfl) rfl hl.1 rfl (Nat.le_of_ble_eq_true rfl) dX11_show_80 ⟨Nat.le_of_ble_eq_true rfl, Nat.le_of_ble_eq_true rfl⟩ (fun H locs hP hD hS => ?_)
  have hP : va_P (dC, dI) vwCl [(a 0, .inr (11, [.ref (a 1), .ref (a 2), .ref (a 3), .ref (a 4), .int M_isSaved, .int M_changes, .int M_isWithin, .int M_code, .ref (a 5), .int M_length, .int M_fault, .int M_failed, .ref (a 6), .int M_signMany, .ref (a 7), .ref (a 8), .int M_many, .ref (a 9), .ref (a 10), .int M_at, .ref (a 11), .int M_toldMany])), (a 1, .inl (Y 0, 238, .inl w2)), (a 2, .inl (Y 0, 1904, .inl M_kept)), (a 3, .inl (Y 0, 238, .inl M_saved)), (a 4, .inl (Y 0, 238, .inl M_before)), (a 5, .inl (Y 0, 60, .inl M_input)), (a 6, .inl (Y 2, 100, .inl M_signs)), (a 7, .inl (Y 0, 6, .inl M_column)), (a 8, .inl (Y 0, 6, .inl M_loads)), (a 9, .inl (Y 0, 2048, .inl M_sums)), (a 10, .inl (Y 0, 2048, .inl M_groups)), (a 11, .inl (Y 0, 155, .inl M_told))] H := hP
  have hD : va_D A [(a 0, .inr (11, [.ref (a 1), .ref (a 2), .ref (a 3), .ref (a 4), .int M_isSaved, .int M_changes, .int M_isWithin, .int M_code, .ref (a 5), .int M_length, .int M_fault, .int M_failed, .ref (a 6), .int M_signMany, .ref (a 7), .ref (a 8), .int M_many, .ref (a 9), .ref (a 10), .int M_at, .ref (a 11), .int M_toldMany])), (a 1, .inl (Y 0, 238, .inl w2)), (a 2, .inl (Y 0, 1904, .inl M_kept)), (a 3, .inl (Y 0, 238, .inl M_saved)), (a 4, .inl (Y 0, 238, .inl M_before)), (a 5, .inl (Y 0, 60, .inl M_input)), (a 6, .inl (Y 2, 100, .inl M_signs)), (a 7, .inl (Y 0, 6, .inl M_column)), (a 8, .inl (Y 0, 6, .inl M_loads)), (a 9, .inl (Y 0, 2048, .inl M_sums)), (a 10, .inl (Y 0, 2048, .inl M_groups)), (a 11, .inl (Y 0, 155, .inl M_told))] := hD
  refine lv_istore_n (lv' := [(3, .int r1), (2, .int y0), (0, .ref (a 0))]) hx hb dX11_show_83 rfl hl (by decide) rfl (fun ls hl => ?_)
  refine lv_aload_n hx hb dX11_show_84 rfl (lv_at hl 2 rfl) ?_
  refine va_get (D := (dC, dI)) (ci := 11) (v := .ref (a 1)) (C := RX11) (T := TX11) (N := 22) hx hb hts in_X11_show_X11 hown hK hP 0 rfl rfl 0 (by decide) (hts _ lk_X11_show_RX11_7) (fun _ h9 => h9) rfl dX11_show_85 ?_
  refine lv_iconst (v := 4) hx hb dX11_show_88 (by decide) ?_
  refine lv_dup2_11 hx hb dX11_show_89 rfl rfl ?_
  refine wk_iald hx hb hK hP 1 0 (k := 4) rfl rfl (vp_lit (by decide)) (by decide) dX11_show_90 ?_
  refine lv_iconst (v := 1) hx hb dX11_show_91 (by decide) ?_
  refine lv_iadd hx hb dX11_show_92 ?_
  refine wk_iast hx hb hK hP hD hS 1 0 (k := 4) rfl rfl (vp_lit (by decide)) (by decide) dX11_show_93 (fun g4 H locs eg4 hP hD hS => ?_)
  have hP : va_P (dC, dI) vwCl [(a 0, .inr (11, [.ref (a 1), .ref (a 2), .ref (a 3), .ref (a 4), .int M_isSaved, .int M_changes, .int M_isWithin, .int M_code, .ref (a 5), .int M_length, .int M_fault, .int M_failed, .ref (a 6), .int M_signMany, .ref (a 7), .ref (a 8), .int M_many, .ref (a 9), .ref (a 10), .int M_at, .ref (a 11), .int M_toldMany])), (a 1, .inl (Y 0, 238, .inl g4)), (a 2, .inl (Y 0, 1904, .inl M_kept)), (a 3, .inl (Y 0, 238, .inl M_saved)), (a 4, .inl (Y 0, 238, .inl M_before)), (a 5, .inl (Y 0, 60, .inl M_input)), (a 6, .inl (Y 2, 100, .inl M_signs)), (a 7, .inl (Y 0, 6, .inl M_column)), (a 8, .inl (Y 0, 6, .inl M_loads)), (a 9, .inl (Y 0, 2048, .inl M_sums)), (a 10, .inl (Y 0, 2048, .inl M_groups)), (a 11, .inl (Y 0, 155, .inl M_told))] H := hP
  have hD : va_D A [(a 0, .inr (11, [.ref (a 1), .ref (a 2), .ref (a 3), .ref (a 4), .int M_isSaved, .int M_changes, .int M_isWithin, .int M_code, .ref (a 5), .int M_length, .int M_fault, .int M_failed, .ref (a 6), .int M_signMany, .ref (a 7), .ref (a 8), .int M_many, .ref (a 9), .ref (a 10), .int M_at, .ref (a 11), .int M_toldMany])), (a 1, .inl (Y 0, 238, .inl g4)), (a 2, .inl (Y 0, 1904, .inl M_kept)), (a 3, .inl (Y 0, 238, .inl M_saved)), (a 4, .inl (Y 0, 238, .inl M_before)), (a 5, .inl (Y 0, 60, .inl M_input)), (a 6, .inl (Y 2, 100, .inl M_signs)), (a 7, .inl (Y 0, 6, .inl M_column)), (a 8, .inl (Y 0, 6, .inl M_loads)), (a 9, .inl (Y 0, 2048, .inl M_sums)), (a 10, .inl (Y 0, 2048, .inl M_groups)), (a 11, .inl (Y 0, 155, .inl M_told))] := hD
  have hf := wkl_s hf eg4
  refine lv_iload_n hx hb dX11_show_94 rfl (lv_at hl 0 rfl) ?_
  refine lv_if_ge (tgt := 102) hx hb dX11_show_95 (by decide) (fun q5 => ?_) (fun q5 => ?_)
  · have hf := wk_t hf q5
    refine lv_iload_n hx hb dX11_show_102 rfl (lv_at hl 1 rfl) ?_
    obtain ⟨e0, e1, e2, e3, e4, e5, e6, e7⟩ := wke8 hf
    subst e0
    subst e1
    subst e2
    subst e3
    subst e4
    subst e5
    subst e6
    subst e7
    have hP9 := hP.sub (ws' := (wX11 Y a g4 M_kept M_saved M_before M_isSaved M_changes M_isWithin M_code M_input M_length M_fault M_failed M_signs M_signMany M_column M_loads M_many M_sums M_groups M_at M_told M_toldMany)) [0, 1, 2, 3, 4, 5, 6, 7, 8, 9, 10, 11] rfl
    have hD9 := hD.sub (ws' := (wX11 Y a g4 M_kept M_saved M_before M_isSaved M_changes M_isWithin M_code M_input M_length M_fault M_failed M_signs M_signMany M_column M_loads M_many M_sums M_groups M_at M_told M_toldMany)) [0, 1, 2, 3, 4, 5, 6, 7, 8, 9, 10, 11] (by decide) rfl
    exact W.iret (v := y0) hx hb hr (fun t ht hW => ⟨⟨y0, (), rfl, rfl, by rw [ht]; exact hP9, va_K.moved hW.alike hK, hD9⟩, hS.F ht⟩) hS.2.2 dX11_show_103
  · have hf := wk_f hf q5
    refine lv_iconst (v := 0) hx hb dX11_show_98 (by decide) ?_
    refine lv_goto (tgt := 103) hx hb dX11_show_99 (by decide) ?_
    obtain ⟨e0, e1, e2, e3, e4, e5, e6, e7⟩ := wke8 hf
    subst e0
    subst e1
    subst e2
    subst e3
    subst e4
    subst e5
    subst e6
    subst e7
    have hP9 := hP.sub (ws' := (wX11 Y a g4 M_kept M_saved M_before M_isSaved M_changes M_isWithin M_code M_input M_length M_fault M_failed M_signs M_signMany M_column M_loads M_many M_sums M_groups M_at M_told M_toldMany)) [0, 1, 2, 3, 4, 5, 6, 7, 8, 9, 10, 11] rfl
    have hD9 := hD.sub (ws' := (wX11 Y a g4 M_kept M_saved M_before M_isSaved M_changes M_isWithin M_code M_input M_length M_fault M_failed M_signs M_signMany M_column M_loads M_many M_sums M_groups M_at M_told M_toldMany)) [0, 1, 2, 3, 4, 5, 6, 7, 8, 9, 10, 11] (by decide) rfl
    exact W.iret (v := 0) hx hb hr (fun t ht hW => ⟨⟨0, (), rfl, rfl, by rw [ht]; exact hP9, va_K.moved hW.alike hK, hD9⟩, hS.F ht⟩) hS.2.2 dX11_show_103
set_option maxHeartbeats 4000000 in
set_option maxRecDepth 100000 in
theorem wl_X11_show_L42 {p : Program} {l : Launch} {e : Env} {s : State} {m : MethodId} {args : Array Value} {below : List Frame} {meth : Method} {c : Code} {dC : Nat → ClassId} {dI : Nat → Nat → Nat} {Y : Nat → ClassId} {a : Nat → Nat} {M_saved : Nat → Int32} {M_before : Nat → Int32} {M_isSaved : Int32} {M_isWithin : Int32} {M_input : Nat → Int32} {M_length : Int32} {M_fault : Int32} {M_failed : Int32} {M_signs : Nat → Int32} {M_signMany : Int32} {M_sums : Nat → Int32} {M_groups : Nat → Int32} {M_at : Int32} {M_told : Nat → Int32} {M_toldMany : Int32} {x1 : Int32} {r : Int32} {zM_g : Nat → Int32} {zM_kept : Nat → Int32} {zM_changes : Int32} {zM_code : Int32} {zM_column : Nat → Int32} {zM_loads : Nat → Int32} {zM_many : Int32}  (C0 : wk_C p s m args meth c cX11_show 4 (some .int) wsX11_show RX11) {A : Nat → Prop} (hK : va_K (dC, dI) vwCl (vTy Y) s) (hA : ∀ q, s.heap.size ≤ q → A q) : ∀  (y0 : Int32) (M_g : Nat → Int32) (M_kept : Nat → Int32) (M_changes : Int32) (M_code : Int32) (M_column : Nat → Int32) (M_loads : Nat → Int32) (M_many : Int32), f_X11_show_L42 M_isWithin x1 y0 M_g M_kept M_changes M_code M_column M_loads M_many = some (r, zM_g, zM_kept, zM_changes, zM_code, zM_column, zM_loads, zM_many) → ∀ (H : Heap) (locs : List Loc), va_P (dC, dI) vwCl (wX11 Y a M_g M_kept M_saved M_before M_isSaved M_changes M_isWithin M_code M_input M_length M_fault M_failed M_signs M_signMany M_column M_loads M_many M_sums M_groups M_at M_told M_toldMany) H → va_D A (wX11 Y a M_g M_kept M_saved M_before M_isSaved M_changes M_isWithin M_code M_input M_length M_fault M_failed M_signs M_signMany M_column M_loads M_many M_sums M_groups M_at M_told M_toldMany) → va_S A s.heap H locs → ∀ (ls : Array Slot), lv_has ls 4 [(0, .ref (a 0)), (1, .int x1)] → W p l e (headSpec wsX11_show ({ frames := 4, cells := 0, slots := 0, locals := 89 } : Room)).room s m args below meth c H locs 0 0 (MQ below (va_Qi (fun r2 (_ : Unit) => r2 = r) (fun _ t => wk_X (dC, dI) Y (wX11 Y a zM_g zM_kept M_saved M_before M_isSaved zM_changes M_isWithin zM_code M_input M_length M_fault M_failed M_signs M_signMany zM_column zM_loads zM_many M_sums M_groups M_at M_told M_toldMany) A t) A) args s 0 0 A) (F0 m 42 ls [.int y0, .ref (a 0)]) := by
  obtain ⟨hx, hb, hml, hr, hlocks, hown, hts⟩ := id C0
  intro y0 M_g M_kept M_changes M_code M_column M_loads M_many hf H locs hP hD hS ls hl
  rw [f_X11_show_L42] at hf
  have hP : va_P (dC, dI) vwCl [(a 0, .inr (11, [.ref (a 1), .ref (a 2), .ref (a 3), .ref (a 4), .int M_isSaved, .int M_changes, .int M_isWithin, .int M_code, .ref (a 5), .int M_length, .int M_fault, .int M_failed, .ref (a 6), .int M_signMany, .ref (a 7), .ref (a 8), .int M_many, .ref (a 9), .ref (a 10), .int M_at, .ref (a 11), .int M_toldMany])), (a 1, .inl (Y 0, 238, .inl M_g)), (a 2, .inl (Y 0, 1904, .inl M_kept)), (a 3, .inl (Y 0, 238, .inl M_saved)), (a 4, .inl (Y 0, 238, .inl M_before)), (a 5, .inl (Y 0, 60, .inl M_input)), (a 6, .inl (Y 2, 100, .inl M_signs)), (a 7, .inl (Y 0, 6, .inl M_column)), (a 8, .inl (Y 0, 6, .inl M_loads)), (a 9, .inl (Y 0, 2048, .inl M_sums)), (a 10, .inl (Y 0, 2048, .inl M_groups)), (a 11, .inl (Y 0, 155, .inl M_told))] H := hP
  have hD : va_D A [(a 0, .inr (11, [.ref (a 1), .ref (a 2), .ref (a 3), .ref (a 4), .int M_isSaved, .int M_changes, .int M_isWithin, .int M_code, .ref (a 5), .int M_length, .int M_fault, .int M_failed, .ref (a 6), .int M_signMany, .ref (a 7), .ref (a 8), .int M_many, .ref (a 9), .ref (a 10), .int M_at, .ref (a 11), .int M_toldMany])), (a 1, .inl (Y 0, 238, .inl M_g)), (a 2, .inl (Y 0, 1904, .inl M_kept)), (a 3, .inl (Y 0, 238, .inl M_saved)), (a 4, .inl (Y 0, 238, .inl M_before)), (a 5, .inl (Y 0, 60, .inl M_input)), (a 6, .inl (Y 2, 100, .inl M_signs)), (a 7, .inl (Y 0, 6, .inl M_column)), (a 8, .inl (Y 0, 6, .inl M_loads)), (a 9, .inl (Y 0, 2048, .inl M_sums)), (a 10, .inl (Y 0, 2048, .inl M_groups)), (a 11, .inl (Y 0, 155, .inl M_told))] := hD
  obtain ⟨r1, w2, hr3, hf⟩ := wkb2_s hf
  refine wk_evi (As := [.int y0]) (rest := []) (wc := (wX11 Y a M_g M_kept M_saved M_before M_isSaved M_changes M_isWithin M_code M_input M_length M_fault M_failed M_signs M_signMany M_column M_loads M_many M_sums M_groups M_at M_told M_toldMany)) (w1 := (wX11 Y a M_g M_kept M_saved M_before M_isSaved M_changes M_isWithin w2 M_input M_length M_fault M_failed M_signs M_signMany M_column M_loads M_many M_sums M_groups M_at M_told M_toldMany)) (wr := []) ⟨hx, hb, hml, hown, hts⟩ (c_X11_fails l dC dI Y a M_g M_kept M_saved M_before M_isSaved M_changes M_isWithin M_code M_input M_length M_fault M_failed M_signs M_signMany M_column M_loads M_many M_sums M_groups M_at M_told M_toldMany y0 H.size r1 w2 hr3) (cwV 1 hts gX11_show_X11_fails rfl rfl rfl (by decide +kernel) ⟨Nat.le_of_ble_eq_true rfl, Nat.le_of_ble_eq_true rfl⟩) hK hP hD hS hA [0, 1, 2, 3, 4, 5, 6, 7, 8, 9, 10, 11] [] rfl rfl (by decide) (by decide) (by decide) (va_recv hK hP (ci := 11) (q0 := 0) rfl rfl) rfl hl.1 rfl (Nat.le_of_ble_eq_true rfl) dX11_show_42 ⟨Nat.le_of_ble_eq_true rfl, Nat.le_of_ble_eq_true rfl⟩ (fun H locs hP hD hS => ?_)
  have hP : va_P (dC, dI) vwCl [(a 0, .inr (11, [.ref (a 1), .ref (a 2), .ref (a 3), .ref (a 4), .int M_isSaved, .int M_changes, .int M_isWithin, .int w2, .ref (a 5), .int M_length, .int M_fault, .int M_failed, .ref (a 6), .int M_signMany, .ref (a 7), .ref (a 8), .int M_many, .ref (a 9), .ref (a 10), .int M_at, .ref (a 11), .int M_toldMany])), (a 1, .inl (Y 0, 238, .inl M_g)), (a 2, .inl (Y 0, 1904, .inl M_kept)), (a 3, .inl (Y 0, 238, .inl M_saved)), (a 4, .inl (Y 0, 238, .inl M_before)), (a 5, .inl (Y 0, 60, .inl M_input)), (a 6, .inl (Y 2, 100, .inl M_signs)), (a 7, .inl (Y 0, 6, .inl M_column)), (a 8, .inl (Y 0, 6, .inl M_loads)), (a 9, .inl (Y 0, 2048, .inl M_sums)), (a 10, .inl (Y 0, 2048, .inl M_groups)), (a 11, .inl (Y 0, 155, .inl M_told))] H := hP
  have hD : va_D A [(a 0, .inr (11, [.ref (a 1), .ref (a 2), .ref (a 3), .ref (a 4), .int M_isSaved, .int M_changes, .int M_isWithin, .int w2, .ref (a 5), .int M_length, .int M_fault, .int M_failed, .ref (a 6), .int M_signMany, .ref (a 7), .ref (a 8), .int M_many, .ref (a 9), .ref (a 10), .int M_at, .ref (a 11), .int M_toldMany])), (a 1, .inl (Y 0, 238, .inl M_g)), (a 2, .inl (Y 0, 1904, .inl M_kept)), (a 3, .inl (Y 0, 238, .inl M_saved)), (a 4, .inl (Y 0, 238, .inl M_before)), (a 5, .inl (Y 0, 60, .inl M_input)), (a 6, .inl (Y 2, 100, .inl M_signs)), (a 7, .inl (Y 0, 6, .inl M_column)), (a 8, .inl (Y 0, 6, .inl M_loads)), (a 9, .inl (Y 0, 2048, .inl M_sums)), (a 10, .inl (Y 0, 2048, .inl M_groups)), (a 11, .inl (Y 0, 155, .inl M_told))] := hD
  refine lv_if_eq (tgt := 50) hx hb dX11_show_45 (by decide) (fun q4 => ?_) (fun q4 => ?_)
  · have hf := wk_t hf q4
    refine lv_aload_n hx hb dX11_show_50 rfl (lv_at hl 0 rfl) ?_
    refine lv_aload_n hx hb dX11_show_51 rfl (lv_at hl 0 rfl) ?_
    refine va_get (D := (dC, dI)) (ci := 11) (v := .ref (a 1)) (C := RX11) (T := TX11) (N := 22) hx hb hts in_X11_show_X11 hown hK hP 0 rfl rfl 0 (by decide) (hts _ lk_X11_show_RX11_7) (fun _ h9 => h9) rfl dX11_show_52 ?_
    obtain ⟨w5, w6, w7, hr8, hf⟩ := wkb3_s hf
    refine wk_evv (As := [.ref (a 1)]) (rest := []) (wc := (wX11 Y a M_g M_kept M_saved M_before M_isSaved M_changes M_isWithin w2 M_input M_length M_fault M_failed M_signs M_signMany M_column M_loads M_many M_sums M_groups M_at M_told M_toldMany)) (w1 := (wX11 Y a M_g w5 M_saved M_before M_isSaved w6 M_isWithin w7 M_input M_length M_fault M_failed M_signs M_signMany M_column M_loads M_many M_sums M_groups M_at M_told M_toldMany)) (wr := []) ⟨hx, hb, hml, hown, hts⟩ (c_X11_keeps_g l dC dI Y a M_g M_kept M_saved M_before M_isSaved M_changes M_isWithin w2 M_input M_length M_fault M_failed M_signs M_signMany M_column M_loads M_many M_sums M_groups M_at M_told M_toldMany H.size w5 w6 w7 hr8) (cwV 1 hts gX11_show_X11_keeps rfl rfl rfl (by decide +kernel) ⟨Nat.le_of_ble_eq_true rfl, Nat.le_of_ble_eq_true rfl⟩) hK hP hD hS hA [0, 1, 2, 3, 4, 5, 6, 7, 8, 9, 10, 11] [] rfl rfl (by decide) (by decide) (by decide) (va_recv hK hP (ci := 11) (q0 := 0) rfl rfl) rfl hl.1 rfl (Nat.le_of_ble_eq_true rfl) dX11_show_55 ⟨Nat.le_of_ble_eq_true rfl, Nat.le_of_ble_eq_true rfl⟩ (fun H locs hP hD hS => ?_)
    have hP : va_P (dC, dI) vwCl [(a 0, .inr (11, [.ref (a 1), .ref (a 2), .ref (a 3), .ref (a 4), .int M_isSaved, .int w6, .int M_isWithin, .int w7, .ref (a 5), .int M_length, .int M_fault, .int M_failed, .ref (a 6), .int M_signMany, .ref (a 7), .ref (a 8), .int M_many, .ref (a 9), .ref (a 10), .int M_at, .ref (a 11), .int M_toldMany])), (a 1, .inl (Y 0, 238, .inl M_g)), (a 2, .inl (Y 0, 1904, .inl w5)), (a 3, .inl (Y 0, 238, .inl M_saved)), (a 4, .inl (Y 0, 238, .inl M_before)), (a 5, .inl (Y 0, 60, .inl M_input)), (a 6, .inl (Y 2, 100, .inl M_signs)), (a 7, .inl (Y 0, 6, .inl M_column)), (a 8, .inl (Y 0, 6, .inl M_loads)), (a 9, .inl (Y 0, 2048, .inl M_sums)), (a 10, .inl (Y 0, 2048, .inl M_groups)), (a 11, .inl (Y 0, 155, .inl M_told))] H := hP
    have hD : va_D A [(a 0, .inr (11, [.ref (a 1), .ref (a 2), .ref (a 3), .ref (a 4), .int M_isSaved, .int w6, .int M_isWithin, .int w7, .ref (a 5), .int M_length, .int M_fault, .int M_failed, .ref (a 6), .int M_signMany, .ref (a 7), .ref (a 8), .int M_many, .ref (a 9), .ref (a 10), .int M_at, .ref (a 11), .int M_toldMany])), (a 1, .inl (Y 0, 238, .inl M_g)), (a 2, .inl (Y 0, 1904, .inl w5)), (a 3, .inl (Y 0, 238, .inl M_saved)), (a 4, .inl (Y 0, 238, .inl M_before)), (a 5, .inl (Y 0, 60, .inl M_input)), (a 6, .inl (Y 2, 100, .inl M_signs)), (a 7, .inl (Y 0, 6, .inl M_column)), (a 8, .inl (Y 0, 6, .inl M_loads)), (a 9, .inl (Y 0, 2048, .inl M_sums)), (a 10, .inl (Y 0, 2048, .inl M_groups)), (a 11, .inl (Y 0, 155, .inl M_told))] := hD
    refine lv_aload_n hx hb dX11_show_58 rfl (lv_at hl 0 rfl) ?_
    obtain ⟨r9, hr10, hf⟩ := wkb1_s hf
    have hPc := hP.sub (ws' := (wX11 Y a M_g w5 M_saved M_before M_isSaved w6 M_isWithin w7 M_input M_length M_fault M_failed M_signs M_signMany M_column M_loads M_many M_sums M_groups M_at M_told M_toldMany)) [0, 1, 2, 3, 4, 5, 6, 7, 8, 9, 10, 11] rfl
    refine wk_vi (As := []) (rest := []) ⟨hx, hb, hml, hown, hts⟩ (c_X11_breaks l dC dI Y a M_g w5 M_saved M_before M_isSaved w6 M_isWithin w7 M_input M_length M_fault M_failed M_signs M_signMany M_column M_loads M_many M_sums M_groups M_at M_told M_toldMany r9 hr10) (cwV 0 hts gX11_show_X11_breaks rfl rfl rfl (by decide +kernel) ⟨Nat.le_of_ble_eq_true rfl, Nat.le_of_ble_eq_true rfl⟩) hK hPc (va_recv hK hP (ci := 11) (q0 := 0) rfl rfl) rfl hl.1 rfl (Nat.le_of_ble_eq_true rfl) dX11_show_59 ⟨Nat.le_of_ble_eq_true rfl, Nat.le_of_ble_eq_true rfl⟩ ?_
    refine lv_if_ge (tgt := 73) hx hb dX11_show_62 (by decide) (fun q11 => ?_) (fun q11 => ?_)
    · have hf := wk_t hf q11
      refine lv_aload_n hx hb dX11_show_73 rfl (lv_at hl 0 rfl) ?_
      obtain ⟨r12, w13, hr14, hf⟩ := wkb2_s hf
      refine wk_evi (As := []) (rest := []) (wc := (wX11 Y a M_g w5 M_saved M_before M_isSaved w6 M_isWithin w7 M_input M_length M_fault M_failed M_signs M_signMany M_column M_loads M_many M_sums M_groups M_at M_told M_toldMany)) (w1 := (wX11 Y a w13 w5 M_saved M_before M_isSaved w6 M_isWithin w7 M_input M_length M_fault M_failed M_signs M_signMany M_column M_loads M_many M_sums M_groups M_at M_told M_toldMany)) (wr := []) ⟨hx, hb, hml, hown, hts⟩ (c_X11_falls l dC dI Y a M_g w5 M_saved M_before M_isSaved w6 M_isWithin w7 M_input M_length M_fault M_failed M_signs M_signMany M_column M_loads M_many M_sums M_groups M_at M_told M_toldMany H.size r12 w13 hr14) (cwV 0 hts gX11_show_X11_falls rfl rfl rfl (by decide +kernel) ⟨Nat.le_of_ble_eq_true rfl, Nat.le_of_ble_eq_true rfl⟩) hK hP hD hS hA [0, 1, 2, 3, 4, 5, 6, 7, 8, 9, 10, 11] [] rfl rfl (by decide) (by decide) (by decide) (va_recv hK hP (ci := 11) (q0 := 0) rfl rfl) rfl hl.1 rfl (Nat.le_of_ble_eq_true rfl) dX11_show_74 ⟨Nat.le_of_ble_eq_true rfl, Nat.le_of_ble_eq_true rfl⟩ (fun H locs hP hD hS => ?_)
      have hP : va_P (dC, dI) vwCl [(a 0, .inr (11, [.ref (a 1), .ref (a 2), .ref (a 3), .ref (a 4), .int M_isSaved, .int w6, .int M_isWithin, .int w7, .ref (a 5), .int M_length, .int M_fault, .int M_failed, .ref (a 6), .int M_signMany, .ref (a 7), .ref (a 8), .int M_many, .ref (a 9), .ref (a 10), .int M_at, .ref (a 11), .int M_toldMany])), (a 1, .inl (Y 0, 238, .inl w13)), (a 2, .inl (Y 0, 1904, .inl w5)), (a 3, .inl (Y 0, 238, .inl M_saved)), (a 4, .inl (Y 0, 238, .inl M_before)), (a 5, .inl (Y 0, 60, .inl M_input)), (a 6, .inl (Y 2, 100, .inl M_signs)), (a 7, .inl (Y 0, 6, .inl M_column)), (a 8, .inl (Y 0, 6, .inl M_loads)), (a 9, .inl (Y 0, 2048, .inl M_sums)), (a 10, .inl (Y 0, 2048, .inl M_groups)), (a 11, .inl (Y 0, 155, .inl M_told))] H := hP
      have hD : va_D A [(a 0, .inr (11, [.ref (a 1), .ref (a 2), .ref (a 3), .ref (a 4), .int M_isSaved, .int w6, .int M_isWithin, .int w7, .ref (a 5), .int M_length, .int M_fault, .int M_failed, .ref (a 6), .int M_signMany, .ref (a 7), .ref (a 8), .int M_many, .ref (a 9), .ref (a 10), .int M_at, .ref (a 11), .int M_toldMany])), (a 1, .inl (Y 0, 238, .inl w13)), (a 2, .inl (Y 0, 1904, .inl w5)), (a 3, .inl (Y 0, 238, .inl M_saved)), (a 4, .inl (Y 0, 238, .inl M_before)), (a 5, .inl (Y 0, 60, .inl M_input)), (a 6, .inl (Y 2, 100, .inl M_signs)), (a 7, .inl (Y 0, 6, .inl M_column)), (a 8, .inl (Y 0, 6, .inl M_loads)), (a 9, .inl (Y 0, 2048, .inl M_sums)), (a 10, .inl (Y 0, 2048, .inl M_groups)), (a 11, .inl (Y 0, 155, .inl M_told))] := hD
      exact wl_X11_show_L77 C0 hK hA r12 w13 w5 w6 w7 M_column M_loads M_many hf H locs hP hD hS ls (lv_sub hl [0] rfl)
    · have hf := wk_f hf q11
      refine lv_aload_n hx hb dX11_show_65 rfl (lv_at hl 0 rfl) ?_
      refine lv_iload_n hx hb dX11_show_66 rfl (lv_at hl 1 rfl) ?_
      obtain ⟨r15, w16, hr17, hf⟩ := wkb2_s hf
      refine wk_evi (As := [.int x1]) (rest := []) (wc := (wX11 Y a M_g w5 M_saved M_before M_isSaved w6 M_isWithin w7 M_input M_length M_fault M_failed M_signs M_signMany M_column M_loads M_many M_sums M_groups M_at M_told M_toldMany)) (w1 := (wX11 Y a w16 w5 M_saved M_before M_isSaved w6 M_isWithin w7 M_input M_length M_fault M_failed M_signs M_signMany M_column M_loads M_many M_sums M_groups M_at M_told M_toldMany)) (wr := []) ⟨hx, hb, hml, hown, hts⟩ (c_X11_stands l dC dI Y a M_g w5 M_saved M_before M_isSaved w6 M_isWithin w7 M_input M_length M_fault M_failed M_signs M_signMany M_column M_loads M_many M_sums M_groups M_at M_told M_toldMany x1 H.size r15 w16 hr17) (cwV 1 hts gX11_show_X11_stands rfl rfl rfl (by decide +kernel) ⟨Nat.le_of_ble_eq_true rfl, Nat.le_of_ble_eq_true rfl⟩) hK hP hD hS hA [0, 1, 2, 3, 4, 5, 6, 7, 8, 9, 10, 11] [] rfl rfl (by decide) (by decide) (by decide) (va_recv hK hP (ci := 11) (q0 := 0) rfl rfl) rfl hl.1 rfl (Nat.le_of_ble_eq_true rfl) dX11_show_67 ⟨Nat.le_of_ble_eq_true rfl, Nat.le_of_ble_eq_true rfl⟩ (fun H locs hP hD hS => ?_)
      have hP : va_P (dC, dI) vwCl [(a 0, .inr (11, [.ref (a 1), .ref (a 2), .ref (a 3), .ref (a 4), .int M_isSaved, .int w6, .int M_isWithin, .int w7, .ref (a 5), .int M_length, .int M_fault, .int M_failed, .ref (a 6), .int M_signMany, .ref (a 7), .ref (a 8), .int M_many, .ref (a 9), .ref (a 10), .int M_at, .ref (a 11), .int M_toldMany])), (a 1, .inl (Y 0, 238, .inl w16)), (a 2, .inl (Y 0, 1904, .inl w5)), (a 3, .inl (Y 0, 238, .inl M_saved)), (a 4, .inl (Y 0, 238, .inl M_before)), (a 5, .inl (Y 0, 60, .inl M_input)), (a 6, .inl (Y 2, 100, .inl M_signs)), (a 7, .inl (Y 0, 6, .inl M_column)), (a 8, .inl (Y 0, 6, .inl M_loads)), (a 9, .inl (Y 0, 2048, .inl M_sums)), (a 10, .inl (Y 0, 2048, .inl M_groups)), (a 11, .inl (Y 0, 155, .inl M_told))] H := hP
      have hD : va_D A [(a 0, .inr (11, [.ref (a 1), .ref (a 2), .ref (a 3), .ref (a 4), .int M_isSaved, .int w6, .int M_isWithin, .int w7, .ref (a 5), .int M_length, .int M_fault, .int M_failed, .ref (a 6), .int M_signMany, .ref (a 7), .ref (a 8), .int M_many, .ref (a 9), .ref (a 10), .int M_at, .ref (a 11), .int M_toldMany])), (a 1, .inl (Y 0, 238, .inl w16)), (a 2, .inl (Y 0, 1904, .inl w5)), (a 3, .inl (Y 0, 238, .inl M_saved)), (a 4, .inl (Y 0, 238, .inl M_before)), (a 5, .inl (Y 0, 60, .inl M_input)), (a 6, .inl (Y 2, 100, .inl M_signs)), (a 7, .inl (Y 0, 6, .inl M_column)), (a 8, .inl (Y 0, 6, .inl M_loads)), (a 9, .inl (Y 0, 2048, .inl M_sums)), (a 10, .inl (Y 0, 2048, .inl M_groups)), (a 11, .inl (Y 0, 155, .inl M_told))] := hD
      refine lv_goto (tgt := 77) hx hb dX11_show_70 (by decide) ?_
      exact wl_X11_show_L77 C0 hK hA r15 w16 w5 w6 w7 M_column M_loads M_many hf H locs hP hD hS ls (lv_sub hl [0] rfl)
  · have hf := wk_f hf q4
    refine lv_iconst (v := 0) hx hb dX11_show_48 (by decide) ?_
    obtain ⟨e0, e1, e2, e3, e4, e5, e6, e7⟩ := wke8 hf
    subst e0
    subst e1
    subst e2
    subst e3
    subst e4
    subst e5
    subst e6
    subst e7
    have hP9 := hP.sub (ws' := (wX11 Y a M_g M_kept M_saved M_before M_isSaved M_changes M_isWithin w2 M_input M_length M_fault M_failed M_signs M_signMany M_column M_loads M_many M_sums M_groups M_at M_told M_toldMany)) [0, 1, 2, 3, 4, 5, 6, 7, 8, 9, 10, 11] rfl
    have hD9 := hD.sub (ws' := (wX11 Y a M_g M_kept M_saved M_before M_isSaved M_changes M_isWithin w2 M_input M_length M_fault M_failed M_signs M_signMany M_column M_loads M_many M_sums M_groups M_at M_told M_toldMany)) [0, 1, 2, 3, 4, 5, 6, 7, 8, 9, 10, 11] (by decide) rfl
    exact W.iret (v := 0) hx hb hr (fun t ht hW => ⟨⟨0, (), rfl, rfl, by rw [ht]; exact hP9, va_K.moved hW.alike hK, hD9⟩, hS.F ht⟩) hS.2.2 dX11_show_49
set_option maxHeartbeats 4000000 in
set_option maxRecDepth 100000 in
theorem c_X11_show (l : Launch) (dC : Nat → ClassId) (dI : Nat → Nat → Nat) (Y : Nat → ClassId) (a : Nat → Nat) (M_g : Nat → Int32) (M_kept : Nat → Int32) (M_saved : Nat → Int32) (M_before : Nat → Int32) (M_isSaved : Int32) (M_changes : Int32) (M_isWithin : Int32) (M_code : Int32) (M_input : Nat → Int32) (M_length : Int32) (M_fault : Int32) (M_failed : Int32) (M_signs : Nat → Int32) (M_signMany : Int32) (M_column : Nat → Int32) (M_loads : Nat → Int32) (M_many : Int32) (M_sums : Nat → Int32) (M_groups : Nat → Int32) (M_at : Int32) (M_told : Nat → Int32) (M_toldMany : Int32) (x1 : Int32) (sz : Nat) (r : Int32) (zM_g : Nat → Int32) (zM_kept : Nat → Int32) (zM_changes : Int32) (zM_code : Int32) (zM_column : Nat → Int32) (zM_loads : Nat → Int32) (zM_many : Int32) (hf : f_X11_show M_g M_kept M_changes M_isWithin M_code M_column M_loads M_many x1 = some (r, zM_g, zM_kept, zM_changes, zM_code, zM_column, zM_loads, zM_many)) : Met l yX11_show wsX11_show ({ frames := 4, cells := 0, slots := 0, locals := 89 } : Room) (va_Pc [.ref (a 0), .int x1] (wk_E (dC, dI) Y (wX11 Y a M_g M_kept M_saved M_before M_isSaved M_changes M_isWithin M_code M_input M_length M_fault M_failed M_signs M_signMany M_column M_loads M_many M_sums M_groups M_at M_told M_toldMany) sz)) (va_Qi (fun r2 (_ : Unit) => r2 = r) (fun _ t => wk_X (dC, dI) Y (wX11 Y a zM_g zM_kept M_saved M_before M_isSaved zM_changes M_isWithin zM_code M_input M_length M_fault M_failed M_signs M_signMany zM_column zM_loads zM_many M_sums M_groups M_at M_told M_toldMany) (va_A (wX11 Y a M_g M_kept M_saved M_before M_isSaved M_changes M_isWithin M_code M_input M_length M_fault M_failed M_signs M_signMany M_column M_loads M_many M_sums M_groups M_at M_told M_toldMany) sz) t) (va_A (wX11 Y a M_g M_kept M_saved M_before M_isSaved M_changes M_isWithin M_code M_input M_length M_fault M_failed M_signs M_signMany M_column M_loads M_many M_sums M_groups M_at M_told M_toldMany) sz)) 0 0 (va_A (wX11 Y a M_g M_kept M_saved M_before M_isSaved M_changes M_isWithin M_code M_input M_length M_fault M_failed M_signs M_signMany M_column M_loads M_many M_sums M_groups M_at M_told M_toldMany) sz) := by
  refine Met.ofW (cc := cX11_show) (maxL := 4) (ret := (some .int)) (by decide) rfl ?_
  intro p e s m args below meth c s₁ B hml hv
  obtain ⟨rfl, hsz, hP, hK, hD0⟩ := hv
  have hx := B.exec
  have hb := B.bytes
  have hr := B.returns
  have hts := atoms_spec (ws := wsX11_show) B.pre
  have hown : s.vm.findClass RX11 = some m.cls := findClass_of_methodNamed B.named
  have hlocks := B.notSynchronized
  have C0 : wk_C p s m _ meth c cX11_show 4 (some .int) wsX11_show RX11 := ⟨hx, hb, hml, hr, hlocks, hown, hts⟩
  subst hsz
  have hD := hD0.self (sz := s.heap.size)
  generalize hAe : va_A (wX11 Y a M_g M_kept M_saved M_before M_isSaved M_changes M_isWithin M_code M_input M_length M_fault M_failed M_signs M_signMany M_column M_loads M_many M_sums M_groups M_at M_told M_toldMany) s.heap.size = A at hD ⊢
  have hA : ∀ q : Nat, s.heap.size ≤ q → A q := fun q h => by rw [← hAe]; exact Or.inr h
  have hS : va_S A s.heap s.heap [] := va_S.rf
  obtain ⟨H, hHe⟩ : ∃ H, H = s.heap := ⟨_, rfl⟩
  have hS : va_S A s.heap H [] := by rw [hHe]; exact hS
  have hP : va_P (dC, dI) vwCl [(a 0, .inr (11, [.ref (a 1), .ref (a 2), .ref (a 3), .ref (a 4), .int M_isSaved, .int M_changes, .int M_isWithin, .int M_code, .ref (a 5), .int M_length, .int M_fault, .int M_failed, .ref (a 6), .int M_signMany, .ref (a 7), .ref (a 8), .int M_many, .ref (a 9), .ref (a 10), .int M_at, .ref (a 11), .int M_toldMany])), (a 1, .inl (Y 0, 238, .inl M_g)), (a 2, .inl (Y 0, 1904, .inl M_kept)), (a 3, .inl (Y 0, 238, .inl M_saved)), (a 4, .inl (Y 0, 238, .inl M_before)), (a 5, .inl (Y 0, 60, .inl M_input)), (a 6, .inl (Y 2, 100, .inl M_signs)), (a 7, .inl (Y 0, 6, .inl M_column)), (a 8, .inl (Y 0, 6, .inl M_loads)), (a 9, .inl (Y 0, 2048, .inl M_sums)), (a 10, .inl (Y 0, 2048, .inl M_groups)), (a 11, .inl (Y 0, 155, .inl M_told))] H := by rw [hHe]; exact hP
  have hD : va_D A [(a 0, .inr (11, [.ref (a 1), .ref (a 2), .ref (a 3), .ref (a 4), .int M_isSaved, .int M_changes, .int M_isWithin, .int M_code, .ref (a 5), .int M_length, .int M_fault, .int M_failed, .ref (a 6), .int M_signMany, .ref (a 7), .ref (a 8), .int M_many, .ref (a 9), .ref (a 10), .int M_at, .ref (a 11), .int M_toldMany])), (a 1, .inl (Y 0, 238, .inl M_g)), (a 2, .inl (Y 0, 1904, .inl M_kept)), (a 3, .inl (Y 0, 238, .inl M_saved)), (a 4, .inl (Y 0, 238, .inl M_before)), (a 5, .inl (Y 0, 60, .inl M_input)), (a 6, .inl (Y 2, 100, .inl M_signs)), (a 7, .inl (Y 0, 6, .inl M_column)), (a 8, .inl (Y 0, 6, .inl M_loads)), (a 9, .inl (Y 0, 2048, .inl M_sums)), (a 10, .inl (Y 0, 2048, .inl M_groups)), (a 11, .inl (Y 0, 155, .inl M_told))] := hD
  obtain ⟨locs, hlo⟩ : ∃ locs : List Loc, locs = [] := ⟨_, rfl⟩
  have hS : va_S A s.heap H locs := by rw [hlo]; exact hS
  have hl := lv_entry ([.ref (a 0), .int x1]) (n := 4) (Nat.le_of_ble_eq_true rfl)
  rw [lg_entry_eq]
  generalize (lg_sl ([.ref (a 0), .int x1]) ++ List.replicate (4 - (lg_sl ([.ref (a 0), .int x1])).length) Slot.unset).toArray = ls at hl ⊢
  have hl : lv_has ls 4 [(0, .ref (a 0)), (1, .int x1)] := hl
  refine wk_start hHe hlo ?_
  rw [f_X11_show] at hf
  refine lv_aload_n hx hb dX11_show_0 rfl (lv_at hl 0 rfl) ?_
  refine lv_iload_n hx hb dX11_show_1 rfl (lv_at hl 1 rfl) ?_
  obtain ⟨r1, w2, w3, w4, w5, hr6, hf⟩ := wkb5_s hf
  refine wk_evi (As := [.int x1]) (rest := []) (wc := (wX11 Y a M_g M_kept M_saved M_before M_isSaved M_changes M_isWithin M_code M_input M_length M_fault M_failed M_signs M_signMany M_column M_loads M_many M_sums M_groups M_at M_told M_toldMany)) (w1 := (wX11 Y a M_g M_kept M_saved M_before M_isSaved M_changes M_isWithin w2 M_input M_length M_fault M_failed M_signs M_signMany w3 w4 w5 M_sums M_groups M_at M_told M_toldMany)) (wr := []) ⟨hx, hb, hml, hown, hts⟩ (c_X11_isWrong l dC dI Y a M_g M_kept M_saved M_before M_isSaved M_changes M_isWithin M_code M_input M_length M_fault M_failed M_signs M_signMany M_column M_loads M_many M_sums M_groups M_at M_told M_toldMany x1 H.size r1 w2 w3 w4 w5 hr6) (cwV 1 hts gX11_show_X11_isWrong rfl rfl rfl (by decide +kernel) ⟨Nat.le_of_ble_eq_true rfl, Nat.le_of_ble_eq_true rfl⟩) hK hP hD hS hA [0, 1, 2, 3, 4, 5, 6, 7, 8, 9, 10, 11] [] rfl rfl (by decide) (by decide) (by decide) (va_recv hK hP (ci := 11) (q0 := 0) rfl rfl) rfl hl.1 rfl (Nat.le_of_ble_eq_true rfl) dX11_show_2 ⟨Nat.le_of_ble_eq_true rfl, Nat.le_of_ble_eq_true rfl⟩ (fun H locs hP hD hS => ?_)
  have hP : va_P (dC, dI) vwCl [(a 0, .inr (11, [.ref (a 1), .ref (a 2), .ref (a 3), .ref (a 4), .int M_isSaved, .int M_changes, .int M_isWithin, .int w2, .ref (a 5), .int M_length, .int M_fault, .int M_failed, .ref (a 6), .int M_signMany, .ref (a 7), .ref (a 8), .int w5, .ref (a 9), .ref (a 10), .int M_at, .ref (a 11), .int M_toldMany])), (a 1, .inl (Y 0, 238, .inl M_g)), (a 2, .inl (Y 0, 1904, .inl M_kept)), (a 3, .inl (Y 0, 238, .inl M_saved)), (a 4, .inl (Y 0, 238, .inl M_before)), (a 5, .inl (Y 0, 60, .inl M_input)), (a 6, .inl (Y 2, 100, .inl M_signs)), (a 7, .inl (Y 0, 6, .inl w3)), (a 8, .inl (Y 0, 6, .inl w4)), (a 9, .inl (Y 0, 2048, .inl M_sums)), (a 10, .inl (Y 0, 2048, .inl M_groups)), (a 11, .inl (Y 0, 155, .inl M_told))] H := hP
  have hD : va_D A [(a 0, .inr (11, [.ref (a 1), .ref (a 2), .ref (a 3), .ref (a 4), .int M_isSaved, .int M_changes, .int M_isWithin, .int w2, .ref (a 5), .int M_length, .int M_fault, .int M_failed, .ref (a 6), .int M_signMany, .ref (a 7), .ref (a 8), .int w5, .ref (a 9), .ref (a 10), .int M_at, .ref (a 11), .int M_toldMany])), (a 1, .inl (Y 0, 238, .inl M_g)), (a 2, .inl (Y 0, 1904, .inl M_kept)), (a 3, .inl (Y 0, 238, .inl M_saved)), (a 4, .inl (Y 0, 238, .inl M_before)), (a 5, .inl (Y 0, 60, .inl M_input)), (a 6, .inl (Y 2, 100, .inl M_signs)), (a 7, .inl (Y 0, 6, .inl w3)), (a 8, .inl (Y 0, 6, .inl w4)), (a 9, .inl (Y 0, 2048, .inl M_sums)), (a 10, .inl (Y 0, 2048, .inl M_groups)), (a 11, .inl (Y 0, 155, .inl M_told))] := hD
  refine lv_if_ne (tgt := 48) hx hb dX11_show_5 (by decide) (fun q7 => ?_) (fun q7 => ?_)
  · have hf := wk_f hf q7
    refine lv_iconst (v := 0) hx hb dX11_show_48 (by decide) ?_
    obtain ⟨e0, e1, e2, e3, e4, e5, e6, e7⟩ := wke8 hf
    subst e0
    subst e1
    subst e2
    subst e3
    subst e4
    subst e5
    subst e6
    subst e7
    have hP9 := hP.sub (ws' := (wX11 Y a M_g M_kept M_saved M_before M_isSaved M_changes M_isWithin w2 M_input M_length M_fault M_failed M_signs M_signMany w3 w4 w5 M_sums M_groups M_at M_told M_toldMany)) [0, 1, 2, 3, 4, 5, 6, 7, 8, 9, 10, 11] rfl
    have hD9 := hD.sub (ws' := (wX11 Y a M_g M_kept M_saved M_before M_isSaved M_changes M_isWithin w2 M_input M_length M_fault M_failed M_signs M_signMany w3 w4 w5 M_sums M_groups M_at M_told M_toldMany)) [0, 1, 2, 3, 4, 5, 6, 7, 8, 9, 10, 11] (by decide) rfl
    exact W.iret (v := 0) hx hb hr (fun t ht hW => ⟨⟨0, (), rfl, rfl, by rw [ht]; exact hP9, va_K.moved hW.alike hK, hD9⟩, hS.F ht⟩) hS.2.2 dX11_show_49
  · have hf := wk_t hf q7
    refine lv_aload_n hx hb dX11_show_8 rfl (lv_at hl 0 rfl) ?_
    refine lv_aload_n hx hb dX11_show_9 rfl (lv_at hl 0 rfl) ?_
    refine lv_iload_n hx hb dX11_show_10 rfl (lv_at hl 1 rfl) ?_
    obtain ⟨r8, hr9, hf⟩ := wkb1_s hf
    have hPc := hP.sub (ws' := (wX11 Y a M_g M_kept M_saved M_before M_isSaved M_changes M_isWithin w2 M_input M_length M_fault M_failed M_signs M_signMany w3 w4 w5 M_sums M_groups M_at M_told M_toldMany)) [0, 1, 2, 3, 4, 5, 6, 7, 8, 9, 10, 11] rfl
    refine wk_vi (As := [.int x1]) (rest := [.ref (a 0)]) ⟨hx, hb, hml, hown, hts⟩ (c_X11_areHurt l dC dI Y a M_g M_kept M_saved M_before M_isSaved M_changes M_isWithin w2 M_input M_length M_fault M_failed M_signs M_signMany w3 w4 w5 M_sums M_groups M_at M_told M_toldMany x1 r8 hr9) (cwV 1 hts gX11_show_X11_areHurt rfl rfl rfl (by decide +kernel) ⟨Nat.le_of_ble_eq_true rfl, Nat.le_of_ble_eq_true rfl⟩) hK hPc (va_recv hK hP (ci := 11) (q0 := 0) rfl rfl) rfl hl.1 rfl (Nat.le_of_ble_eq_true rfl) dX11_show_11 ⟨Nat.le_of_ble_eq_true rfl, Nat.le_of_ble_eq_true rfl⟩ ?_
    refine lv_if_eq (tgt := 21) hx hb dX11_show_14 (by decide) (fun q10 => ?_) (fun q10 => ?_)
    · have hf := wk_t hf q10
      refine lv_aload_n hx hb dX11_show_21 rfl (lv_at hl 0 rfl) ?_
      refine va_get (D := (dC, dI)) (ci := 11) (v := .ref (a 1)) (C := RX11) (T := TX11) (N := 22) hx hb hts in_X11_show_X11 hown hK hP 0 rfl rfl 0 (by decide) (hts _ lk_X11_show_RX11_7) (fun _ h9 => h9) rfl dX11_show_22 ?_
      refine lv_iconst (v := 3) hx hb dX11_show_25 (by decide) ?_
      refine wk_iald hx hb hK hP 1 0 (k := 3) rfl rfl (vp_lit (by decide)) (by decide) dX11_show_26 ?_
      refine lv_aload_n hx hb dX11_show_27 rfl (lv_at hl 0 rfl) ?_
      obtain ⟨r11, hr12, hf⟩ := wkb1_s hf
      have hPc := hP.sub (ws' := (wX11 Y a M_g M_kept M_saved M_before M_isSaved M_changes M_isWithin w2 M_input M_length M_fault M_failed M_signs M_signMany w3 w4 w5 M_sums M_groups M_at M_told M_toldMany)) [0, 1, 2, 3, 4, 5, 6, 7, 8, 9, 10, 11] rfl
      refine wk_vi (As := []) (rest := [.int (M_g 3), .ref (a 0)]) ⟨hx, hb, hml, hown, hts⟩ (c_X11_entriesOf l dC dI Y a M_g M_kept M_saved M_before M_isSaved M_changes M_isWithin w2 M_input M_length M_fault M_failed M_signs M_signMany w3 w4 w5 M_sums M_groups M_at M_told M_toldMany r11 hr12) (cwV 0 hts gX11_show_X11_entriesOf rfl rfl rfl (by decide +kernel) ⟨Nat.le_of_ble_eq_true rfl, Nat.le_of_ble_eq_true rfl⟩) hK hPc (va_recv hK hP (ci := 11) (q0 := 0) rfl rfl) rfl hl.1 rfl (Nat.le_of_ble_eq_true rfl) dX11_show_28 ⟨Nat.le_of_ble_eq_true rfl, Nat.le_of_ble_eq_true rfl⟩ ?_
      refine lv_iadd hx hb dX11_show_31 ?_
      refine lv_bipush (v := 60) hx hb dX11_show_32 (by decide) ?_
      refine lv_icmp_le (tgt := 41) hx hb dX11_show_34 (by decide) (fun q13 => ?_) (fun q13 => ?_)
      · have hf := wk_t hf q13
        refine lv_iconst (v := 0) hx hb dX11_show_41 (by decide) ?_
        exact wl_X11_show_L42 C0 hK hA 0 M_g M_kept M_changes w2 w3 w4 w5 hf H locs hP hD hS ls (lv_sub hl [0, 1] rfl)
      · have hf := wk_f hf q13
        refine lv_iconst (v := 3) hx hb dX11_show_37 (by decide) ?_
        refine lv_goto (tgt := 42) hx hb dX11_show_38 (by decide) ?_
        exact wl_X11_show_L42 C0 hK hA 3 M_g M_kept M_changes w2 w3 w4 w5 hf H locs hP hD hS ls (lv_sub hl [0, 1] rfl)
    · have hf := wk_f hf q10
      refine lv_iconst (v := 2) hx hb dX11_show_17 (by decide) ?_
      refine lv_goto (tgt := 42) hx hb dX11_show_18 (by decide) ?_
      exact wl_X11_show_L42 C0 hK hA 2 M_g M_kept M_changes w2 w3 w4 w5 hf H locs hP hD hS ls (lv_sub hl [0, 1] rfl)
theorem lk_X11_setNet_RX11_7 : Cond.fieldLink RX11 7 "CircusLedgerModel" "g" "[I" ∈ wsX11_setNet := by decide +kernel
theorem in_X11_setNet_X11 : ∀ w ∈ u_ws RX11 TX11 22, w ∈ wsX11_setNet := by decide +kernel
def f_X11_setNet_L15 (M_isWithin : Int32) (x1 : Int32) (y0 : Int32) (M_g : (Nat → Int32)) (M_kept : (Nat → Int32)) (M_changes : Int32) (M_code : Int32) : Option (Int32 × (Nat → Int32) × (Nat → Int32) × Int32 × Int32) :=
    wkb2 (f_X11_fails M_code y0) (fun r1 w2 =>
    if r1 = 0 then
      (wkb3 (f_X11_keeps_g M_g M_kept M_changes M_isWithin w2) (fun w5 w6 w7 =>
      wkl (upd M_g 2 x1) (fun g9 =>
      some ((M_g 2), g9, w5, w6, w7))))
    else
      (some (0, M_g, M_kept, M_changes, w2)))
def f_X11_setNet (M_g : Nat → Int32) (M_kept : Nat → Int32) (M_changes : Int32) (M_isWithin : Int32) (M_code : Int32) (x1 : Int32) : Option (Int32 × (Nat → Int32) × (Nat → Int32) × Int32 × Int32) :=
  wkb1 (f_X11_in x1 0 5) (fun r1 =>
  if r1 = 0 then
    (f_X11_setNet_L15 M_isWithin x1 1 M_g M_kept M_changes M_code)
  else
    (f_X11_setNet_L15 M_isWithin x1 0 M_g M_kept M_changes M_code))
set_option maxHeartbeats 4000000 in
set_option maxRecDepth 100000 in
theorem wl_X11_setNet_L15 {p : Program} {l : Launch} {e : Env} {s : State} {m : MethodId} {args : Array Value} {below : List Frame} {meth : Method} {c : Code} {dC : Nat → ClassId} {dI : Nat → Nat → Nat} {Y : Nat → ClassId} {a : Nat → Nat} {M_saved : Nat → Int32} {M_before : Nat → Int32} {M_isSaved : Int32} {M_isWithin : Int32} {M_input : Nat → Int32} {M_length : Int32} {M_fault : Int32} {M_failed : Int32} {M_signs : Nat → Int32} {M_signMany : Int32} {M_column : Nat → Int32} {M_loads : Nat → Int32} {M_many : Int32} {M_sums : Nat → Int32} {M_groups : Nat → Int32} {M_at : Int32} {M_told : Nat → Int32} {M_toldMany : Int32} {x1 : Int32} {r : Int32} {zM_g : Nat → Int32} {zM_kept : Nat → Int32} {zM_changes : Int32} {zM_code : Int32}  (C0 : wk_C p s m args meth c cX11_setNet 3 (some .int) wsX11_setNet RX11) {A : Nat → Prop} (hK : va_K (dC, dI) vwCl (vTy Y) s) (hA : ∀ q, s.heap.size ≤ q → A q) : ∀  (y0 : Int32) (M_g : Nat → Int32) (M_kept : Nat → Int32) (M_changes : Int32) (M_code : Int32), f_X11_setNet_L15 M_isWithin x1 y0 M_g M_kept M_changes M_code = some (r, zM_g, zM_kept, zM_changes, zM_code) → ∀ (H : Heap) (locs : List Loc), va_P (dC, dI) vwCl (wX11 Y a M_g M_kept M_saved M_before M_isSaved M_changes M_isWithin M_code M_input M_length M_fault M_failed M_signs M_signMany M_column M_loads M_many M_sums M_groups M_at M_told M_toldMany) H → va_D A (wX11 Y a M_g M_kept M_saved M_before M_isSaved M_changes M_isWithin M_code M_input M_length M_fault M_failed M_signs M_signMany M_column M_loads M_many M_sums M_groups M_at M_told M_toldMany) → va_S A s.heap H locs → ∀ (ls : Array Slot), lv_has ls 3 [(0, .ref (a 0)), (1, .int x1)] → W p l e (headSpec wsX11_setNet ({ frames := 2, cells := 0, slots := 0, locals := 46 } : Room)).room s m args below meth c H locs 0 0 (MQ below (va_Qi (fun r2 (_ : Unit) => r2 = r) (fun _ t => wk_X (dC, dI) Y (wX11 Y a zM_g zM_kept M_saved M_before M_isSaved zM_changes M_isWithin zM_code M_input M_length M_fault M_failed M_signs M_signMany M_column M_loads M_many M_sums M_groups M_at M_told M_toldMany) A t) A) args s 0 0 A) (F0 m 15 ls [.int y0, .ref (a 0)]) := by
  obtain ⟨hx, hb, hml, hr, hlocks, hown, hts⟩ := id C0
  intro y0 M_g M_kept M_changes M_code hf H locs hP hD hS ls hl
  rw [f_X11_setNet_L15] at hf
  have hP : va_P (dC, dI) vwCl [(a 0, .inr (11, [.ref (a 1), .ref (a 2), .ref (a 3), .ref (a 4), .int M_isSaved, .int M_changes, .int M_isWithin, .int M_code, .ref (a 5), .int M_length, .int M_fault, .int M_failed, .ref (a 6), .int M_signMany, .ref (a 7), .ref (a 8), .int M_many, .ref (a 9), .ref (a 10), .int M_at, .ref (a 11), .int M_toldMany])), (a 1, .inl (Y 0, 238, .inl M_g)), (a 2, .inl (Y 0, 1904, .inl M_kept)), (a 3, .inl (Y 0, 238, .inl M_saved)), (a 4, .inl (Y 0, 238, .inl M_before)), (a 5, .inl (Y 0, 60, .inl M_input)), (a 6, .inl (Y 2, 100, .inl M_signs)), (a 7, .inl (Y 0, 6, .inl M_column)), (a 8, .inl (Y 0, 6, .inl M_loads)), (a 9, .inl (Y 0, 2048, .inl M_sums)), (a 10, .inl (Y 0, 2048, .inl M_groups)), (a 11, .inl (Y 0, 155, .inl M_told))] H := hP
  have hD : va_D A [(a 0, .inr (11, [.ref (a 1), .ref (a 2), .ref (a 3), .ref (a 4), .int M_isSaved, .int M_changes, .int M_isWithin, .int M_code, .ref (a 5), .int M_length, .int M_fault, .int M_failed, .ref (a 6), .int M_signMany, .ref (a 7), .ref (a 8), .int M_many, .ref (a 9), .ref (a 10), .int M_at, .ref (a 11), .int M_toldMany])), (a 1, .inl (Y 0, 238, .inl M_g)), (a 2, .inl (Y 0, 1904, .inl M_kept)), (a 3, .inl (Y 0, 238, .inl M_saved)), (a 4, .inl (Y 0, 238, .inl M_before)), (a 5, .inl (Y 0, 60, .inl M_input)), (a 6, .inl (Y 2, 100, .inl M_signs)), (a 7, .inl (Y 0, 6, .inl M_column)), (a 8, .inl (Y 0, 6, .inl M_loads)), (a 9, .inl (Y 0, 2048, .inl M_sums)), (a 10, .inl (Y 0, 2048, .inl M_groups)), (a 11, .inl (Y 0, 155, .inl M_told))] := hD
  obtain ⟨r1, w2, hr3, hf⟩ := wkb2_s hf
  refine wk_evi (As := [.int y0]) (rest := []) (wc := (wX11 Y a M_g M_kept M_saved M_before M_isSaved M_changes M_isWithin M_code M_input M_length M_fault M_failed M_signs M_signMany M_column M_loads M_many M_sums M_groups M_at M_told M_toldMany)) (w1 := (wX11 Y a M_g M_kept M_saved M_before M_isSaved M_changes M_isWithin w2 M_input M_length M_fault M_failed M_signs M_signMany M_column M_loads M_many M_sums M_groups M_at M_told M_toldMany)) (wr := []) ⟨hx, hb, hml, hown, hts⟩ (c_X11_fails l dC dI Y a M_g M_kept M_saved M_before M_isSaved M_changes M_isWithin M_code M_input M_length M_fault M_failed M_signs M_signMany M_column M_loads M_many M_sums M_groups M_at M_told M_toldMany y0 H.size r1 w2 hr3) (cwV 1 hts gX11_setNet_X11_fails rfl rfl rfl (by decide +kernel) ⟨Nat.le_of_ble_eq_true rfl, Nat.le_of_ble_eq_true rfl⟩) hK hP hD hS hA [0, 1, 2, 3, 4, 5, 6, 7, 8, 9, 10, 11] [] rfl rfl (by decide) (by decide) (by decide) (va_recv hK hP (ci := 11) (q0 := 0) rfl rfl) rfl hl.1 rfl (Nat.le_of_ble_eq_true rfl) dX11_setNet_15 ⟨Nat.le_of_ble_eq_true rfl, Nat.le_of_ble_eq_true rfl⟩ (fun H locs hP hD hS => ?_)
  have hP : va_P (dC, dI) vwCl [(a 0, .inr (11, [.ref (a 1), .ref (a 2), .ref (a 3), .ref (a 4), .int M_isSaved, .int M_changes, .int M_isWithin, .int w2, .ref (a 5), .int M_length, .int M_fault, .int M_failed, .ref (a 6), .int M_signMany, .ref (a 7), .ref (a 8), .int M_many, .ref (a 9), .ref (a 10), .int M_at, .ref (a 11), .int M_toldMany])), (a 1, .inl (Y 0, 238, .inl M_g)), (a 2, .inl (Y 0, 1904, .inl M_kept)), (a 3, .inl (Y 0, 238, .inl M_saved)), (a 4, .inl (Y 0, 238, .inl M_before)), (a 5, .inl (Y 0, 60, .inl M_input)), (a 6, .inl (Y 2, 100, .inl M_signs)), (a 7, .inl (Y 0, 6, .inl M_column)), (a 8, .inl (Y 0, 6, .inl M_loads)), (a 9, .inl (Y 0, 2048, .inl M_sums)), (a 10, .inl (Y 0, 2048, .inl M_groups)), (a 11, .inl (Y 0, 155, .inl M_told))] H := hP
  have hD : va_D A [(a 0, .inr (11, [.ref (a 1), .ref (a 2), .ref (a 3), .ref (a 4), .int M_isSaved, .int M_changes, .int M_isWithin, .int w2, .ref (a 5), .int M_length, .int M_fault, .int M_failed, .ref (a 6), .int M_signMany, .ref (a 7), .ref (a 8), .int M_many, .ref (a 9), .ref (a 10), .int M_at, .ref (a 11), .int M_toldMany])), (a 1, .inl (Y 0, 238, .inl M_g)), (a 2, .inl (Y 0, 1904, .inl M_kept)), (a 3, .inl (Y 0, 238, .inl M_saved)), (a 4, .inl (Y 0, 238, .inl M_before)), (a 5, .inl (Y 0, 60, .inl M_input)), (a 6, .inl (Y 2, 100, .inl M_signs)), (a 7, .inl (Y 0, 6, .inl M_column)), (a 8, .inl (Y 0, 6, .inl M_loads)), (a 9, .inl (Y 0, 2048, .inl M_sums)), (a 10, .inl (Y 0, 2048, .inl M_groups)), (a 11, .inl (Y 0, 155, .inl M_told))] := hD
  refine lv_if_eq (tgt := 23) hx hb dX11_setNet_18 (by decide) (fun q4 => ?_) (fun q4 => ?_)
  · have hf := wk_t hf q4
    refine lv_aload_n hx hb dX11_setNet_23 rfl (lv_at hl 0 rfl) ?_
    refine va_get (D := (dC, dI)) (ci := 11) (v := .ref (a 1)) (C := RX11) (T := TX11) (N := 22) hx hb hts in_X11_setNet_X11 hown hK hP 0 rfl rfl 0 (by decide) (hts _ lk_X11_setNet_RX11_7) (fun _ h9 => h9) rfl dX11_setNet_24 ?_
    refine lv_iconst (v := 2) hx hb dX11_setNet_27 (by decide) ?_
    refine wk_iald hx hb hK hP 1 0 (k := 2) rfl rfl (vp_lit (by decide)) (by decide) dX11_setNet_28 ?_
    refine lv_istore_n (lv' := [(2, .int (M_g 2)), (0, .ref (a 0)), (1, .int x1)]) hx hb dX11_setNet_29 rfl hl (by decide) rfl (fun ls hl => ?_)
    refine lv_aload_n hx hb dX11_setNet_30 rfl (lv_at hl 1 rfl) ?_
    refine lv_aload_n hx hb dX11_setNet_31 rfl (lv_at hl 1 rfl) ?_
    refine va_get (D := (dC, dI)) (ci := 11) (v := .ref (a 1)) (C := RX11) (T := TX11) (N := 22) hx hb hts in_X11_setNet_X11 hown hK hP 0 rfl rfl 0 (by decide) (hts _ lk_X11_setNet_RX11_7) (fun _ h9 => h9) rfl dX11_setNet_32 ?_
    obtain ⟨w5, w6, w7, hr8, hf⟩ := wkb3_s hf
    refine wk_evv (As := [.ref (a 1)]) (rest := []) (wc := (wX11 Y a M_g M_kept M_saved M_before M_isSaved M_changes M_isWithin w2 M_input M_length M_fault M_failed M_signs M_signMany M_column M_loads M_many M_sums M_groups M_at M_told M_toldMany)) (w1 := (wX11 Y a M_g w5 M_saved M_before M_isSaved w6 M_isWithin w7 M_input M_length M_fault M_failed M_signs M_signMany M_column M_loads M_many M_sums M_groups M_at M_told M_toldMany)) (wr := []) ⟨hx, hb, hml, hown, hts⟩ (c_X11_keeps_g l dC dI Y a M_g M_kept M_saved M_before M_isSaved M_changes M_isWithin w2 M_input M_length M_fault M_failed M_signs M_signMany M_column M_loads M_many M_sums M_groups M_at M_told M_toldMany H.size w5 w6 w7 hr8) (cwV 1 hts gX11_setNet_X11_keeps rfl rfl rfl (by decide +kernel) ⟨Nat.le_of_ble_eq_true rfl, Nat.le_of_ble_eq_true rfl⟩) hK hP hD hS hA [0, 1, 2, 3, 4, 5, 6, 7, 8, 9, 10, 11] [] rfl rfl (by decide) (by decide) (by decide) (va_recv hK hP (ci := 11) (q0 := 0) rfl rfl) rfl hl.1 rfl (Nat.le_of_ble_eq_true rfl) dX11_setNet_35 ⟨Nat.le_of_ble_eq_true rfl, Nat.le_of_ble_eq_true rfl⟩ (fun H locs hP hD hS => ?_)
    have hP : va_P (dC, dI) vwCl [(a 0, .inr (11, [.ref (a 1), .ref (a 2), .ref (a 3), .ref (a 4), .int M_isSaved, .int w6, .int M_isWithin, .int w7, .ref (a 5), .int M_length, .int M_fault, .int M_failed, .ref (a 6), .int M_signMany, .ref (a 7), .ref (a 8), .int M_many, .ref (a 9), .ref (a 10), .int M_at, .ref (a 11), .int M_toldMany])), (a 1, .inl (Y 0, 238, .inl M_g)), (a 2, .inl (Y 0, 1904, .inl w5)), (a 3, .inl (Y 0, 238, .inl M_saved)), (a 4, .inl (Y 0, 238, .inl M_before)), (a 5, .inl (Y 0, 60, .inl M_input)), (a 6, .inl (Y 2, 100, .inl M_signs)), (a 7, .inl (Y 0, 6, .inl M_column)), (a 8, .inl (Y 0, 6, .inl M_loads)), (a 9, .inl (Y 0, 2048, .inl M_sums)), (a 10, .inl (Y 0, 2048, .inl M_groups)), (a 11, .inl (Y 0, 155, .inl M_told))] H := hP
    have hD : va_D A [(a 0, .inr (11, [.ref (a 1), .ref (a 2), .ref (a 3), .ref (a 4), .int M_isSaved, .int w6, .int M_isWithin, .int w7, .ref (a 5), .int M_length, .int M_fault, .int M_failed, .ref (a 6), .int M_signMany, .ref (a 7), .ref (a 8), .int M_many, .ref (a 9), .ref (a 10), .int M_at, .ref (a 11), .int M_toldMany])), (a 1, .inl (Y 0, 238, .inl M_g)), (a 2, .inl (Y 0, 1904, .inl w5)), (a 3, .inl (Y 0, 238, .inl M_saved)), (a 4, .inl (Y 0, 238, .inl M_before)), (a 5, .inl (Y 0, 60, .inl M_input)), (a 6, .inl (Y 2, 100, .inl M_signs)), (a 7, .inl (Y 0, 6, .inl M_column)), (a 8, .inl (Y 0, 6, .inl M_loads)), (a 9, .inl (Y 0, 2048, .inl M_sums)), (a 10, .inl (Y 0, 2048, .inl M_groups)), (a 11, .inl (Y 0, 155, .inl M_told))] := hD
    refine lv_aload_n hx hb dX11_setNet_38 rfl (lv_at hl 1 rfl) ?_
    refine va_get (D := (dC, dI)) (ci := 11) (v := .ref (a 1)) (C := RX11) (T := TX11) (N := 22) hx hb hts in_X11_setNet_X11 hown hK hP 0 rfl rfl 0 (by decide) (hts _ lk_X11_setNet_RX11_7) (fun _ h9 => h9) rfl dX11_setNet_39 ?_
    refine lv_iconst (v := 2) hx hb dX11_setNet_42 (by decide) ?_
    refine lv_iload_n hx hb dX11_setNet_43 rfl (lv_at hl 2 rfl) ?_
    refine wk_iast hx hb hK hP hD hS 1 0 (k := 2) rfl rfl (vp_lit (by decide)) (by decide) dX11_setNet_44 (fun g9 H locs eg9 hP hD hS => ?_)
    have hP : va_P (dC, dI) vwCl [(a 0, .inr (11, [.ref (a 1), .ref (a 2), .ref (a 3), .ref (a 4), .int M_isSaved, .int w6, .int M_isWithin, .int w7, .ref (a 5), .int M_length, .int M_fault, .int M_failed, .ref (a 6), .int M_signMany, .ref (a 7), .ref (a 8), .int M_many, .ref (a 9), .ref (a 10), .int M_at, .ref (a 11), .int M_toldMany])), (a 1, .inl (Y 0, 238, .inl g9)), (a 2, .inl (Y 0, 1904, .inl w5)), (a 3, .inl (Y 0, 238, .inl M_saved)), (a 4, .inl (Y 0, 238, .inl M_before)), (a 5, .inl (Y 0, 60, .inl M_input)), (a 6, .inl (Y 2, 100, .inl M_signs)), (a 7, .inl (Y 0, 6, .inl M_column)), (a 8, .inl (Y 0, 6, .inl M_loads)), (a 9, .inl (Y 0, 2048, .inl M_sums)), (a 10, .inl (Y 0, 2048, .inl M_groups)), (a 11, .inl (Y 0, 155, .inl M_told))] H := hP
    have hD : va_D A [(a 0, .inr (11, [.ref (a 1), .ref (a 2), .ref (a 3), .ref (a 4), .int M_isSaved, .int w6, .int M_isWithin, .int w7, .ref (a 5), .int M_length, .int M_fault, .int M_failed, .ref (a 6), .int M_signMany, .ref (a 7), .ref (a 8), .int M_many, .ref (a 9), .ref (a 10), .int M_at, .ref (a 11), .int M_toldMany])), (a 1, .inl (Y 0, 238, .inl g9)), (a 2, .inl (Y 0, 1904, .inl w5)), (a 3, .inl (Y 0, 238, .inl M_saved)), (a 4, .inl (Y 0, 238, .inl M_before)), (a 5, .inl (Y 0, 60, .inl M_input)), (a 6, .inl (Y 2, 100, .inl M_signs)), (a 7, .inl (Y 0, 6, .inl M_column)), (a 8, .inl (Y 0, 6, .inl M_loads)), (a 9, .inl (Y 0, 2048, .inl M_sums)), (a 10, .inl (Y 0, 2048, .inl M_groups)), (a 11, .inl (Y 0, 155, .inl M_told))] := hD
    have hf := wkl_s hf eg9
    refine lv_iload_n hx hb dX11_setNet_45 rfl (lv_at hl 0 rfl) ?_
    obtain ⟨e0, e1, e2, e3, e4⟩ := wke5 hf
    subst e0
    subst e1
    subst e2
    subst e3
    subst e4
    have hP9 := hP.sub (ws' := (wX11 Y a g9 w5 M_saved M_before M_isSaved w6 M_isWithin w7 M_input M_length M_fault M_failed M_signs M_signMany M_column M_loads M_many M_sums M_groups M_at M_told M_toldMany)) [0, 1, 2, 3, 4, 5, 6, 7, 8, 9, 10, 11] rfl
    have hD9 := hD.sub (ws' := (wX11 Y a g9 w5 M_saved M_before M_isSaved w6 M_isWithin w7 M_input M_length M_fault M_failed M_signs M_signMany M_column M_loads M_many M_sums M_groups M_at M_told M_toldMany)) [0, 1, 2, 3, 4, 5, 6, 7, 8, 9, 10, 11] (by decide) rfl
    exact W.iret (v := (M_g 2)) hx hb hr (fun t ht hW => ⟨⟨(M_g 2), (), rfl, rfl, by rw [ht]; exact hP9, va_K.moved hW.alike hK, hD9⟩, hS.F ht⟩) hS.2.2 dX11_setNet_46
  · have hf := wk_f hf q4
    refine lv_iconst (v := 0) hx hb dX11_setNet_21 (by decide) ?_
    obtain ⟨e0, e1, e2, e3, e4⟩ := wke5 hf
    subst e0
    subst e1
    subst e2
    subst e3
    subst e4
    have hP9 := hP.sub (ws' := (wX11 Y a M_g M_kept M_saved M_before M_isSaved M_changes M_isWithin w2 M_input M_length M_fault M_failed M_signs M_signMany M_column M_loads M_many M_sums M_groups M_at M_told M_toldMany)) [0, 1, 2, 3, 4, 5, 6, 7, 8, 9, 10, 11] rfl
    have hD9 := hD.sub (ws' := (wX11 Y a M_g M_kept M_saved M_before M_isSaved M_changes M_isWithin w2 M_input M_length M_fault M_failed M_signs M_signMany M_column M_loads M_many M_sums M_groups M_at M_told M_toldMany)) [0, 1, 2, 3, 4, 5, 6, 7, 8, 9, 10, 11] (by decide) rfl
    exact W.iret (v := 0) hx hb hr (fun t ht hW => ⟨⟨0, (), rfl, rfl, by rw [ht]; exact hP9, va_K.moved hW.alike hK, hD9⟩, hS.F ht⟩) hS.2.2 dX11_setNet_22
set_option maxHeartbeats 4000000 in
set_option maxRecDepth 100000 in
theorem c_X11_setNet (l : Launch) (dC : Nat → ClassId) (dI : Nat → Nat → Nat) (Y : Nat → ClassId) (a : Nat → Nat) (M_g : Nat → Int32) (M_kept : Nat → Int32) (M_saved : Nat → Int32) (M_before : Nat → Int32) (M_isSaved : Int32) (M_changes : Int32) (M_isWithin : Int32) (M_code : Int32) (M_input : Nat → Int32) (M_length : Int32) (M_fault : Int32) (M_failed : Int32) (M_signs : Nat → Int32) (M_signMany : Int32) (M_column : Nat → Int32) (M_loads : Nat → Int32) (M_many : Int32) (M_sums : Nat → Int32) (M_groups : Nat → Int32) (M_at : Int32) (M_told : Nat → Int32) (M_toldMany : Int32) (x1 : Int32) (sz : Nat) (r : Int32) (zM_g : Nat → Int32) (zM_kept : Nat → Int32) (zM_changes : Int32) (zM_code : Int32) (hf : f_X11_setNet M_g M_kept M_changes M_isWithin M_code x1 = some (r, zM_g, zM_kept, zM_changes, zM_code)) : Met l yX11_setNet wsX11_setNet ({ frames := 2, cells := 0, slots := 0, locals := 46 } : Room) (va_Pc [.ref (a 0), .int x1] (wk_E (dC, dI) Y (wX11 Y a M_g M_kept M_saved M_before M_isSaved M_changes M_isWithin M_code M_input M_length M_fault M_failed M_signs M_signMany M_column M_loads M_many M_sums M_groups M_at M_told M_toldMany) sz)) (va_Qi (fun r2 (_ : Unit) => r2 = r) (fun _ t => wk_X (dC, dI) Y (wX11 Y a zM_g zM_kept M_saved M_before M_isSaved zM_changes M_isWithin zM_code M_input M_length M_fault M_failed M_signs M_signMany M_column M_loads M_many M_sums M_groups M_at M_told M_toldMany) (va_A (wX11 Y a M_g M_kept M_saved M_before M_isSaved M_changes M_isWithin M_code M_input M_length M_fault M_failed M_signs M_signMany M_column M_loads M_many M_sums M_groups M_at M_told M_toldMany) sz) t) (va_A (wX11 Y a M_g M_kept M_saved M_before M_isSaved M_changes M_isWithin M_code M_input M_length M_fault M_failed M_signs M_signMany M_column M_loads M_many M_sums M_groups M_at M_told M_toldMany) sz)) 0 0 (va_A (wX11 Y a M_g M_kept M_saved M_before M_isSaved M_changes M_isWithin M_code M_input M_length M_fault M_failed M_signs M_signMany M_column M_loads M_many M_sums M_groups M_at M_told M_toldMany) sz) := by
  refine Met.ofW (cc := cX11_setNet) (maxL := 3) (ret := (some .int)) (by decide) rfl ?_
  intro p e s m args below meth c s₁ B hml hv
  obtain ⟨rfl, hsz, hP, hK, hD0⟩ := hv
  have hx := B.exec
  have hb := B.bytes
  have hr := B.returns
  have hts := atoms_spec (ws := wsX11_setNet) B.pre
  have hown : s.vm.findClass RX11 = some m.cls := findClass_of_methodNamed B.named
  have hlocks := B.notSynchronized
  have C0 : wk_C p s m _ meth c cX11_setNet 3 (some .int) wsX11_setNet RX11 := ⟨hx, hb, hml, hr, hlocks, hown, hts⟩
  subst hsz
  have hD := hD0.self (sz := s.heap.size)
  generalize hAe : va_A (wX11 Y a M_g M_kept M_saved M_before M_isSaved M_changes M_isWithin M_code M_input M_length M_fault M_failed M_signs M_signMany M_column M_loads M_many M_sums M_groups M_at M_told M_toldMany) s.heap.size = A at hD ⊢
  have hA : ∀ q : Nat, s.heap.size ≤ q → A q := fun q h => by rw [← hAe]; exact Or.inr h
  have hS : va_S A s.heap s.heap [] := va_S.rf
  obtain ⟨H, hHe⟩ : ∃ H, H = s.heap := ⟨_, rfl⟩
  have hS : va_S A s.heap H [] := by rw [hHe]; exact hS
  have hP : va_P (dC, dI) vwCl [(a 0, .inr (11, [.ref (a 1), .ref (a 2), .ref (a 3), .ref (a 4), .int M_isSaved, .int M_changes, .int M_isWithin, .int M_code, .ref (a 5), .int M_length, .int M_fault, .int M_failed, .ref (a 6), .int M_signMany, .ref (a 7), .ref (a 8), .int M_many, .ref (a 9), .ref (a 10), .int M_at, .ref (a 11), .int M_toldMany])), (a 1, .inl (Y 0, 238, .inl M_g)), (a 2, .inl (Y 0, 1904, .inl M_kept)), (a 3, .inl (Y 0, 238, .inl M_saved)), (a 4, .inl (Y 0, 238, .inl M_before)), (a 5, .inl (Y 0, 60, .inl M_input)), (a 6, .inl (Y 2, 100, .inl M_signs)), (a 7, .inl (Y 0, 6, .inl M_column)), (a 8, .inl (Y 0, 6, .inl M_loads)), (a 9, .inl (Y 0, 2048, .inl M_sums)), (a 10, .inl (Y 0, 2048, .inl M_groups)), (a 11, .inl (Y 0, 155, .inl M_told))] H := by rw [hHe]; exact hP
  have hD : va_D A [(a 0, .inr (11, [.ref (a 1), .ref (a 2), .ref (a 3), .ref (a 4), .int M_isSaved, .int M_changes, .int M_isWithin, .int M_code, .ref (a 5), .int M_length, .int M_fault, .int M_failed, .ref (a 6), .int M_signMany, .ref (a 7), .ref (a 8), .int M_many, .ref (a 9), .ref (a 10), .int M_at, .ref (a 11), .int M_toldMany])), (a 1, .inl (Y 0, 238, .inl M_g)), (a 2, .inl (Y 0, 1904, .inl M_kept)), (a 3, .inl (Y 0, 238, .inl M_saved)), (a 4, .inl (Y 0, 238, .inl M_before)), (a 5, .inl (Y 0, 60, .inl M_input)), (a 6, .inl (Y 2, 100, .inl M_signs)), (a 7, .inl (Y 0, 6, .inl M_column)), (a 8, .inl (Y 0, 6, .inl M_loads)), (a 9, .inl (Y 0, 2048, .inl M_sums)), (a 10, .inl (Y 0, 2048, .inl M_groups)), (a 11, .inl (Y 0, 155, .inl M_told))] := hD
  obtain ⟨locs, hlo⟩ : ∃ locs : List Loc, locs = [] := ⟨_, rfl⟩
  have hS : va_S A s.heap H locs := by rw [hlo]; exact hS
  have hl := lv_entry ([.ref (a 0), .int x1]) (n := 3) (Nat.le_of_ble_eq_true rfl)
  rw [lg_entry_eq]
  generalize (lg_sl ([.ref (a 0), .int x1]) ++ List.replicate (3 - (lg_sl ([.ref (a 0), .int x1])).length) Slot.unset).toArray = ls at hl ⊢
  have hl : lv_has ls 3 [(0, .ref (a 0)), (1, .int x1)] := hl
  refine wk_start hHe hlo ?_
  rw [f_X11_setNet] at hf
  refine lv_aload_n hx hb dX11_setNet_0 rfl (lv_at hl 0 rfl) ?_
  refine lv_iload_n hx hb dX11_setNet_1 rfl (lv_at hl 1 rfl) ?_
  refine lv_iconst (v := 0) hx hb dX11_setNet_2 (by decide) ?_
  refine lv_iconst (v := 5) hx hb dX11_setNet_3 (by decide) ?_
  obtain ⟨r1, hr2, hf⟩ := wkb1_s hf
  have hPc := hP.sub (ws' := ([] : va_W)) [] rfl
  refine wk_si (As := [.int x1, .int 0, .int 5]) (rest := [.ref (a 0)]) ⟨hx, hb, hml, hown, hts⟩ (c_X11_in l dC dI Y x1 0 5 r1 hr2) (va_cwS 3 hts gX11_setNet_X11_in rfl rfl rfl (by decide +kernel) ⟨Nat.le_of_ble_eq_true rfl, Nat.le_of_ble_eq_true rfl⟩) hK hPc rfl hl.1 rfl (Nat.le_of_ble_eq_true rfl) dX11_setNet_4 ⟨Nat.le_of_ble_eq_true rfl, Nat.le_of_ble_eq_true rfl⟩ ?_
  refine lv_if_eq (tgt := 14) hx hb dX11_setNet_7 (by decide) (fun q3 => ?_) (fun q3 => ?_)
  · have hf := wk_t hf q3
    refine lv_iconst (v := 1) hx hb dX11_setNet_14 (by decide) ?_
    exact wl_X11_setNet_L15 C0 hK hA 1 M_g M_kept M_changes M_code hf H locs hP hD hS ls (lv_sub hl [0, 1] rfl)
  · have hf := wk_f hf q3
    refine lv_iconst (v := 0) hx hb dX11_setNet_10 (by decide) ?_
    refine lv_goto (tgt := 15) hx hb dX11_setNet_11 (by decide) ?_
    exact wl_X11_setNet_L15 C0 hK hA 0 M_g M_kept M_changes M_code hf H locs hP hD hS ls (lv_sub hl [0, 1] rfl)
theorem lk_X11_passNights_RX11_7 : Cond.fieldLink RX11 7 "CircusLedgerModel" "g" "[I" ∈ wsX11_passNights := by decide +kernel
theorem in_X11_passNights_X11 : ∀ w ∈ u_ws RX11 TX11 22, w ∈ wsX11_passNights := by decide +kernel
def f_X11_passNights (M_g : Nat → Int32) (M_kept : Nat → Int32) (M_changes : Int32) (M_isWithin : Int32) (M_code : Int32) (x1 : Int32) : Option (Int32 × (Nat → Int32) × (Nat → Int32) × Int32 × Int32) :=
  wkb1 (f_X11_in x1 1 99) (fun r1 =>
  if r1 = 0 then
    (wkb2 (f_X11_fails M_code 1) (fun r4 w5 =>
    if r4 = 0 then
      (wkb3 (f_X11_keeps_g M_g M_kept M_changes M_isWithin w5) (fun w8 w9 w10 =>
      wkb2 (f_X11_passes M_g x1) (fun r12 w13 =>
      some (r12, w13, w8, w9, w10))))
    else
      (some (0, M_g, M_kept, M_changes, w5))))
  else
    (wkb2 (f_X11_fails M_code 0) (fun r15 w16 =>
    if r15 = 0 then
      (wkb3 (f_X11_keeps_g M_g M_kept M_changes M_isWithin w16) (fun w19 w20 w21 =>
      wkb2 (f_X11_passes M_g x1) (fun r23 w24 =>
      some (r23, w24, w19, w20, w21))))
    else
      (some (0, M_g, M_kept, M_changes, w16)))))
set_option maxHeartbeats 4000000 in
set_option maxRecDepth 100000 in
theorem c_X11_passNights (l : Launch) (dC : Nat → ClassId) (dI : Nat → Nat → Nat) (Y : Nat → ClassId) (a : Nat → Nat) (M_g : Nat → Int32) (M_kept : Nat → Int32) (M_saved : Nat → Int32) (M_before : Nat → Int32) (M_isSaved : Int32) (M_changes : Int32) (M_isWithin : Int32) (M_code : Int32) (M_input : Nat → Int32) (M_length : Int32) (M_fault : Int32) (M_failed : Int32) (M_signs : Nat → Int32) (M_signMany : Int32) (M_column : Nat → Int32) (M_loads : Nat → Int32) (M_many : Int32) (M_sums : Nat → Int32) (M_groups : Nat → Int32) (M_at : Int32) (M_told : Nat → Int32) (M_toldMany : Int32) (x1 : Int32) (sz : Nat) (r : Int32) (zM_g : Nat → Int32) (zM_kept : Nat → Int32) (zM_changes : Int32) (zM_code : Int32) (hf : f_X11_passNights M_g M_kept M_changes M_isWithin M_code x1 = some (r, zM_g, zM_kept, zM_changes, zM_code)) : Met l yX11_passNights wsX11_passNights ({ frames := 2, cells := 0, slots := 0, locals := 46 } : Room) (va_Pc [.ref (a 0), .int x1] (wk_E (dC, dI) Y (wX11 Y a M_g M_kept M_saved M_before M_isSaved M_changes M_isWithin M_code M_input M_length M_fault M_failed M_signs M_signMany M_column M_loads M_many M_sums M_groups M_at M_told M_toldMany) sz)) (va_Qi (fun r2 (_ : Unit) => r2 = r) (fun _ t => wk_X (dC, dI) Y (wX11 Y a zM_g zM_kept M_saved M_before M_isSaved zM_changes M_isWithin zM_code M_input M_length M_fault M_failed M_signs M_signMany M_column M_loads M_many M_sums M_groups M_at M_told M_toldMany) (va_A (wX11 Y a M_g M_kept M_saved M_before M_isSaved M_changes M_isWithin M_code M_input M_length M_fault M_failed M_signs M_signMany M_column M_loads M_many M_sums M_groups M_at M_told M_toldMany) sz) t) (va_A (wX11 Y a M_g M_kept M_saved M_before M_isSaved M_changes M_isWithin M_code M_input M_length M_fault M_failed M_signs M_signMany M_column M_loads M_many M_sums M_groups M_at M_told M_toldMany) sz)) 0 0 (va_A (wX11 Y a M_g M_kept M_saved M_before M_isSaved M_changes M_isWithin M_code M_input M_length M_fault M_failed M_signs M_signMany M_column M_loads M_many M_sums M_groups M_at M_told M_toldMany) sz) := by
  refine Met.ofW (cc := cX11_passNights) (maxL := 2) (ret := (some .int)) (by decide) rfl ?_
  intro p e s m args below meth c s₁ B hml hv
  obtain ⟨rfl, hsz, hP, hK, hD0⟩ := hv
  have hx := B.exec
  have hb := B.bytes
  have hr := B.returns
  have hts := atoms_spec (ws := wsX11_passNights) B.pre
  have hown : s.vm.findClass RX11 = some m.cls := findClass_of_methodNamed B.named
  have hlocks := B.notSynchronized
  have C0 : wk_C p s m _ meth c cX11_passNights 2 (some .int) wsX11_passNights RX11 := ⟨hx, hb, hml, hr, hlocks, hown, hts⟩
  subst hsz
  have hD := hD0.self (sz := s.heap.size)
  generalize hAe : va_A (wX11 Y a M_g M_kept M_saved M_before M_isSaved M_changes M_isWithin M_code M_input M_length M_fault M_failed M_signs M_signMany M_column M_loads M_many M_sums M_groups M_at M_told M_toldMany) s.heap.size = A at hD ⊢
  have hA : ∀ q : Nat, s.heap.size ≤ q → A q := fun q h => by rw [← hAe]; exact Or.inr h
  have hS : va_S A s.heap s.heap [] := va_S.rf
  obtain ⟨H, hHe⟩ : ∃ H, H = s.heap := ⟨_, rfl⟩
  have hS : va_S A s.heap H [] := by rw [hHe]; exact hS
  have hP : va_P (dC, dI) vwCl [(a 0, .inr (11, [.ref (a 1), .ref (a 2), .ref (a 3), .ref (a 4), .int M_isSaved, .int M_changes, .int M_isWithin, .int M_code, .ref (a 5), .int M_length, .int M_fault, .int M_failed, .ref (a 6), .int M_signMany, .ref (a 7), .ref (a 8), .int M_many, .ref (a 9), .ref (a 10), .int M_at, .ref (a 11), .int M_toldMany])), (a 1, .inl (Y 0, 238, .inl M_g)), (a 2, .inl (Y 0, 1904, .inl M_kept)), (a 3, .inl (Y 0, 238, .inl M_saved)), (a 4, .inl (Y 0, 238, .inl M_before)), (a 5, .inl (Y 0, 60, .inl M_input)), (a 6, .inl (Y 2, 100, .inl M_signs)), (a 7, .inl (Y 0, 6, .inl M_column)), (a 8, .inl (Y 0, 6, .inl M_loads)), (a 9, .inl (Y 0, 2048, .inl M_sums)), (a 10, .inl (Y 0, 2048, .inl M_groups)), (a 11, .inl (Y 0, 155, .inl M_told))] H := by rw [hHe]; exact hP
  have hD : va_D A [(a 0, .inr (11, [.ref (a 1), .ref (a 2), .ref (a 3), .ref (a 4), .int M_isSaved, .int M_changes, .int M_isWithin, .int M_code, .ref (a 5), .int M_length, .int M_fault, .int M_failed, .ref (a 6), .int M_signMany, .ref (a 7), .ref (a 8), .int M_many, .ref (a 9), .ref (a 10), .int M_at, .ref (a 11), .int M_toldMany])), (a 1, .inl (Y 0, 238, .inl M_g)), (a 2, .inl (Y 0, 1904, .inl M_kept)), (a 3, .inl (Y 0, 238, .inl M_saved)), (a 4, .inl (Y 0, 238, .inl M_before)), (a 5, .inl (Y 0, 60, .inl M_input)), (a 6, .inl (Y 2, 100, .inl M_signs)), (a 7, .inl (Y 0, 6, .inl M_column)), (a 8, .inl (Y 0, 6, .inl M_loads)), (a 9, .inl (Y 0, 2048, .inl M_sums)), (a 10, .inl (Y 0, 2048, .inl M_groups)), (a 11, .inl (Y 0, 155, .inl M_told))] := hD
  obtain ⟨locs, hlo⟩ : ∃ locs : List Loc, locs = [] := ⟨_, rfl⟩
  have hS : va_S A s.heap H locs := by rw [hlo]; exact hS
  have hl := lv_entry ([.ref (a 0), .int x1]) (n := 2) (Nat.le_of_ble_eq_true rfl)
  rw [lg_entry_eq]
  generalize (lg_sl ([.ref (a 0), .int x1]) ++ List.replicate (2 - (lg_sl ([.ref (a 0), .int x1])).length) Slot.unset).toArray = ls at hl ⊢
  have hl : lv_has ls 2 [(0, .ref (a 0)), (1, .int x1)] := hl
  refine wk_start hHe hlo ?_
  rw [f_X11_passNights] at hf
  refine lv_aload_n hx hb dX11_passNights_0 rfl (lv_at hl 0 rfl) ?_
  refine lv_iload_n hx hb dX11_passNights_1 rfl (lv_at hl 1 rfl) ?_
  refine lv_iconst (v := 1) hx hb dX11_passNights_2 (by decide) ?_
  refine lv_bipush (v := 99) hx hb dX11_passNights_3 (by decide) ?_
  obtain ⟨r1, hr2, hf⟩ := wkb1_s hf
  have hPc := hP.sub (ws' := ([] : va_W)) [] rfl
  refine wk_si (As := [.int x1, .int 1, .int 99]) (rest := [.ref (a 0)]) ⟨hx, hb, hml, hown, hts⟩ (c_X11_in l dC dI Y x1 1 99 r1 hr2) (va_cwS 3 hts gX11_passNights_X11_in rfl rfl rfl (by decide +kernel) ⟨Nat.le_of_ble_eq_true rfl, Nat.le_of_ble_eq_true rfl⟩) hK hPc rfl hl.1 rfl (Nat.le_of_ble_eq_true rfl) dX11_passNights_5 ⟨Nat.le_of_ble_eq_true rfl, Nat.le_of_ble_eq_true rfl⟩ ?_
  refine lv_if_eq (tgt := 15) hx hb dX11_passNights_8 (by decide) (fun q3 => ?_) (fun q3 => ?_)
  · have hf := wk_t hf q3
    refine lv_iconst (v := 1) hx hb dX11_passNights_15 (by decide) ?_
    obtain ⟨r4, w5, hr6, hf⟩ := wkb2_s hf
    refine wk_evi (As := [.int 1]) (rest := []) (wc := (wX11 Y a M_g M_kept M_saved M_before M_isSaved M_changes M_isWithin M_code M_input M_length M_fault M_failed M_signs M_signMany M_column M_loads M_many M_sums M_groups M_at M_told M_toldMany)) (w1 := (wX11 Y a M_g M_kept M_saved M_before M_isSaved M_changes M_isWithin w5 M_input M_length M_fault M_failed M_signs M_signMany M_column M_loads M_many M_sums M_groups M_at M_told M_toldMany)) (wr := []) ⟨hx, hb, hml, hown, hts⟩ (c_X11_fails l dC dI Y a M_g M_kept M_saved M_before M_isSaved M_changes M_isWithin M_code M_input M_length M_fault M_failed M_signs M_signMany M_column M_loads M_many M_sums M_groups M_at M_told M_toldMany 1 H.size r4 w5 hr6) (cwV 1 hts gX11_passNights_X11_fails rfl rfl rfl (by decide +kernel) ⟨Nat.le_of_ble_eq_true rfl, Nat.le_of_ble_eq_true rfl⟩) hK hP hD hS hA [0, 1, 2, 3, 4, 5, 6, 7, 8, 9, 10, 11] [] rfl rfl (by decide) (by decide) (by decide) (va_recv hK hP (ci := 11) (q0 := 0) rfl rfl) rfl hl.1 rfl (Nat.le_of_ble_eq_true rfl) dX11_passNights_16 ⟨Nat.le_of_ble_eq_true rfl, Nat.le_of_ble_eq_true rfl⟩ (fun H locs hP hD hS => ?_)
    have hP : va_P (dC, dI) vwCl [(a 0, .inr (11, [.ref (a 1), .ref (a 2), .ref (a 3), .ref (a 4), .int M_isSaved, .int M_changes, .int M_isWithin, .int w5, .ref (a 5), .int M_length, .int M_fault, .int M_failed, .ref (a 6), .int M_signMany, .ref (a 7), .ref (a 8), .int M_many, .ref (a 9), .ref (a 10), .int M_at, .ref (a 11), .int M_toldMany])), (a 1, .inl (Y 0, 238, .inl M_g)), (a 2, .inl (Y 0, 1904, .inl M_kept)), (a 3, .inl (Y 0, 238, .inl M_saved)), (a 4, .inl (Y 0, 238, .inl M_before)), (a 5, .inl (Y 0, 60, .inl M_input)), (a 6, .inl (Y 2, 100, .inl M_signs)), (a 7, .inl (Y 0, 6, .inl M_column)), (a 8, .inl (Y 0, 6, .inl M_loads)), (a 9, .inl (Y 0, 2048, .inl M_sums)), (a 10, .inl (Y 0, 2048, .inl M_groups)), (a 11, .inl (Y 0, 155, .inl M_told))] H := hP
    have hD : va_D A [(a 0, .inr (11, [.ref (a 1), .ref (a 2), .ref (a 3), .ref (a 4), .int M_isSaved, .int M_changes, .int M_isWithin, .int w5, .ref (a 5), .int M_length, .int M_fault, .int M_failed, .ref (a 6), .int M_signMany, .ref (a 7), .ref (a 8), .int M_many, .ref (a 9), .ref (a 10), .int M_at, .ref (a 11), .int M_toldMany])), (a 1, .inl (Y 0, 238, .inl M_g)), (a 2, .inl (Y 0, 1904, .inl M_kept)), (a 3, .inl (Y 0, 238, .inl M_saved)), (a 4, .inl (Y 0, 238, .inl M_before)), (a 5, .inl (Y 0, 60, .inl M_input)), (a 6, .inl (Y 2, 100, .inl M_signs)), (a 7, .inl (Y 0, 6, .inl M_column)), (a 8, .inl (Y 0, 6, .inl M_loads)), (a 9, .inl (Y 0, 2048, .inl M_sums)), (a 10, .inl (Y 0, 2048, .inl M_groups)), (a 11, .inl (Y 0, 155, .inl M_told))] := hD
    refine lv_if_eq (tgt := 24) hx hb dX11_passNights_19 (by decide) (fun q7 => ?_) (fun q7 => ?_)
    · have hf := wk_t hf q7
      refine lv_aload_n hx hb dX11_passNights_24 rfl (lv_at hl 0 rfl) ?_
      refine lv_aload_n hx hb dX11_passNights_25 rfl (lv_at hl 0 rfl) ?_
      refine va_get (D := (dC, dI)) (ci := 11) (v := .ref (a 1)) (C := RX11) (T := TX11) (N := 22) hx hb hts in_X11_passNights_X11 hown hK hP 0 rfl rfl 0 (by decide) (hts _ lk_X11_passNights_RX11_7) (fun _ h9 => h9) rfl dX11_passNights_26 ?_
      obtain ⟨w8, w9, w10, hr11, hf⟩ := wkb3_s hf
      refine wk_evv (As := [.ref (a 1)]) (rest := []) (wc := (wX11 Y a M_g M_kept M_saved M_before M_isSaved M_changes M_isWithin w5 M_input M_length M_fault M_failed M_signs M_signMany M_column M_loads M_many M_sums M_groups M_at M_told M_toldMany)) (w1 := (wX11 Y a M_g w8 M_saved M_before M_isSaved w9 M_isWithin w10 M_input M_length M_fault M_failed M_signs M_signMany M_column M_loads M_many M_sums M_groups M_at M_told M_toldMany)) (wr := []) ⟨hx, hb, hml, hown, hts⟩ (c_X11_keeps_g l dC dI Y a M_g M_kept M_saved M_before M_isSaved M_changes M_isWithin w5 M_input M_length M_fault M_failed M_signs M_signMany M_column M_loads M_many M_sums M_groups M_at M_told M_toldMany H.size w8 w9 w10 hr11) (cwV 1 hts gX11_passNights_X11_keeps rfl rfl rfl (by decide +kernel) ⟨Nat.le_of_ble_eq_true rfl, Nat.le_of_ble_eq_true rfl⟩) hK hP hD hS hA [0, 1, 2, 3, 4, 5, 6, 7, 8, 9, 10, 11] [] rfl rfl (by decide) (by decide) (by decide) (va_recv hK hP (ci := 11) (q0 := 0) rfl rfl) rfl hl.1 rfl (Nat.le_of_ble_eq_true rfl) dX11_passNights_29 ⟨Nat.le_of_ble_eq_true rfl, Nat.le_of_ble_eq_true rfl⟩ (fun H locs hP hD hS => ?_)
      have hP : va_P (dC, dI) vwCl [(a 0, .inr (11, [.ref (a 1), .ref (a 2), .ref (a 3), .ref (a 4), .int M_isSaved, .int w9, .int M_isWithin, .int w10, .ref (a 5), .int M_length, .int M_fault, .int M_failed, .ref (a 6), .int M_signMany, .ref (a 7), .ref (a 8), .int M_many, .ref (a 9), .ref (a 10), .int M_at, .ref (a 11), .int M_toldMany])), (a 1, .inl (Y 0, 238, .inl M_g)), (a 2, .inl (Y 0, 1904, .inl w8)), (a 3, .inl (Y 0, 238, .inl M_saved)), (a 4, .inl (Y 0, 238, .inl M_before)), (a 5, .inl (Y 0, 60, .inl M_input)), (a 6, .inl (Y 2, 100, .inl M_signs)), (a 7, .inl (Y 0, 6, .inl M_column)), (a 8, .inl (Y 0, 6, .inl M_loads)), (a 9, .inl (Y 0, 2048, .inl M_sums)), (a 10, .inl (Y 0, 2048, .inl M_groups)), (a 11, .inl (Y 0, 155, .inl M_told))] H := hP
      have hD : va_D A [(a 0, .inr (11, [.ref (a 1), .ref (a 2), .ref (a 3), .ref (a 4), .int M_isSaved, .int w9, .int M_isWithin, .int w10, .ref (a 5), .int M_length, .int M_fault, .int M_failed, .ref (a 6), .int M_signMany, .ref (a 7), .ref (a 8), .int M_many, .ref (a 9), .ref (a 10), .int M_at, .ref (a 11), .int M_toldMany])), (a 1, .inl (Y 0, 238, .inl M_g)), (a 2, .inl (Y 0, 1904, .inl w8)), (a 3, .inl (Y 0, 238, .inl M_saved)), (a 4, .inl (Y 0, 238, .inl M_before)), (a 5, .inl (Y 0, 60, .inl M_input)), (a 6, .inl (Y 2, 100, .inl M_signs)), (a 7, .inl (Y 0, 6, .inl M_column)), (a 8, .inl (Y 0, 6, .inl M_loads)), (a 9, .inl (Y 0, 2048, .inl M_sums)), (a 10, .inl (Y 0, 2048, .inl M_groups)), (a 11, .inl (Y 0, 155, .inl M_told))] := hD
      refine lv_aload_n hx hb dX11_passNights_32 rfl (lv_at hl 0 rfl) ?_
      refine lv_iload_n hx hb dX11_passNights_33 rfl (lv_at hl 1 rfl) ?_
      obtain ⟨r12, w13, hr14, hf⟩ := wkb2_s hf
      refine wk_evi (As := [.int x1]) (rest := []) (wc := (wX11 Y a M_g w8 M_saved M_before M_isSaved w9 M_isWithin w10 M_input M_length M_fault M_failed M_signs M_signMany M_column M_loads M_many M_sums M_groups M_at M_told M_toldMany)) (w1 := (wX11 Y a w13 w8 M_saved M_before M_isSaved w9 M_isWithin w10 M_input M_length M_fault M_failed M_signs M_signMany M_column M_loads M_many M_sums M_groups M_at M_told M_toldMany)) (wr := []) ⟨hx, hb, hml, hown, hts⟩ (c_X11_passes l dC dI Y a M_g w8 M_saved M_before M_isSaved w9 M_isWithin w10 M_input M_length M_fault M_failed M_signs M_signMany M_column M_loads M_many M_sums M_groups M_at M_told M_toldMany x1 H.size r12 w13 hr14) (cwV 1 hts gX11_passNights_X11_passes rfl rfl rfl (by decide +kernel) ⟨Nat.le_of_ble_eq_true rfl, Nat.le_of_ble_eq_true rfl⟩) hK hP hD hS hA [0, 1, 2, 3, 4, 5, 6, 7, 8, 9, 10, 11] [] rfl rfl (by decide) (by decide) (by decide) (va_recv hK hP (ci := 11) (q0 := 0) rfl rfl) rfl hl.1 rfl (Nat.le_of_ble_eq_true rfl) dX11_passNights_34 ⟨Nat.le_of_ble_eq_true rfl, Nat.le_of_ble_eq_true rfl⟩ (fun H locs hP hD hS => ?_)
      have hP : va_P (dC, dI) vwCl [(a 0, .inr (11, [.ref (a 1), .ref (a 2), .ref (a 3), .ref (a 4), .int M_isSaved, .int w9, .int M_isWithin, .int w10, .ref (a 5), .int M_length, .int M_fault, .int M_failed, .ref (a 6), .int M_signMany, .ref (a 7), .ref (a 8), .int M_many, .ref (a 9), .ref (a 10), .int M_at, .ref (a 11), .int M_toldMany])), (a 1, .inl (Y 0, 238, .inl w13)), (a 2, .inl (Y 0, 1904, .inl w8)), (a 3, .inl (Y 0, 238, .inl M_saved)), (a 4, .inl (Y 0, 238, .inl M_before)), (a 5, .inl (Y 0, 60, .inl M_input)), (a 6, .inl (Y 2, 100, .inl M_signs)), (a 7, .inl (Y 0, 6, .inl M_column)), (a 8, .inl (Y 0, 6, .inl M_loads)), (a 9, .inl (Y 0, 2048, .inl M_sums)), (a 10, .inl (Y 0, 2048, .inl M_groups)), (a 11, .inl (Y 0, 155, .inl M_told))] H := hP
      have hD : va_D A [(a 0, .inr (11, [.ref (a 1), .ref (a 2), .ref (a 3), .ref (a 4), .int M_isSaved, .int w9, .int M_isWithin, .int w10, .ref (a 5), .int M_length, .int M_fault, .int M_failed, .ref (a 6), .int M_signMany, .ref (a 7), .ref (a 8), .int M_many, .ref (a 9), .ref (a 10), .int M_at, .ref (a 11), .int M_toldMany])), (a 1, .inl (Y 0, 238, .inl w13)), (a 2, .inl (Y 0, 1904, .inl w8)), (a 3, .inl (Y 0, 238, .inl M_saved)), (a 4, .inl (Y 0, 238, .inl M_before)), (a 5, .inl (Y 0, 60, .inl M_input)), (a 6, .inl (Y 2, 100, .inl M_signs)), (a 7, .inl (Y 0, 6, .inl M_column)), (a 8, .inl (Y 0, 6, .inl M_loads)), (a 9, .inl (Y 0, 2048, .inl M_sums)), (a 10, .inl (Y 0, 2048, .inl M_groups)), (a 11, .inl (Y 0, 155, .inl M_told))] := hD
      obtain ⟨e0, e1, e2, e3, e4⟩ := wke5 hf
      subst e0
      subst e1
      subst e2
      subst e3
      subst e4
      have hP9 := hP.sub (ws' := (wX11 Y a w13 w8 M_saved M_before M_isSaved w9 M_isWithin w10 M_input M_length M_fault M_failed M_signs M_signMany M_column M_loads M_many M_sums M_groups M_at M_told M_toldMany)) [0, 1, 2, 3, 4, 5, 6, 7, 8, 9, 10, 11] rfl
      have hD9 := hD.sub (ws' := (wX11 Y a w13 w8 M_saved M_before M_isSaved w9 M_isWithin w10 M_input M_length M_fault M_failed M_signs M_signMany M_column M_loads M_many M_sums M_groups M_at M_told M_toldMany)) [0, 1, 2, 3, 4, 5, 6, 7, 8, 9, 10, 11] (by decide) rfl
      exact W.iret (v := r12) hx hb hr (fun t ht hW => ⟨⟨r12, (), rfl, rfl, by rw [ht]; exact hP9, va_K.moved hW.alike hK, hD9⟩, hS.F ht⟩) hS.2.2 dX11_passNights_37
    · have hf := wk_f hf q7
      refine lv_iconst (v := 0) hx hb dX11_passNights_22 (by decide) ?_
      obtain ⟨e0, e1, e2, e3, e4⟩ := wke5 hf
      subst e0
      subst e1
      subst e2
      subst e3
      subst e4
      have hP9 := hP.sub (ws' := (wX11 Y a M_g M_kept M_saved M_before M_isSaved M_changes M_isWithin w5 M_input M_length M_fault M_failed M_signs M_signMany M_column M_loads M_many M_sums M_groups M_at M_told M_toldMany)) [0, 1, 2, 3, 4, 5, 6, 7, 8, 9, 10, 11] rfl
      have hD9 := hD.sub (ws' := (wX11 Y a M_g M_kept M_saved M_before M_isSaved M_changes M_isWithin w5 M_input M_length M_fault M_failed M_signs M_signMany M_column M_loads M_many M_sums M_groups M_at M_told M_toldMany)) [0, 1, 2, 3, 4, 5, 6, 7, 8, 9, 10, 11] (by decide) rfl
      exact W.iret (v := 0) hx hb hr (fun t ht hW => ⟨⟨0, (), rfl, rfl, by rw [ht]; exact hP9, va_K.moved hW.alike hK, hD9⟩, hS.F ht⟩) hS.2.2 dX11_passNights_23
  · have hf := wk_f hf q3
    refine lv_iconst (v := 0) hx hb dX11_passNights_11 (by decide) ?_
    refine lv_goto (tgt := 16) hx hb dX11_passNights_12 (by decide) ?_
    obtain ⟨r15, w16, hr17, hf⟩ := wkb2_s hf
    refine wk_evi (As := [.int 0]) (rest := []) (wc := (wX11 Y a M_g M_kept M_saved M_before M_isSaved M_changes M_isWithin M_code M_input M_length M_fault M_failed M_signs M_signMany M_column M_loads M_many M_sums M_groups M_at M_told M_toldMany)) (w1 := (wX11 Y a M_g M_kept M_saved M_before M_isSaved M_changes M_isWithin w16 M_input M_length M_fault M_failed M_signs M_signMany M_column M_loads M_many M_sums M_groups M_at M_told M_toldMany)) (wr := []) ⟨hx, hb, hml, hown, hts⟩ (c_X11_fails l dC dI Y a M_g M_kept M_saved M_before M_isSaved M_changes M_isWithin M_code M_input M_length M_fault M_failed M_signs M_signMany M_column M_loads M_many M_sums M_groups M_at M_told M_toldMany 0 H.size r15 w16 hr17) (cwV 1 hts gX11_passNights_X11_fails rfl rfl rfl (by decide +kernel) ⟨Nat.le_of_ble_eq_true rfl, Nat.le_of_ble_eq_true rfl⟩) hK hP hD hS hA [0, 1, 2, 3, 4, 5, 6, 7, 8, 9, 10, 11] [] rfl rfl (by decide) (by decide) (by decide) (va_recv hK hP (ci := 11) (q0 := 0) rfl rfl) rfl hl.1 rfl (Nat.le_of_ble_eq_true rfl) dX11_passNights_16 ⟨Nat.le_of_ble_eq_true rfl, Nat.le_of_ble_eq_true rfl⟩ (fun H locs hP hD hS => ?_)
    have hP : va_P (dC, dI) vwCl [(a 0, .inr (11, [.ref (a 1), .ref (a 2), .ref (a 3), .ref (a 4), .int M_isSaved, .int M_changes, .int M_isWithin, .int w16, .ref (a 5), .int M_length, .int M_fault, .int M_failed, .ref (a 6), .int M_signMany, .ref (a 7), .ref (a 8), .int M_many, .ref (a 9), .ref (a 10), .int M_at, .ref (a 11), .int M_toldMany])), (a 1, .inl (Y 0, 238, .inl M_g)), (a 2, .inl (Y 0, 1904, .inl M_kept)), (a 3, .inl (Y 0, 238, .inl M_saved)), (a 4, .inl (Y 0, 238, .inl M_before)), (a 5, .inl (Y 0, 60, .inl M_input)), (a 6, .inl (Y 2, 100, .inl M_signs)), (a 7, .inl (Y 0, 6, .inl M_column)), (a 8, .inl (Y 0, 6, .inl M_loads)), (a 9, .inl (Y 0, 2048, .inl M_sums)), (a 10, .inl (Y 0, 2048, .inl M_groups)), (a 11, .inl (Y 0, 155, .inl M_told))] H := hP
    have hD : va_D A [(a 0, .inr (11, [.ref (a 1), .ref (a 2), .ref (a 3), .ref (a 4), .int M_isSaved, .int M_changes, .int M_isWithin, .int w16, .ref (a 5), .int M_length, .int M_fault, .int M_failed, .ref (a 6), .int M_signMany, .ref (a 7), .ref (a 8), .int M_many, .ref (a 9), .ref (a 10), .int M_at, .ref (a 11), .int M_toldMany])), (a 1, .inl (Y 0, 238, .inl M_g)), (a 2, .inl (Y 0, 1904, .inl M_kept)), (a 3, .inl (Y 0, 238, .inl M_saved)), (a 4, .inl (Y 0, 238, .inl M_before)), (a 5, .inl (Y 0, 60, .inl M_input)), (a 6, .inl (Y 2, 100, .inl M_signs)), (a 7, .inl (Y 0, 6, .inl M_column)), (a 8, .inl (Y 0, 6, .inl M_loads)), (a 9, .inl (Y 0, 2048, .inl M_sums)), (a 10, .inl (Y 0, 2048, .inl M_groups)), (a 11, .inl (Y 0, 155, .inl M_told))] := hD
    refine lv_if_eq (tgt := 24) hx hb dX11_passNights_19 (by decide) (fun q18 => ?_) (fun q18 => ?_)
    · have hf := wk_t hf q18
      refine lv_aload_n hx hb dX11_passNights_24 rfl (lv_at hl 0 rfl) ?_
      refine lv_aload_n hx hb dX11_passNights_25 rfl (lv_at hl 0 rfl) ?_
      refine va_get (D := (dC, dI)) (ci := 11) (v := .ref (a 1)) (C := RX11) (T := TX11) (N := 22) hx hb hts in_X11_passNights_X11 hown hK hP 0 rfl rfl 0 (by decide) (hts _ lk_X11_passNights_RX11_7) (fun _ h9 => h9) rfl dX11_passNights_26 ?_
      obtain ⟨w19, w20, w21, hr22, hf⟩ := wkb3_s hf
      refine wk_evv (As := [.ref (a 1)]) (rest := []) (wc := (wX11 Y a M_g M_kept M_saved M_before M_isSaved M_changes M_isWithin w16 M_input M_length M_fault M_failed M_signs M_signMany M_column M_loads M_many M_sums M_groups M_at M_told M_toldMany)) (w1 := (wX11 Y a M_g w19 M_saved M_before M_isSaved w20 M_isWithin w21 M_input M_length M_fault M_failed M_signs M_signMany M_column M_loads M_many M_sums M_groups M_at M_told M_toldMany)) (wr := []) ⟨hx, hb, hml, hown, hts⟩ (c_X11_keeps_g l dC dI Y a M_g M_kept M_saved M_before M_isSaved M_changes M_isWithin w16 M_input M_length M_fault M_failed M_signs M_signMany M_column M_loads M_many M_sums M_groups M_at M_told M_toldMany H.size w19 w20 w21 hr22) (cwV 1 hts gX11_passNights_X11_keeps rfl rfl rfl (by decide +kernel) ⟨Nat.le_of_ble_eq_true rfl, Nat.le_of_ble_eq_true rfl⟩) hK hP hD hS hA [0, 1, 2, 3, 4, 5, 6, 7, 8, 9, 10, 11] [] rfl rfl (by decide) (by decide) (by decide) (va_recv hK hP (ci := 11) (q0 := 0) rfl rfl) rfl hl.1 rfl (Nat.le_of_ble_eq_true rfl) dX11_passNights_29 ⟨Nat.le_of_ble_eq_true rfl, Nat.le_of_ble_eq_true rfl⟩ (fun H locs hP hD hS => ?_)
      have hP : va_P (dC, dI) vwCl [(a 0, .inr (11, [.ref (a 1), .ref (a 2), .ref (a 3), .ref (a 4), .int M_isSaved, .int w20, .int M_isWithin, .int w21, .ref (a 5), .int M_length, .int M_fault, .int M_failed, .ref (a 6), .int M_signMany, .ref (a 7), .ref (a 8), .int M_many, .ref (a 9), .ref (a 10), .int M_at, .ref (a 11), .int M_toldMany])), (a 1, .inl (Y 0, 238, .inl M_g)), (a 2, .inl (Y 0, 1904, .inl w19)), (a 3, .inl (Y 0, 238, .inl M_saved)), (a 4, .inl (Y 0, 238, .inl M_before)), (a 5, .inl (Y 0, 60, .inl M_input)), (a 6, .inl (Y 2, 100, .inl M_signs)), (a 7, .inl (Y 0, 6, .inl M_column)), (a 8, .inl (Y 0, 6, .inl M_loads)), (a 9, .inl (Y 0, 2048, .inl M_sums)), (a 10, .inl (Y 0, 2048, .inl M_groups)), (a 11, .inl (Y 0, 155, .inl M_told))] H := hP
      have hD : va_D A [(a 0, .inr (11, [.ref (a 1), .ref (a 2), .ref (a 3), .ref (a 4), .int M_isSaved, .int w20, .int M_isWithin, .int w21, .ref (a 5), .int M_length, .int M_fault, .int M_failed, .ref (a 6), .int M_signMany, .ref (a 7), .ref (a 8), .int M_many, .ref (a 9), .ref (a 10), .int M_at, .ref (a 11), .int M_toldMany])), (a 1, .inl (Y 0, 238, .inl M_g)), (a 2, .inl (Y 0, 1904, .inl w19)), (a 3, .inl (Y 0, 238, .inl M_saved)), (a 4, .inl (Y 0, 238, .inl M_before)), (a 5, .inl (Y 0, 60, .inl M_input)), (a 6, .inl (Y 2, 100, .inl M_signs)), (a 7, .inl (Y 0, 6, .inl M_column)), (a 8, .inl (Y 0, 6, .inl M_loads)), (a 9, .inl (Y 0, 2048, .inl M_sums)), (a 10, .inl (Y 0, 2048, .inl M_groups)), (a 11, .inl (Y 0, 155, .inl M_told))] := hD
      refine lv_aload_n hx hb dX11_passNights_32 rfl (lv_at hl 0 rfl) ?_
      refine lv_iload_n hx hb dX11_passNights_33 rfl (lv_at hl 1 rfl) ?_
      obtain ⟨r23, w24, hr25, hf⟩ := wkb2_s hf
      refine wk_evi (As := [.int x1]) (rest := []) (wc := (wX11 Y a M_g w19 M_saved M_before M_isSaved w20 M_isWithin w21 M_input M_length M_fault M_failed M_signs M_signMany M_column M_loads M_many M_sums M_groups M_at M_told M_toldMany)) (w1 := (wX11 Y a w24 w19 M_saved M_before M_isSaved w20 M_isWithin w21 M_input M_length M_fault M_failed M_signs M_signMany M_column M_loads M_many M_sums M_groups M_at M_told M_toldMany)) (wr := []) ⟨hx, hb, hml, hown, hts⟩ (c_X11_passes l dC dI Y a M_g w19 M_saved M_before M_isSaved w20 M_isWithin w21 M_input M_length M_fault M_failed M_signs M_signMany M_column M_loads M_many M_sums M_groups M_at M_told M_toldMany x1 H.size r23 w24 hr25) (cwV 1 hts gX11_passNights_X11_passes rfl rfl rfl (by decide +kernel) ⟨Nat.le_of_ble_eq_true rfl, Nat.le_of_ble_eq_true rfl⟩) hK hP hD hS hA [0, 1, 2, 3, 4, 5, 6, 7, 8, 9, 10, 11] [] rfl rfl (by decide) (by decide) (by decide) (va_recv hK hP (ci := 11) (q0 := 0) rfl rfl) rfl hl.1 rfl (Nat.le_of_ble_eq_true rfl) dX11_passNights_34 ⟨Nat.le_of_ble_eq_true rfl, Nat.le_of_ble_eq_true rfl⟩ (fun H locs hP hD hS => ?_)
      have hP : va_P (dC, dI) vwCl [(a 0, .inr (11, [.ref (a 1), .ref (a 2), .ref (a 3), .ref (a 4), .int M_isSaved, .int w20, .int M_isWithin, .int w21, .ref (a 5), .int M_length, .int M_fault, .int M_failed, .ref (a 6), .int M_signMany, .ref (a 7), .ref (a 8), .int M_many, .ref (a 9), .ref (a 10), .int M_at, .ref (a 11), .int M_toldMany])), (a 1, .inl (Y 0, 238, .inl w24)), (a 2, .inl (Y 0, 1904, .inl w19)), (a 3, .inl (Y 0, 238, .inl M_saved)), (a 4, .inl (Y 0, 238, .inl M_before)), (a 5, .inl (Y 0, 60, .inl M_input)), (a 6, .inl (Y 2, 100, .inl M_signs)), (a 7, .inl (Y 0, 6, .inl M_column)), (a 8, .inl (Y 0, 6, .inl M_loads)), (a 9, .inl (Y 0, 2048, .inl M_sums)), (a 10, .inl (Y 0, 2048, .inl M_groups)), (a 11, .inl (Y 0, 155, .inl M_told))] H := hP
      have hD : va_D A [(a 0, .inr (11, [.ref (a 1), .ref (a 2), .ref (a 3), .ref (a 4), .int M_isSaved, .int w20, .int M_isWithin, .int w21, .ref (a 5), .int M_length, .int M_fault, .int M_failed, .ref (a 6), .int M_signMany, .ref (a 7), .ref (a 8), .int M_many, .ref (a 9), .ref (a 10), .int M_at, .ref (a 11), .int M_toldMany])), (a 1, .inl (Y 0, 238, .inl w24)), (a 2, .inl (Y 0, 1904, .inl w19)), (a 3, .inl (Y 0, 238, .inl M_saved)), (a 4, .inl (Y 0, 238, .inl M_before)), (a 5, .inl (Y 0, 60, .inl M_input)), (a 6, .inl (Y 2, 100, .inl M_signs)), (a 7, .inl (Y 0, 6, .inl M_column)), (a 8, .inl (Y 0, 6, .inl M_loads)), (a 9, .inl (Y 0, 2048, .inl M_sums)), (a 10, .inl (Y 0, 2048, .inl M_groups)), (a 11, .inl (Y 0, 155, .inl M_told))] := hD
      obtain ⟨e0, e1, e2, e3, e4⟩ := wke5 hf
      subst e0
      subst e1
      subst e2
      subst e3
      subst e4
      have hP9 := hP.sub (ws' := (wX11 Y a w24 w19 M_saved M_before M_isSaved w20 M_isWithin w21 M_input M_length M_fault M_failed M_signs M_signMany M_column M_loads M_many M_sums M_groups M_at M_told M_toldMany)) [0, 1, 2, 3, 4, 5, 6, 7, 8, 9, 10, 11] rfl
      have hD9 := hD.sub (ws' := (wX11 Y a w24 w19 M_saved M_before M_isSaved w20 M_isWithin w21 M_input M_length M_fault M_failed M_signs M_signMany M_column M_loads M_many M_sums M_groups M_at M_told M_toldMany)) [0, 1, 2, 3, 4, 5, 6, 7, 8, 9, 10, 11] (by decide) rfl
      exact W.iret (v := r23) hx hb hr (fun t ht hW => ⟨⟨r23, (), rfl, rfl, by rw [ht]; exact hP9, va_K.moved hW.alike hK, hD9⟩, hS.F ht⟩) hS.2.2 dX11_passNights_37
    · have hf := wk_f hf q18
      refine lv_iconst (v := 0) hx hb dX11_passNights_22 (by decide) ?_
      obtain ⟨e0, e1, e2, e3, e4⟩ := wke5 hf
      subst e0
      subst e1
      subst e2
      subst e3
      subst e4
      have hP9 := hP.sub (ws' := (wX11 Y a M_g M_kept M_saved M_before M_isSaved M_changes M_isWithin w16 M_input M_length M_fault M_failed M_signs M_signMany M_column M_loads M_many M_sums M_groups M_at M_told M_toldMany)) [0, 1, 2, 3, 4, 5, 6, 7, 8, 9, 10, 11] rfl
      have hD9 := hD.sub (ws' := (wX11 Y a M_g M_kept M_saved M_before M_isSaved M_changes M_isWithin w16 M_input M_length M_fault M_failed M_signs M_signMany M_column M_loads M_many M_sums M_groups M_at M_told M_toldMany)) [0, 1, 2, 3, 4, 5, 6, 7, 8, 9, 10, 11] (by decide) rfl
      exact W.iret (v := 0) hx hb hr (fun t ht hW => ⟨⟨0, (), rfl, rfl, by rw [ht]; exact hP9, va_K.moved hW.alike hK, hD9⟩, hS.F ht⟩) hS.2.2 dX11_passNights_23
theorem lk_X11_closeBooks_RX11_7 : Cond.fieldLink RX11 7 "CircusLedgerModel" "g" "[I" ∈ wsX11_closeBooks := by decide +kernel
theorem in_X11_closeBooks_X11 : ∀ w ∈ u_ws RX11 TX11 22, w ∈ wsX11_closeBooks := by decide +kernel
def f_X11_closeBooks_L50 (M_isWithin : Int32) : Nat → Int32 → Int32 → (Nat → Int32) → (Nat → Int32) → Int32 → Int32 → Option (Int32 × (Nat → Int32) × (Nat → Int32) × Int32 × Int32)
  | 0, _, _, _, _, _, _ => none
  | nn + 1, x1, x2, M_g, M_kept, M_changes, M_code =>
    if (238 : Int32) ≤ x2 then
      (wkl (upd M_g 3 0) (fun g2 =>
      some (x1, g2, M_kept, M_changes, M_code)))
    else
      (gin x2 238 (wkl (upd M_g x2.toNatClampNeg 0) (fun g3 =>
      f_X11_closeBooks_L50 M_isWithin nn x1 (x2 + 1) g3 M_kept M_changes M_code)))
def f_X11_closeBooks_L17 (M_isWithin : Int32) : Nat → Int32 → Int32 → (Nat → Int32) → (Nat → Int32) → Int32 → Int32 → Option (Int32 × (Nat → Int32) × (Nat → Int32) × Int32 × Int32)
  | 0, _, _, _, _, _, _ => none
  | nn + 1, x1, x2, M_g, M_kept, M_changes, M_code =>
    if (11 : Int32) ≤ x2 then
      (f_X11_closeBooks_L50 M_isWithin FU x1 58 M_g M_kept M_changes M_code)
    else
      (gin (36 + x2) 238 (gin (47 + x2) 238 (wkl (upd M_g ((47 + x2).toNatClampNeg) (M_g (36 + x2).toNatClampNeg)) (fun g3 =>
      f_X11_closeBooks_L17 M_isWithin nn x1 (x2 + 1) g3 M_kept M_changes M_code))))
def f_X11_closeBooks (M_g : Nat → Int32) (M_kept : Nat → Int32) (M_changes : Int32) (M_isWithin : Int32) (M_code : Int32) : Option (Int32 × (Nat → Int32) × (Nat → Int32) × Int32 × Int32) :=
  wkb3 (f_X11_keeps_g M_g M_kept M_changes M_isWithin M_code) (fun w1 w2 w3 =>
  f_X11_closeBooks_L17 M_isWithin FU (M_g 3) 0 M_g w1 w2 w3)
set_option maxHeartbeats 4000000 in
set_option maxRecDepth 100000 in
theorem wl_X11_closeBooks_L50 {p : Program} {l : Launch} {e : Env} {s : State} {m : MethodId} {args : Array Value} {below : List Frame} {meth : Method} {c : Code} {dC : Nat → ClassId} {dI : Nat → Nat → Nat} {Y : Nat → ClassId} {a : Nat → Nat} {M_saved : Nat → Int32} {M_before : Nat → Int32} {M_isSaved : Int32} {M_isWithin : Int32} {M_input : Nat → Int32} {M_length : Int32} {M_fault : Int32} {M_failed : Int32} {M_signs : Nat → Int32} {M_signMany : Int32} {M_column : Nat → Int32} {M_loads : Nat → Int32} {M_many : Int32} {M_sums : Nat → Int32} {M_groups : Nat → Int32} {M_at : Int32} {M_told : Nat → Int32} {M_toldMany : Int32}  {r : Int32} {zM_g : Nat → Int32} {zM_kept : Nat → Int32} {zM_changes : Int32} {zM_code : Int32}  (C0 : wk_C p s m args meth c cX11_closeBooks 3 (some .int) wsX11_closeBooks RX11) {A : Nat → Prop} (hK : va_K (dC, dI) vwCl (vTy Y) s) (hA : ∀ q, s.heap.size ≤ q → A q) : ∀ (nn : Nat) (x1 : Int32) (x2 : Int32)  (M_g : Nat → Int32) (M_kept : Nat → Int32) (M_changes : Int32) (M_code : Int32), f_X11_closeBooks_L50 M_isWithin nn x1 x2 M_g M_kept M_changes M_code = some (r, zM_g, zM_kept, zM_changes, zM_code) → ∀ (H : Heap) (locs : List Loc), va_P (dC, dI) vwCl (wX11 Y a M_g M_kept M_saved M_before M_isSaved M_changes M_isWithin M_code M_input M_length M_fault M_failed M_signs M_signMany M_column M_loads M_many M_sums M_groups M_at M_told M_toldMany) H → va_D A (wX11 Y a M_g M_kept M_saved M_before M_isSaved M_changes M_isWithin M_code M_input M_length M_fault M_failed M_signs M_signMany M_column M_loads M_many M_sums M_groups M_at M_told M_toldMany) → va_S A s.heap H locs → ∀ (ls : Array Slot), lv_has ls 3 [(0, .ref (a 0)), (1, .int x1), (2, .int x2)] → W p l e (headSpec wsX11_closeBooks ({ frames := 2, cells := 0, slots := 0, locals := 46 } : Room)).room s m args below meth c H locs 0 0 (MQ below (va_Qi (fun r2 (_ : Unit) => r2 = r) (fun _ t => wk_X (dC, dI) Y (wX11 Y a zM_g zM_kept M_saved M_before M_isSaved zM_changes M_isWithin zM_code M_input M_length M_fault M_failed M_signs M_signMany M_column M_loads M_many M_sums M_groups M_at M_told M_toldMany) A t) A) args s 0 0 A) (F0 m 50 ls []) := by
  have C0 := C0
  obtain ⟨hx, hb, hml, hr, hlocks, hown, hts⟩ := id C0
  intro nn
  induction nn with
  | zero =>
    intro x1 x2 M_g M_kept M_changes M_code hf
    rw [f_X11_closeBooks_L50] at hf
    cases hf
  | succ nn ih =>
    intro x1 x2 M_g M_kept M_changes M_code hf H locs hP hD hS ls hl
    rw [f_X11_closeBooks_L50] at hf
    have hP : va_P (dC, dI) vwCl [(a 0, .inr (11, [.ref (a 1), .ref (a 2), .ref (a 3), .ref (a 4), .int M_isSaved, .int M_changes, .int M_isWithin, .int M_code, .ref (a 5), .int M_length, .int M_fault, .int M_failed, .ref (a 6), .int M_signMany, .ref (a 7), .ref (a 8), .int M_many, .ref (a 9), .ref (a 10), .int M_at, .ref (a 11), .int M_toldMany])), (a 1, .inl (Y 0, 238, .inl M_g)), (a 2, .inl (Y 0, 1904, .inl M_kept)), (a 3, .inl (Y 0, 238, .inl M_saved)), (a 4, .inl (Y 0, 238, .inl M_before)), (a 5, .inl (Y 0, 60, .inl M_input)), (a 6, .inl (Y 2, 100, .inl M_signs)), (a 7, .inl (Y 0, 6, .inl M_column)), (a 8, .inl (Y 0, 6, .inl M_loads)), (a 9, .inl (Y 0, 2048, .inl M_sums)), (a 10, .inl (Y 0, 2048, .inl M_groups)), (a 11, .inl (Y 0, 155, .inl M_told))] H := hP
    have hD : va_D A [(a 0, .inr (11, [.ref (a 1), .ref (a 2), .ref (a 3), .ref (a 4), .int M_isSaved, .int M_changes, .int M_isWithin, .int M_code, .ref (a 5), .int M_length, .int M_fault, .int M_failed, .ref (a 6), .int M_signMany, .ref (a 7), .ref (a 8), .int M_many, .ref (a 9), .ref (a 10), .int M_at, .ref (a 11), .int M_toldMany])), (a 1, .inl (Y 0, 238, .inl M_g)), (a 2, .inl (Y 0, 1904, .inl M_kept)), (a 3, .inl (Y 0, 238, .inl M_saved)), (a 4, .inl (Y 0, 238, .inl M_before)), (a 5, .inl (Y 0, 60, .inl M_input)), (a 6, .inl (Y 2, 100, .inl M_signs)), (a 7, .inl (Y 0, 6, .inl M_column)), (a 8, .inl (Y 0, 6, .inl M_loads)), (a 9, .inl (Y 0, 2048, .inl M_sums)), (a 10, .inl (Y 0, 2048, .inl M_groups)), (a 11, .inl (Y 0, 155, .inl M_told))] := hD
    refine lv_iload_n hx hb dX11_closeBooks_50 rfl (lv_at hl 2 rfl) ?_
    refine lv_sipush (v := 238) hx hb dX11_closeBooks_51 (by decide) ?_
    refine lv_icmp_ge (tgt := 70) hx hb dX11_closeBooks_54 (by decide) (fun q1 => ?_) (fun q1 => ?_)
    · have hf := wk_t hf q1
      refine lv_aload_n hx hb dX11_closeBooks_70 rfl (lv_at hl 0 rfl) ?_
      refine va_get (D := (dC, dI)) (ci := 11) (v := .ref (a 1)) (C := RX11) (T := TX11) (N := 22) hx hb hts in_X11_closeBooks_X11 hown hK hP 0 rfl rfl 0 (by decide) (hts _ lk_X11_closeBooks_RX11_7) (fun _ h9 => h9) rfl dX11_closeBooks_71 ?_
      refine lv_iconst (v := 3) hx hb dX11_closeBooks_74 (by decide) ?_
      refine lv_iconst (v := 0) hx hb dX11_closeBooks_75 (by decide) ?_
      refine wk_iast hx hb hK hP hD hS 1 0 (k := 3) rfl rfl (vp_lit (by decide)) (by decide) dX11_closeBooks_76 (fun g2 H locs eg2 hP hD hS => ?_)
      have hP : va_P (dC, dI) vwCl [(a 0, .inr (11, [.ref (a 1), .ref (a 2), .ref (a 3), .ref (a 4), .int M_isSaved, .int M_changes, .int M_isWithin, .int M_code, .ref (a 5), .int M_length, .int M_fault, .int M_failed, .ref (a 6), .int M_signMany, .ref (a 7), .ref (a 8), .int M_many, .ref (a 9), .ref (a 10), .int M_at, .ref (a 11), .int M_toldMany])), (a 1, .inl (Y 0, 238, .inl g2)), (a 2, .inl (Y 0, 1904, .inl M_kept)), (a 3, .inl (Y 0, 238, .inl M_saved)), (a 4, .inl (Y 0, 238, .inl M_before)), (a 5, .inl (Y 0, 60, .inl M_input)), (a 6, .inl (Y 2, 100, .inl M_signs)), (a 7, .inl (Y 0, 6, .inl M_column)), (a 8, .inl (Y 0, 6, .inl M_loads)), (a 9, .inl (Y 0, 2048, .inl M_sums)), (a 10, .inl (Y 0, 2048, .inl M_groups)), (a 11, .inl (Y 0, 155, .inl M_told))] H := hP
      have hD : va_D A [(a 0, .inr (11, [.ref (a 1), .ref (a 2), .ref (a 3), .ref (a 4), .int M_isSaved, .int M_changes, .int M_isWithin, .int M_code, .ref (a 5), .int M_length, .int M_fault, .int M_failed, .ref (a 6), .int M_signMany, .ref (a 7), .ref (a 8), .int M_many, .ref (a 9), .ref (a 10), .int M_at, .ref (a 11), .int M_toldMany])), (a 1, .inl (Y 0, 238, .inl g2)), (a 2, .inl (Y 0, 1904, .inl M_kept)), (a 3, .inl (Y 0, 238, .inl M_saved)), (a 4, .inl (Y 0, 238, .inl M_before)), (a 5, .inl (Y 0, 60, .inl M_input)), (a 6, .inl (Y 2, 100, .inl M_signs)), (a 7, .inl (Y 0, 6, .inl M_column)), (a 8, .inl (Y 0, 6, .inl M_loads)), (a 9, .inl (Y 0, 2048, .inl M_sums)), (a 10, .inl (Y 0, 2048, .inl M_groups)), (a 11, .inl (Y 0, 155, .inl M_told))] := hD
      have hf := wkl_s hf eg2
      refine lv_iload_n hx hb dX11_closeBooks_77 rfl (lv_at hl 1 rfl) ?_
      obtain ⟨e0, e1, e2, e3, e4⟩ := wke5 hf
      subst e0
      subst e1
      subst e2
      subst e3
      subst e4
      have hP9 := hP.sub (ws' := (wX11 Y a g2 M_kept M_saved M_before M_isSaved M_changes M_isWithin M_code M_input M_length M_fault M_failed M_signs M_signMany M_column M_loads M_many M_sums M_groups M_at M_told M_toldMany)) [0, 1, 2, 3, 4, 5, 6, 7, 8, 9, 10, 11] rfl
      have hD9 := hD.sub (ws' := (wX11 Y a g2 M_kept M_saved M_before M_isSaved M_changes M_isWithin M_code M_input M_length M_fault M_failed M_signs M_signMany M_column M_loads M_many M_sums M_groups M_at M_told M_toldMany)) [0, 1, 2, 3, 4, 5, 6, 7, 8, 9, 10, 11] (by decide) rfl
      exact W.iret (v := x1) hx hb hr (fun t ht hW => ⟨⟨x1, (), rfl, rfl, by rw [ht]; exact hP9, va_K.moved hW.alike hK, hD9⟩, hS.F ht⟩) hS.2.2 dX11_closeBooks_78
    · have hf := wk_f hf q1
      refine lv_aload_n hx hb dX11_closeBooks_57 rfl (lv_at hl 0 rfl) ?_
      refine va_get (D := (dC, dI)) (ci := 11) (v := .ref (a 1)) (C := RX11) (T := TX11) (N := 22) hx hb hts in_X11_closeBooks_X11 hown hK hP 0 rfl rfl 0 (by decide) (hts _ lk_X11_closeBooks_RX11_7) (fun _ h9 => h9) rfl dX11_closeBooks_58 ?_
      refine lv_iload_n hx hb dX11_closeBooks_61 rfl (lv_at hl 2 rfl) ?_
      refine lv_iconst (v := 0) hx hb dX11_closeBooks_62 (by decide) ?_
      obtain ⟨h4, hf⟩ := gin_s hf
      refine wk_iast hx hb hK hP hD hS 1 0 (k := x2.toNatClampNeg) rfl rfl h4 rfl dX11_closeBooks_63 (fun g3 H locs eg3 hP hD hS => ?_)
      have hP : va_P (dC, dI) vwCl [(a 0, .inr (11, [.ref (a 1), .ref (a 2), .ref (a 3), .ref (a 4), .int M_isSaved, .int M_changes, .int M_isWithin, .int M_code, .ref (a 5), .int M_length, .int M_fault, .int M_failed, .ref (a 6), .int M_signMany, .ref (a 7), .ref (a 8), .int M_many, .ref (a 9), .ref (a 10), .int M_at, .ref (a 11), .int M_toldMany])), (a 1, .inl (Y 0, 238, .inl g3)), (a 2, .inl (Y 0, 1904, .inl M_kept)), (a 3, .inl (Y 0, 238, .inl M_saved)), (a 4, .inl (Y 0, 238, .inl M_before)), (a 5, .inl (Y 0, 60, .inl M_input)), (a 6, .inl (Y 2, 100, .inl M_signs)), (a 7, .inl (Y 0, 6, .inl M_column)), (a 8, .inl (Y 0, 6, .inl M_loads)), (a 9, .inl (Y 0, 2048, .inl M_sums)), (a 10, .inl (Y 0, 2048, .inl M_groups)), (a 11, .inl (Y 0, 155, .inl M_told))] H := hP
      have hD : va_D A [(a 0, .inr (11, [.ref (a 1), .ref (a 2), .ref (a 3), .ref (a 4), .int M_isSaved, .int M_changes, .int M_isWithin, .int M_code, .ref (a 5), .int M_length, .int M_fault, .int M_failed, .ref (a 6), .int M_signMany, .ref (a 7), .ref (a 8), .int M_many, .ref (a 9), .ref (a 10), .int M_at, .ref (a 11), .int M_toldMany])), (a 1, .inl (Y 0, 238, .inl g3)), (a 2, .inl (Y 0, 1904, .inl M_kept)), (a 3, .inl (Y 0, 238, .inl M_saved)), (a 4, .inl (Y 0, 238, .inl M_before)), (a 5, .inl (Y 0, 60, .inl M_input)), (a 6, .inl (Y 2, 100, .inl M_signs)), (a 7, .inl (Y 0, 6, .inl M_column)), (a 8, .inl (Y 0, 6, .inl M_loads)), (a 9, .inl (Y 0, 2048, .inl M_sums)), (a 10, .inl (Y 0, 2048, .inl M_groups)), (a 11, .inl (Y 0, 155, .inl M_told))] := hD
      have hf := wkl_s hf eg3
      refine lv_iinc (v := (x2 + 1)) (lv' := [(2, .int (x2 + 1)), (0, .ref (a 0)), (1, .int x1)]) hx hb dX11_closeBooks_64 hl (k := 2) rfl rfl (by decide) rfl (fun ls hl => ?_)
      refine lv_goto (tgt := 50) hx hb dX11_closeBooks_67 (by decide) ?_
      exact ih x1 (x2 + 1) g3 M_kept M_changes M_code hf H locs hP hD hS ls (lv_sub hl [1, 2, 0] rfl)
set_option maxHeartbeats 4000000 in
set_option maxRecDepth 100000 in
theorem wl_X11_closeBooks_L17 {p : Program} {l : Launch} {e : Env} {s : State} {m : MethodId} {args : Array Value} {below : List Frame} {meth : Method} {c : Code} {dC : Nat → ClassId} {dI : Nat → Nat → Nat} {Y : Nat → ClassId} {a : Nat → Nat} {M_saved : Nat → Int32} {M_before : Nat → Int32} {M_isSaved : Int32} {M_isWithin : Int32} {M_input : Nat → Int32} {M_length : Int32} {M_fault : Int32} {M_failed : Int32} {M_signs : Nat → Int32} {M_signMany : Int32} {M_column : Nat → Int32} {M_loads : Nat → Int32} {M_many : Int32} {M_sums : Nat → Int32} {M_groups : Nat → Int32} {M_at : Int32} {M_told : Nat → Int32} {M_toldMany : Int32}  {r : Int32} {zM_g : Nat → Int32} {zM_kept : Nat → Int32} {zM_changes : Int32} {zM_code : Int32}  (C0 : wk_C p s m args meth c cX11_closeBooks 3 (some .int) wsX11_closeBooks RX11) {A : Nat → Prop} (hK : va_K (dC, dI) vwCl (vTy Y) s) (hA : ∀ q, s.heap.size ≤ q → A q) : ∀ (nn : Nat) (x1 : Int32) (x2 : Int32)  (M_g : Nat → Int32) (M_kept : Nat → Int32) (M_changes : Int32) (M_code : Int32), f_X11_closeBooks_L17 M_isWithin nn x1 x2 M_g M_kept M_changes M_code = some (r, zM_g, zM_kept, zM_changes, zM_code) → ∀ (H : Heap) (locs : List Loc), va_P (dC, dI) vwCl (wX11 Y a M_g M_kept M_saved M_before M_isSaved M_changes M_isWithin M_code M_input M_length M_fault M_failed M_signs M_signMany M_column M_loads M_many M_sums M_groups M_at M_told M_toldMany) H → va_D A (wX11 Y a M_g M_kept M_saved M_before M_isSaved M_changes M_isWithin M_code M_input M_length M_fault M_failed M_signs M_signMany M_column M_loads M_many M_sums M_groups M_at M_told M_toldMany) → va_S A s.heap H locs → ∀ (ls : Array Slot), lv_has ls 3 [(0, .ref (a 0)), (1, .int x1), (2, .int x2)] → W p l e (headSpec wsX11_closeBooks ({ frames := 2, cells := 0, slots := 0, locals := 46 } : Room)).room s m args below meth c H locs 0 0 (MQ below (va_Qi (fun r2 (_ : Unit) => r2 = r) (fun _ t => wk_X (dC, dI) Y (wX11 Y a zM_g zM_kept M_saved M_before M_isSaved zM_changes M_isWithin zM_code M_input M_length M_fault M_failed M_signs M_signMany M_column M_loads M_many M_sums M_groups M_at M_told M_toldMany) A t) A) args s 0 0 A) (F0 m 17 ls []) := by
  have C0 := C0
  obtain ⟨hx, hb, hml, hr, hlocks, hown, hts⟩ := id C0
  intro nn
  induction nn with
  | zero =>
    intro x1 x2 M_g M_kept M_changes M_code hf
    rw [f_X11_closeBooks_L17] at hf
    cases hf
  | succ nn ih =>
    intro x1 x2 M_g M_kept M_changes M_code hf H locs hP hD hS ls hl
    rw [f_X11_closeBooks_L17] at hf
    have hP : va_P (dC, dI) vwCl [(a 0, .inr (11, [.ref (a 1), .ref (a 2), .ref (a 3), .ref (a 4), .int M_isSaved, .int M_changes, .int M_isWithin, .int M_code, .ref (a 5), .int M_length, .int M_fault, .int M_failed, .ref (a 6), .int M_signMany, .ref (a 7), .ref (a 8), .int M_many, .ref (a 9), .ref (a 10), .int M_at, .ref (a 11), .int M_toldMany])), (a 1, .inl (Y 0, 238, .inl M_g)), (a 2, .inl (Y 0, 1904, .inl M_kept)), (a 3, .inl (Y 0, 238, .inl M_saved)), (a 4, .inl (Y 0, 238, .inl M_before)), (a 5, .inl (Y 0, 60, .inl M_input)), (a 6, .inl (Y 2, 100, .inl M_signs)), (a 7, .inl (Y 0, 6, .inl M_column)), (a 8, .inl (Y 0, 6, .inl M_loads)), (a 9, .inl (Y 0, 2048, .inl M_sums)), (a 10, .inl (Y 0, 2048, .inl M_groups)), (a 11, .inl (Y 0, 155, .inl M_told))] H := hP
    have hD : va_D A [(a 0, .inr (11, [.ref (a 1), .ref (a 2), .ref (a 3), .ref (a 4), .int M_isSaved, .int M_changes, .int M_isWithin, .int M_code, .ref (a 5), .int M_length, .int M_fault, .int M_failed, .ref (a 6), .int M_signMany, .ref (a 7), .ref (a 8), .int M_many, .ref (a 9), .ref (a 10), .int M_at, .ref (a 11), .int M_toldMany])), (a 1, .inl (Y 0, 238, .inl M_g)), (a 2, .inl (Y 0, 1904, .inl M_kept)), (a 3, .inl (Y 0, 238, .inl M_saved)), (a 4, .inl (Y 0, 238, .inl M_before)), (a 5, .inl (Y 0, 60, .inl M_input)), (a 6, .inl (Y 2, 100, .inl M_signs)), (a 7, .inl (Y 0, 6, .inl M_column)), (a 8, .inl (Y 0, 6, .inl M_loads)), (a 9, .inl (Y 0, 2048, .inl M_sums)), (a 10, .inl (Y 0, 2048, .inl M_groups)), (a 11, .inl (Y 0, 155, .inl M_told))] := hD
    refine lv_iload_n hx hb dX11_closeBooks_17 rfl (lv_at hl 2 rfl) ?_
    refine lv_bipush (v := 11) hx hb dX11_closeBooks_18 (by decide) ?_
    refine lv_icmp_ge (tgt := 47) hx hb dX11_closeBooks_20 (by decide) (fun q1 => ?_) (fun q1 => ?_)
    · have hf := wk_t hf q1
      refine lv_bipush (v := 58) hx hb dX11_closeBooks_47 (by decide) ?_
      refine lv_istore_n (lv' := [(2, .int 58), (0, .ref (a 0)), (1, .int x1)]) hx hb dX11_closeBooks_49 rfl hl (by decide) rfl (fun ls hl => ?_)
      exact wl_X11_closeBooks_L50 C0 hK hA FU x1 58 M_g M_kept M_changes M_code hf H locs hP hD hS ls (lv_sub hl [1, 2, 0] rfl)
    · have hf := wk_f hf q1
      refine lv_aload_n hx hb dX11_closeBooks_23 rfl (lv_at hl 0 rfl) ?_
      refine va_get (D := (dC, dI)) (ci := 11) (v := .ref (a 1)) (C := RX11) (T := TX11) (N := 22) hx hb hts in_X11_closeBooks_X11 hown hK hP 0 rfl rfl 0 (by decide) (hts _ lk_X11_closeBooks_RX11_7) (fun _ h9 => h9) rfl dX11_closeBooks_24 ?_
      refine lv_bipush (v := 47) hx hb dX11_closeBooks_27 (by decide) ?_
      refine lv_iload_n hx hb dX11_closeBooks_29 rfl (lv_at hl 2 rfl) ?_
      refine lv_iadd hx hb dX11_closeBooks_30 ?_
      refine lv_aload_n hx hb dX11_closeBooks_31 rfl (lv_at hl 0 rfl) ?_
      refine va_get (D := (dC, dI)) (ci := 11) (v := .ref (a 1)) (C := RX11) (T := TX11) (N := 22) hx hb hts in_X11_closeBooks_X11 hown hK hP 0 rfl rfl 0 (by decide) (hts _ lk_X11_closeBooks_RX11_7) (fun _ h9 => h9) rfl dX11_closeBooks_32 ?_
      refine lv_bipush (v := 36) hx hb dX11_closeBooks_35 (by decide) ?_
      refine lv_iload_n hx hb dX11_closeBooks_37 rfl (lv_at hl 2 rfl) ?_
      refine lv_iadd hx hb dX11_closeBooks_38 ?_
      obtain ⟨h2, hf⟩ := gin_s hf
      refine wk_iald hx hb hK hP 1 0 rfl rfl h2 rfl dX11_closeBooks_39 ?_
      obtain ⟨h4, hf⟩ := gin_s hf
      refine wk_iast hx hb hK hP hD hS 1 0 (k := (47 + x2).toNatClampNeg) rfl rfl h4 rfl dX11_closeBooks_40 (fun g3 H locs eg3 hP hD hS => ?_)
      have hP : va_P (dC, dI) vwCl [(a 0, .inr (11, [.ref (a 1), .ref (a 2), .ref (a 3), .ref (a 4), .int M_isSaved, .int M_changes, .int M_isWithin, .int M_code, .ref (a 5), .int M_length, .int M_fault, .int M_failed, .ref (a 6), .int M_signMany, .ref (a 7), .ref (a 8), .int M_many, .ref (a 9), .ref (a 10), .int M_at, .ref (a 11), .int M_toldMany])), (a 1, .inl (Y 0, 238, .inl g3)), (a 2, .inl (Y 0, 1904, .inl M_kept)), (a 3, .inl (Y 0, 238, .inl M_saved)), (a 4, .inl (Y 0, 238, .inl M_before)), (a 5, .inl (Y 0, 60, .inl M_input)), (a 6, .inl (Y 2, 100, .inl M_signs)), (a 7, .inl (Y 0, 6, .inl M_column)), (a 8, .inl (Y 0, 6, .inl M_loads)), (a 9, .inl (Y 0, 2048, .inl M_sums)), (a 10, .inl (Y 0, 2048, .inl M_groups)), (a 11, .inl (Y 0, 155, .inl M_told))] H := hP
      have hD : va_D A [(a 0, .inr (11, [.ref (a 1), .ref (a 2), .ref (a 3), .ref (a 4), .int M_isSaved, .int M_changes, .int M_isWithin, .int M_code, .ref (a 5), .int M_length, .int M_fault, .int M_failed, .ref (a 6), .int M_signMany, .ref (a 7), .ref (a 8), .int M_many, .ref (a 9), .ref (a 10), .int M_at, .ref (a 11), .int M_toldMany])), (a 1, .inl (Y 0, 238, .inl g3)), (a 2, .inl (Y 0, 1904, .inl M_kept)), (a 3, .inl (Y 0, 238, .inl M_saved)), (a 4, .inl (Y 0, 238, .inl M_before)), (a 5, .inl (Y 0, 60, .inl M_input)), (a 6, .inl (Y 2, 100, .inl M_signs)), (a 7, .inl (Y 0, 6, .inl M_column)), (a 8, .inl (Y 0, 6, .inl M_loads)), (a 9, .inl (Y 0, 2048, .inl M_sums)), (a 10, .inl (Y 0, 2048, .inl M_groups)), (a 11, .inl (Y 0, 155, .inl M_told))] := hD
      have hf := wkl_s hf eg3
      refine lv_iinc (v := (x2 + 1)) (lv' := [(2, .int (x2 + 1)), (0, .ref (a 0)), (1, .int x1)]) hx hb dX11_closeBooks_41 hl (k := 2) rfl rfl (by decide) rfl (fun ls hl => ?_)
      refine lv_goto (tgt := 17) hx hb dX11_closeBooks_44 (by decide) ?_
      exact ih x1 (x2 + 1) g3 M_kept M_changes M_code hf H locs hP hD hS ls (lv_sub hl [1, 2, 0] rfl)
set_option maxHeartbeats 4000000 in
set_option maxRecDepth 100000 in
theorem c_X11_closeBooks (l : Launch) (dC : Nat → ClassId) (dI : Nat → Nat → Nat) (Y : Nat → ClassId) (a : Nat → Nat) (M_g : Nat → Int32) (M_kept : Nat → Int32) (M_saved : Nat → Int32) (M_before : Nat → Int32) (M_isSaved : Int32) (M_changes : Int32) (M_isWithin : Int32) (M_code : Int32) (M_input : Nat → Int32) (M_length : Int32) (M_fault : Int32) (M_failed : Int32) (M_signs : Nat → Int32) (M_signMany : Int32) (M_column : Nat → Int32) (M_loads : Nat → Int32) (M_many : Int32) (M_sums : Nat → Int32) (M_groups : Nat → Int32) (M_at : Int32) (M_told : Nat → Int32) (M_toldMany : Int32)  (sz : Nat) (r : Int32) (zM_g : Nat → Int32) (zM_kept : Nat → Int32) (zM_changes : Int32) (zM_code : Int32) (hf : f_X11_closeBooks M_g M_kept M_changes M_isWithin M_code = some (r, zM_g, zM_kept, zM_changes, zM_code)) : Met l yX11_closeBooks wsX11_closeBooks ({ frames := 2, cells := 0, slots := 0, locals := 46 } : Room) (va_Pc [.ref (a 0)] (wk_E (dC, dI) Y (wX11 Y a M_g M_kept M_saved M_before M_isSaved M_changes M_isWithin M_code M_input M_length M_fault M_failed M_signs M_signMany M_column M_loads M_many M_sums M_groups M_at M_told M_toldMany) sz)) (va_Qi (fun r2 (_ : Unit) => r2 = r) (fun _ t => wk_X (dC, dI) Y (wX11 Y a zM_g zM_kept M_saved M_before M_isSaved zM_changes M_isWithin zM_code M_input M_length M_fault M_failed M_signs M_signMany M_column M_loads M_many M_sums M_groups M_at M_told M_toldMany) (va_A (wX11 Y a M_g M_kept M_saved M_before M_isSaved M_changes M_isWithin M_code M_input M_length M_fault M_failed M_signs M_signMany M_column M_loads M_many M_sums M_groups M_at M_told M_toldMany) sz) t) (va_A (wX11 Y a M_g M_kept M_saved M_before M_isSaved M_changes M_isWithin M_code M_input M_length M_fault M_failed M_signs M_signMany M_column M_loads M_many M_sums M_groups M_at M_told M_toldMany) sz)) 0 0 (va_A (wX11 Y a M_g M_kept M_saved M_before M_isSaved M_changes M_isWithin M_code M_input M_length M_fault M_failed M_signs M_signMany M_column M_loads M_many M_sums M_groups M_at M_told M_toldMany) sz) := by
  refine Met.ofW (cc := cX11_closeBooks) (maxL := 3) (ret := (some .int)) (by decide) rfl ?_
  intro p e s m args below meth c s₁ B hml hv
  obtain ⟨rfl, hsz, hP, hK, hD0⟩ := hv
  have hx := B.exec
  have hb := B.bytes
  have hr := B.returns
  have hts := atoms_spec (ws := wsX11_closeBooks) B.pre
  have hown : s.vm.findClass RX11 = some m.cls := findClass_of_methodNamed B.named
  have hlocks := B.notSynchronized
  have C0 : wk_C p s m _ meth c cX11_closeBooks 3 (some .int) wsX11_closeBooks RX11 := ⟨hx, hb, hml, hr, hlocks, hown, hts⟩
  subst hsz
  have hD := hD0.self (sz := s.heap.size)
  generalize hAe : va_A (wX11 Y a M_g M_kept M_saved M_before M_isSaved M_changes M_isWithin M_code M_input M_length M_fault M_failed M_signs M_signMany M_column M_loads M_many M_sums M_groups M_at M_told M_toldMany) s.heap.size = A at hD ⊢
  have hA : ∀ q : Nat, s.heap.size ≤ q → A q := fun q h => by rw [← hAe]; exact Or.inr h
  have hS : va_S A s.heap s.heap [] := va_S.rf
  obtain ⟨H, hHe⟩ : ∃ H, H = s.heap := ⟨_, rfl⟩
  have hS : va_S A s.heap H [] := by rw [hHe]; exact hS
  have hP : va_P (dC, dI) vwCl [(a 0, .inr (11, [.ref (a 1), .ref (a 2), .ref (a 3), .ref (a 4), .int M_isSaved, .int M_changes, .int M_isWithin, .int M_code, .ref (a 5), .int M_length, .int M_fault, .int M_failed, .ref (a 6), .int M_signMany, .ref (a 7), .ref (a 8), .int M_many, .ref (a 9), .ref (a 10), .int M_at, .ref (a 11), .int M_toldMany])), (a 1, .inl (Y 0, 238, .inl M_g)), (a 2, .inl (Y 0, 1904, .inl M_kept)), (a 3, .inl (Y 0, 238, .inl M_saved)), (a 4, .inl (Y 0, 238, .inl M_before)), (a 5, .inl (Y 0, 60, .inl M_input)), (a 6, .inl (Y 2, 100, .inl M_signs)), (a 7, .inl (Y 0, 6, .inl M_column)), (a 8, .inl (Y 0, 6, .inl M_loads)), (a 9, .inl (Y 0, 2048, .inl M_sums)), (a 10, .inl (Y 0, 2048, .inl M_groups)), (a 11, .inl (Y 0, 155, .inl M_told))] H := by rw [hHe]; exact hP
  have hD : va_D A [(a 0, .inr (11, [.ref (a 1), .ref (a 2), .ref (a 3), .ref (a 4), .int M_isSaved, .int M_changes, .int M_isWithin, .int M_code, .ref (a 5), .int M_length, .int M_fault, .int M_failed, .ref (a 6), .int M_signMany, .ref (a 7), .ref (a 8), .int M_many, .ref (a 9), .ref (a 10), .int M_at, .ref (a 11), .int M_toldMany])), (a 1, .inl (Y 0, 238, .inl M_g)), (a 2, .inl (Y 0, 1904, .inl M_kept)), (a 3, .inl (Y 0, 238, .inl M_saved)), (a 4, .inl (Y 0, 238, .inl M_before)), (a 5, .inl (Y 0, 60, .inl M_input)), (a 6, .inl (Y 2, 100, .inl M_signs)), (a 7, .inl (Y 0, 6, .inl M_column)), (a 8, .inl (Y 0, 6, .inl M_loads)), (a 9, .inl (Y 0, 2048, .inl M_sums)), (a 10, .inl (Y 0, 2048, .inl M_groups)), (a 11, .inl (Y 0, 155, .inl M_told))] := hD
  obtain ⟨locs, hlo⟩ : ∃ locs : List Loc, locs = [] := ⟨_, rfl⟩
  have hS : va_S A s.heap H locs := by rw [hlo]; exact hS
  have hl := lv_entry ([.ref (a 0)]) (n := 3) (Nat.le_of_ble_eq_true rfl)
  rw [lg_entry_eq]
  generalize (lg_sl ([.ref (a 0)]) ++ List.replicate (3 - (lg_sl ([.ref (a 0)])).length) Slot.unset).toArray = ls at hl ⊢
  have hl : lv_has ls 3 [(0, .ref (a 0))] := hl
  refine wk_start hHe hlo ?_
  rw [f_X11_closeBooks] at hf
  refine lv_aload_n hx hb dX11_closeBooks_0 rfl (lv_at hl 0 rfl) ?_
  refine lv_aload_n hx hb dX11_closeBooks_1 rfl (lv_at hl 0 rfl) ?_
  refine va_get (D := (dC, dI)) (ci := 11) (v := .ref (a 1)) (C := RX11) (T := TX11) (N := 22) hx hb hts in_X11_closeBooks_X11 hown hK hP 0 rfl rfl 0 (by decide) (hts _ lk_X11_closeBooks_RX11_7) (fun _ h9 => h9) rfl dX11_closeBooks_2 ?_
  obtain ⟨w1, w2, w3, hr4, hf⟩ := wkb3_s hf
  refine wk_evv (As := [.ref (a 1)]) (rest := []) (wc := (wX11 Y a M_g M_kept M_saved M_before M_isSaved M_changes M_isWithin M_code M_input M_length M_fault M_failed M_signs M_signMany M_column M_loads M_many M_sums M_groups M_at M_told M_toldMany)) (w1 := (wX11 Y a M_g w1 M_saved M_before M_isSaved w2 M_isWithin w3 M_input M_length M_fault M_failed M_signs M_signMany M_column M_loads M_many M_sums M_groups M_at M_told M_toldMany)) (wr := []) ⟨hx, hb, hml, hown, hts⟩ (c_X11_keeps_g l dC dI Y a M_g M_kept M_saved M_before M_isSaved M_changes M_isWithin M_code M_input M_length M_fault M_failed M_signs M_signMany M_column M_loads M_many M_sums M_groups M_at M_told M_toldMany H.size w1 w2 w3 hr4) (cwV 1 hts gX11_closeBooks_X11_keeps rfl rfl rfl (by decide +kernel) ⟨Nat.le_of_ble_eq_true rfl, Nat.le_of_ble_eq_true rfl⟩) hK hP hD hS hA [0, 1, 2, 3, 4, 5, 6, 7, 8, 9, 10, 11] [] rfl rfl (by decide) (by decide) (by decide) (va_recv hK hP (ci := 11) (q0 := 0) rfl rfl) rfl hl.1 rfl (Nat.le_of_ble_eq_true rfl) dX11_closeBooks_5 ⟨Nat.le_of_ble_eq_true rfl, Nat.le_of_ble_eq_true rfl⟩ (fun H locs hP hD hS => ?_)
  have hP : va_P (dC, dI) vwCl [(a 0, .inr (11, [.ref (a 1), .ref (a 2), .ref (a 3), .ref (a 4), .int M_isSaved, .int w2, .int M_isWithin, .int w3, .ref (a 5), .int M_length, .int M_fault, .int M_failed, .ref (a 6), .int M_signMany, .ref (a 7), .ref (a 8), .int M_many, .ref (a 9), .ref (a 10), .int M_at, .ref (a 11), .int M_toldMany])), (a 1, .inl (Y 0, 238, .inl M_g)), (a 2, .inl (Y 0, 1904, .inl w1)), (a 3, .inl (Y 0, 238, .inl M_saved)), (a 4, .inl (Y 0, 238, .inl M_before)), (a 5, .inl (Y 0, 60, .inl M_input)), (a 6, .inl (Y 2, 100, .inl M_signs)), (a 7, .inl (Y 0, 6, .inl M_column)), (a 8, .inl (Y 0, 6, .inl M_loads)), (a 9, .inl (Y 0, 2048, .inl M_sums)), (a 10, .inl (Y 0, 2048, .inl M_groups)), (a 11, .inl (Y 0, 155, .inl M_told))] H := hP
  have hD : va_D A [(a 0, .inr (11, [.ref (a 1), .ref (a 2), .ref (a 3), .ref (a 4), .int M_isSaved, .int w2, .int M_isWithin, .int w3, .ref (a 5), .int M_length, .int M_fault, .int M_failed, .ref (a 6), .int M_signMany, .ref (a 7), .ref (a 8), .int M_many, .ref (a 9), .ref (a 10), .int M_at, .ref (a 11), .int M_toldMany])), (a 1, .inl (Y 0, 238, .inl M_g)), (a 2, .inl (Y 0, 1904, .inl w1)), (a 3, .inl (Y 0, 238, .inl M_saved)), (a 4, .inl (Y 0, 238, .inl M_before)), (a 5, .inl (Y 0, 60, .inl M_input)), (a 6, .inl (Y 2, 100, .inl M_signs)), (a 7, .inl (Y 0, 6, .inl M_column)), (a 8, .inl (Y 0, 6, .inl M_loads)), (a 9, .inl (Y 0, 2048, .inl M_sums)), (a 10, .inl (Y 0, 2048, .inl M_groups)), (a 11, .inl (Y 0, 155, .inl M_told))] := hD
  refine lv_aload_n hx hb dX11_closeBooks_8 rfl (lv_at hl 0 rfl) ?_
  refine va_get (D := (dC, dI)) (ci := 11) (v := .ref (a 1)) (C := RX11) (T := TX11) (N := 22) hx hb hts in_X11_closeBooks_X11 hown hK hP 0 rfl rfl 0 (by decide) (hts _ lk_X11_closeBooks_RX11_7) (fun _ h9 => h9) rfl dX11_closeBooks_9 ?_
  refine lv_iconst (v := 3) hx hb dX11_closeBooks_12 (by decide) ?_
  refine wk_iald hx hb hK hP 1 0 (k := 3) rfl rfl (vp_lit (by decide)) (by decide) dX11_closeBooks_13 ?_
  refine lv_istore_n (lv' := [(1, .int (M_g 3)), (0, .ref (a 0))]) hx hb dX11_closeBooks_14 rfl hl (by decide) rfl (fun ls hl => ?_)
  refine lv_iconst (v := 0) hx hb dX11_closeBooks_15 (by decide) ?_
  refine lv_istore_n (lv' := [(2, .int 0), (1, .int (M_g 3)), (0, .ref (a 0))]) hx hb dX11_closeBooks_16 rfl hl (by decide) rfl (fun ls hl => ?_)
  exact wl_X11_closeBooks_L17 C0 hK hA FU (M_g 3) 0 M_g w1 w2 w3 hf H locs hP hD hS ls (lv_sub hl [2, 1, 0] rfl)
theorem lk_X11_cancel_RX11_7 : Cond.fieldLink RX11 7 "CircusLedgerModel" "g" "[I" ∈ wsX11_cancel := by decide +kernel
theorem in_X11_cancel_X11 : ∀ w ∈ u_ws RX11 TX11 22, w ∈ wsX11_cancel := by decide +kernel
def f_X11_cancel_L135 (M_isWithin : Int32) (x1 : Int32) (x2 : Int32) (x3 : Int32) (x5 : Int32) (y0 : Int32) (M_g : (Nat → Int32)) (M_kept : (Nat → Int32)) (M_changes : Int32) (M_code : Int32) : Option (Int32 × (Nat → Int32) × (Nat → Int32) × Int32 × Int32) :=
    if (0 : Int32) ≤ x3 then
      (wkb1 (f_X11_books M_g y0 x1 x5) (fun w2 =>
      some (x5, w2, M_kept, M_changes, M_code)))
    else
      (wkb1 (f_X11_books M_g y0 x2 x5) (fun w4 =>
      some (x5, w4, M_kept, M_changes, M_code)))
def f_X11_cancel_L115 (M_isWithin : Int32) (x1 : Int32) (x2 : Int32) (x3 : Int32) (y0 : Int32) (M_g : (Nat → Int32)) (M_kept : (Nat → Int32)) (M_changes : Int32) (M_code : Int32) : Option (Int32 × (Nat → Int32) × (Nat → Int32) × Int32 × Int32) :=
    wkb3 (f_X11_keeps_g M_g M_kept M_changes M_isWithin M_code) (fun w1 w2 w3 =>
    if (0 : Int32) ≤ x3 then
      (f_X11_cancel_L135 M_isWithin x1 x2 x3 y0 x2 M_g w1 w2 w3)
    else
      (f_X11_cancel_L135 M_isWithin x1 x2 x3 y0 x1 M_g w1 w2 w3))
def f_X11_cancel_L86 (M_isWithin : Int32) (x1 : Int32) (x2 : Int32) (x3 : Int32) (x4 : Int32) (y0 : Int32) (M_g : (Nat → Int32)) (M_kept : (Nat → Int32)) (M_changes : Int32) (M_code : Int32) : Option (Int32 × (Nat → Int32) × (Nat → Int32) × Int32 × Int32) :=
    wkb2 (f_X11_fails M_code y0) (fun r1 w2 =>
    if r1 = 0 then
      (if x3 ≤ 0 then
        (wkb1 (f_X11_least (-x3) x4) (fun r6 =>
        f_X11_cancel_L115 M_isWithin x1 x2 x3 r6 M_g M_kept M_changes w2))
      else
        (wkb1 (f_X11_least x3 (-x4)) (fun r8 =>
        f_X11_cancel_L115 M_isWithin x1 x2 x3 r8 M_g M_kept M_changes w2)))
    else
      (some (0, M_g, M_kept, M_changes, w2)))
def f_X11_cancel_L81 (M_isWithin : Int32) (x1 : Int32) (x2 : Int32) (x3 : Int32) (x4 : Int32) (M_g : (Nat → Int32)) (M_kept : (Nat → Int32)) (M_changes : Int32) (M_code : Int32) : Option (Int32 × (Nat → Int32) × (Nat → Int32) × Int32 × Int32) :=
    f_X11_cancel_L86 M_isWithin x1 x2 x3 x4 2 M_g M_kept M_changes M_code
def f_X11_cancel_L70 (M_isWithin : Int32) (x1 : Int32) (x2 : Int32) (x3 : Int32) (x4 : Int32) (M_g : (Nat → Int32)) (M_kept : (Nat → Int32)) (M_changes : Int32) (M_code : Int32) : Option (Int32 × (Nat → Int32) × (Nat → Int32) × Int32 × Int32) :=
    if (M_g 3) = 60 then
      (f_X11_cancel_L81 M_isWithin x1 x2 x3 x4 M_g M_kept M_changes M_code)
    else
      (f_X11_cancel_L86 M_isWithin x1 x2 x3 x4 0 M_g M_kept M_changes M_code)
def f_X11_cancel_L61 (M_isWithin : Int32) (x1 : Int32) (x2 : Int32) (x3 : Int32) (x4 : Int32) (M_g : (Nat → Int32)) (M_kept : (Nat → Int32)) (M_changes : Int32) (M_code : Int32) : Option (Int32 × (Nat → Int32) × (Nat → Int32) × Int32 × Int32) :=
    if (0 : Int32) ≤ x3 then
      (f_X11_cancel_L81 M_isWithin x1 x2 x3 x4 M_g M_kept M_changes M_code)
    else
      (if x4 ≤ 0 then
        (f_X11_cancel_L81 M_isWithin x1 x2 x3 x4 M_g M_kept M_changes M_code)
      else
        (f_X11_cancel_L70 M_isWithin x1 x2 x3 x4 M_g M_kept M_changes M_code))
def f_X11_cancel_L22 (M_isWithin : Int32) (x1 : Int32) (x2 : Int32) (y0 : Int32) (M_g : (Nat → Int32)) (M_kept : (Nat → Int32)) (M_changes : Int32) (M_code : Int32) : Option (Int32 × (Nat → Int32) × (Nat → Int32) × Int32 × Int32) :=
    wkb2 (f_X11_fails M_code y0) (fun r1 w2 =>
    if r1 = 0 then
      (gin (36 + x1) 238 (gin (36 + x2) 238 (if (M_g (36 + x1).toNatClampNeg) ≤ 0 then
        (f_X11_cancel_L61 M_isWithin x1 x2 (M_g (36 + x1).toNatClampNeg) (M_g (36 + x2).toNatClampNeg) M_g M_kept M_changes w2)
      else
        (if (M_g (36 + x2).toNatClampNeg) < 0 then
          (f_X11_cancel_L70 M_isWithin x1 x2 (M_g (36 + x1).toNatClampNeg) (M_g (36 + x2).toNatClampNeg) M_g M_kept M_changes w2)
        else
          (f_X11_cancel_L61 M_isWithin x1 x2 (M_g (36 + x1).toNatClampNeg) (M_g (36 + x2).toNatClampNeg) M_g M_kept M_changes w2)))))
    else
      (some (0, M_g, M_kept, M_changes, w2)))
def f_X11_cancel_L21 (M_isWithin : Int32) (x1 : Int32) (x2 : Int32) (M_g : (Nat → Int32)) (M_kept : (Nat → Int32)) (M_changes : Int32) (M_code : Int32) : Option (Int32 × (Nat → Int32) × (Nat → Int32) × Int32 × Int32) :=
    f_X11_cancel_L22 M_isWithin x1 x2 1 M_g M_kept M_changes M_code
def f_X11_cancel (M_g : Nat → Int32) (M_kept : Nat → Int32) (M_changes : Int32) (M_isWithin : Int32) (M_code : Int32) (x1 : Int32) (x2 : Int32) : Option (Int32 × (Nat → Int32) × (Nat → Int32) × Int32 × Int32) :=
  wkb1 (f_X11_isAccount M_g x1) (fun r1 =>
  if r1 = 0 then
    (f_X11_cancel_L21 M_isWithin x1 x2 M_g M_kept M_changes M_code)
  else
    (wkb1 (f_X11_isAccount M_g x2) (fun r4 =>
    if r4 = 0 then
      (f_X11_cancel_L21 M_isWithin x1 x2 M_g M_kept M_changes M_code)
    else
      (f_X11_cancel_L22 M_isWithin x1 x2 0 M_g M_kept M_changes M_code))))
set_option maxHeartbeats 4000000 in
set_option maxRecDepth 100000 in
theorem wl_X11_cancel_L135 {p : Program} {l : Launch} {e : Env} {s : State} {m : MethodId} {args : Array Value} {below : List Frame} {meth : Method} {c : Code} {dC : Nat → ClassId} {dI : Nat → Nat → Nat} {Y : Nat → ClassId} {a : Nat → Nat} {M_saved : Nat → Int32} {M_before : Nat → Int32} {M_isSaved : Int32} {M_isWithin : Int32} {M_input : Nat → Int32} {M_length : Int32} {M_fault : Int32} {M_failed : Int32} {M_signs : Nat → Int32} {M_signMany : Int32} {M_column : Nat → Int32} {M_loads : Nat → Int32} {M_many : Int32} {M_sums : Nat → Int32} {M_groups : Nat → Int32} {M_at : Int32} {M_told : Nat → Int32} {M_toldMany : Int32} {x1 : Int32} {x2 : Int32} {r : Int32} {zM_g : Nat → Int32} {zM_kept : Nat → Int32} {zM_changes : Int32} {zM_code : Int32}  (C0 : wk_C p s m args meth c cX11_cancel 6 (some .int) wsX11_cancel RX11) {A : Nat → Prop} (hK : va_K (dC, dI) vwCl (vTy Y) s) (hA : ∀ q, s.heap.size ≤ q → A q) : ∀ (x3 : Int32) (x5 : Int32) (y0 : Int32) (M_g : Nat → Int32) (M_kept : Nat → Int32) (M_changes : Int32) (M_code : Int32), f_X11_cancel_L135 M_isWithin x1 x2 x3 x5 y0 M_g M_kept M_changes M_code = some (r, zM_g, zM_kept, zM_changes, zM_code) → ∀ (H : Heap) (locs : List Loc), va_P (dC, dI) vwCl (wX11 Y a M_g M_kept M_saved M_before M_isSaved M_changes M_isWithin M_code M_input M_length M_fault M_failed M_signs M_signMany M_column M_loads M_many M_sums M_groups M_at M_told M_toldMany) H → va_D A (wX11 Y a M_g M_kept M_saved M_before M_isSaved M_changes M_isWithin M_code M_input M_length M_fault M_failed M_signs M_signMany M_column M_loads M_many M_sums M_groups M_at M_told M_toldMany) → va_S A s.heap H locs → ∀ (ls : Array Slot), lv_has ls 6 [(1, .int x1), (2, .int x2), (3, .int x3), (5, .int x5)] → W p l e (headSpec wsX11_cancel ({ frames := 2, cells := 0, slots := 0, locals := 46 } : Room)).room s m args below meth c H locs 0 0 (MQ below (va_Qi (fun r2 (_ : Unit) => r2 = r) (fun _ t => wk_X (dC, dI) Y (wX11 Y a zM_g zM_kept M_saved M_before M_isSaved zM_changes M_isWithin zM_code M_input M_length M_fault M_failed M_signs M_signMany M_column M_loads M_many M_sums M_groups M_at M_told M_toldMany) A t) A) args s 0 0 A) (F0 m 135 ls [.int y0, .ref (a 0)]) := by
  obtain ⟨hx, hb, hml, hr, hlocks, hown, hts⟩ := id C0
  intro x3 x5 y0 M_g M_kept M_changes M_code hf H locs hP hD hS ls hl
  rw [f_X11_cancel_L135] at hf
  have hP : va_P (dC, dI) vwCl [(a 0, .inr (11, [.ref (a 1), .ref (a 2), .ref (a 3), .ref (a 4), .int M_isSaved, .int M_changes, .int M_isWithin, .int M_code, .ref (a 5), .int M_length, .int M_fault, .int M_failed, .ref (a 6), .int M_signMany, .ref (a 7), .ref (a 8), .int M_many, .ref (a 9), .ref (a 10), .int M_at, .ref (a 11), .int M_toldMany])), (a 1, .inl (Y 0, 238, .inl M_g)), (a 2, .inl (Y 0, 1904, .inl M_kept)), (a 3, .inl (Y 0, 238, .inl M_saved)), (a 4, .inl (Y 0, 238, .inl M_before)), (a 5, .inl (Y 0, 60, .inl M_input)), (a 6, .inl (Y 2, 100, .inl M_signs)), (a 7, .inl (Y 0, 6, .inl M_column)), (a 8, .inl (Y 0, 6, .inl M_loads)), (a 9, .inl (Y 0, 2048, .inl M_sums)), (a 10, .inl (Y 0, 2048, .inl M_groups)), (a 11, .inl (Y 0, 155, .inl M_told))] H := hP
  have hD : va_D A [(a 0, .inr (11, [.ref (a 1), .ref (a 2), .ref (a 3), .ref (a 4), .int M_isSaved, .int M_changes, .int M_isWithin, .int M_code, .ref (a 5), .int M_length, .int M_fault, .int M_failed, .ref (a 6), .int M_signMany, .ref (a 7), .ref (a 8), .int M_many, .ref (a 9), .ref (a 10), .int M_at, .ref (a 11), .int M_toldMany])), (a 1, .inl (Y 0, 238, .inl M_g)), (a 2, .inl (Y 0, 1904, .inl M_kept)), (a 3, .inl (Y 0, 238, .inl M_saved)), (a 4, .inl (Y 0, 238, .inl M_before)), (a 5, .inl (Y 0, 60, .inl M_input)), (a 6, .inl (Y 2, 100, .inl M_signs)), (a 7, .inl (Y 0, 6, .inl M_column)), (a 8, .inl (Y 0, 6, .inl M_loads)), (a 9, .inl (Y 0, 2048, .inl M_sums)), (a 10, .inl (Y 0, 2048, .inl M_groups)), (a 11, .inl (Y 0, 155, .inl M_told))] := hD
  refine lv_iload_n hx hb dX11_cancel_135 rfl (lv_at hl 2 rfl) ?_
  refine lv_if_ge (tgt := 143) hx hb dX11_cancel_136 (by decide) (fun q1 => ?_) (fun q1 => ?_)
  · have hf := wk_t hf q1
    refine lv_iload_n hx hb dX11_cancel_143 rfl (lv_at hl 0 rfl) ?_
    refine lv_iload hx hb dX11_cancel_144 (lv_at hl 3 rfl) ?_
    obtain ⟨w2, hr3, hf⟩ := wkb1_s hf
    refine wk_evv (As := [.int y0, .int x1, .int x5]) (rest := []) (wc := (wX11 Y a M_g M_kept M_saved M_before M_isSaved M_changes M_isWithin M_code M_input M_length M_fault M_failed M_signs M_signMany M_column M_loads M_many M_sums M_groups M_at M_told M_toldMany)) (w1 := (wX11 Y a w2 M_kept M_saved M_before M_isSaved M_changes M_isWithin M_code M_input M_length M_fault M_failed M_signs M_signMany M_column M_loads M_many M_sums M_groups M_at M_told M_toldMany)) (wr := []) ⟨hx, hb, hml, hown, hts⟩ (c_X11_books l dC dI Y a M_g M_kept M_saved M_before M_isSaved M_changes M_isWithin M_code M_input M_length M_fault M_failed M_signs M_signMany M_column M_loads M_many M_sums M_groups M_at M_told M_toldMany y0 x1 x5 H.size w2 hr3) (cwV 3 hts gX11_cancel_X11_books rfl rfl rfl (by decide +kernel) ⟨Nat.le_of_ble_eq_true rfl, Nat.le_of_ble_eq_true rfl⟩) hK hP hD hS hA [0, 1, 2, 3, 4, 5, 6, 7, 8, 9, 10, 11] [] rfl rfl (by decide) (by decide) (by decide) (va_recv hK hP (ci := 11) (q0 := 0) rfl rfl) rfl hl.1 rfl (Nat.le_of_ble_eq_true rfl) dX11_cancel_146 ⟨Nat.le_of_ble_eq_true rfl, Nat.le_of_ble_eq_true rfl⟩ (fun H locs hP hD hS => ?_)
    have hP : va_P (dC, dI) vwCl [(a 0, .inr (11, [.ref (a 1), .ref (a 2), .ref (a 3), .ref (a 4), .int M_isSaved, .int M_changes, .int M_isWithin, .int M_code, .ref (a 5), .int M_length, .int M_fault, .int M_failed, .ref (a 6), .int M_signMany, .ref (a 7), .ref (a 8), .int M_many, .ref (a 9), .ref (a 10), .int M_at, .ref (a 11), .int M_toldMany])), (a 1, .inl (Y 0, 238, .inl w2)), (a 2, .inl (Y 0, 1904, .inl M_kept)), (a 3, .inl (Y 0, 238, .inl M_saved)), (a 4, .inl (Y 0, 238, .inl M_before)), (a 5, .inl (Y 0, 60, .inl M_input)), (a 6, .inl (Y 2, 100, .inl M_signs)), (a 7, .inl (Y 0, 6, .inl M_column)), (a 8, .inl (Y 0, 6, .inl M_loads)), (a 9, .inl (Y 0, 2048, .inl M_sums)), (a 10, .inl (Y 0, 2048, .inl M_groups)), (a 11, .inl (Y 0, 155, .inl M_told))] H := hP
    have hD : va_D A [(a 0, .inr (11, [.ref (a 1), .ref (a 2), .ref (a 3), .ref (a 4), .int M_isSaved, .int M_changes, .int M_isWithin, .int M_code, .ref (a 5), .int M_length, .int M_fault, .int M_failed, .ref (a 6), .int M_signMany, .ref (a 7), .ref (a 8), .int M_many, .ref (a 9), .ref (a 10), .int M_at, .ref (a 11), .int M_toldMany])), (a 1, .inl (Y 0, 238, .inl w2)), (a 2, .inl (Y 0, 1904, .inl M_kept)), (a 3, .inl (Y 0, 238, .inl M_saved)), (a 4, .inl (Y 0, 238, .inl M_before)), (a 5, .inl (Y 0, 60, .inl M_input)), (a 6, .inl (Y 2, 100, .inl M_signs)), (a 7, .inl (Y 0, 6, .inl M_column)), (a 8, .inl (Y 0, 6, .inl M_loads)), (a 9, .inl (Y 0, 2048, .inl M_sums)), (a 10, .inl (Y 0, 2048, .inl M_groups)), (a 11, .inl (Y 0, 155, .inl M_told))] := hD
    refine lv_iload hx hb dX11_cancel_149 (lv_at hl 3 rfl) ?_
    obtain ⟨e0, e1, e2, e3, e4⟩ := wke5 hf
    subst e0
    subst e1
    subst e2
    subst e3
    subst e4
    have hP9 := hP.sub (ws' := (wX11 Y a w2 M_kept M_saved M_before M_isSaved M_changes M_isWithin M_code M_input M_length M_fault M_failed M_signs M_signMany M_column M_loads M_many M_sums M_groups M_at M_told M_toldMany)) [0, 1, 2, 3, 4, 5, 6, 7, 8, 9, 10, 11] rfl
    have hD9 := hD.sub (ws' := (wX11 Y a w2 M_kept M_saved M_before M_isSaved M_changes M_isWithin M_code M_input M_length M_fault M_failed M_signs M_signMany M_column M_loads M_many M_sums M_groups M_at M_told M_toldMany)) [0, 1, 2, 3, 4, 5, 6, 7, 8, 9, 10, 11] (by decide) rfl
    exact W.iret (v := x5) hx hb hr (fun t ht hW => ⟨⟨x5, (), rfl, rfl, by rw [ht]; exact hP9, va_K.moved hW.alike hK, hD9⟩, hS.F ht⟩) hS.2.2 dX11_cancel_151
  · have hf := wk_f hf q1
    refine lv_iload_n hx hb dX11_cancel_139 rfl (lv_at hl 1 rfl) ?_
    refine lv_goto (tgt := 144) hx hb dX11_cancel_140 (by decide) ?_
    refine lv_iload hx hb dX11_cancel_144 (lv_at hl 3 rfl) ?_
    obtain ⟨w4, hr5, hf⟩ := wkb1_s hf
    refine wk_evv (As := [.int y0, .int x2, .int x5]) (rest := []) (wc := (wX11 Y a M_g M_kept M_saved M_before M_isSaved M_changes M_isWithin M_code M_input M_length M_fault M_failed M_signs M_signMany M_column M_loads M_many M_sums M_groups M_at M_told M_toldMany)) (w1 := (wX11 Y a w4 M_kept M_saved M_before M_isSaved M_changes M_isWithin M_code M_input M_length M_fault M_failed M_signs M_signMany M_column M_loads M_many M_sums M_groups M_at M_told M_toldMany)) (wr := []) ⟨hx, hb, hml, hown, hts⟩ (c_X11_books l dC dI Y a M_g M_kept M_saved M_before M_isSaved M_changes M_isWithin M_code M_input M_length M_fault M_failed M_signs M_signMany M_column M_loads M_many M_sums M_groups M_at M_told M_toldMany y0 x2 x5 H.size w4 hr5) (cwV 3 hts gX11_cancel_X11_books rfl rfl rfl (by decide +kernel) ⟨Nat.le_of_ble_eq_true rfl, Nat.le_of_ble_eq_true rfl⟩) hK hP hD hS hA [0, 1, 2, 3, 4, 5, 6, 7, 8, 9, 10, 11] [] rfl rfl (by decide) (by decide) (by decide) (va_recv hK hP (ci := 11) (q0 := 0) rfl rfl) rfl hl.1 rfl (Nat.le_of_ble_eq_true rfl) dX11_cancel_146 ⟨Nat.le_of_ble_eq_true rfl, Nat.le_of_ble_eq_true rfl⟩ (fun H locs hP hD hS => ?_)
    have hP : va_P (dC, dI) vwCl [(a 0, .inr (11, [.ref (a 1), .ref (a 2), .ref (a 3), .ref (a 4), .int M_isSaved, .int M_changes, .int M_isWithin, .int M_code, .ref (a 5), .int M_length, .int M_fault, .int M_failed, .ref (a 6), .int M_signMany, .ref (a 7), .ref (a 8), .int M_many, .ref (a 9), .ref (a 10), .int M_at, .ref (a 11), .int M_toldMany])), (a 1, .inl (Y 0, 238, .inl w4)), (a 2, .inl (Y 0, 1904, .inl M_kept)), (a 3, .inl (Y 0, 238, .inl M_saved)), (a 4, .inl (Y 0, 238, .inl M_before)), (a 5, .inl (Y 0, 60, .inl M_input)), (a 6, .inl (Y 2, 100, .inl M_signs)), (a 7, .inl (Y 0, 6, .inl M_column)), (a 8, .inl (Y 0, 6, .inl M_loads)), (a 9, .inl (Y 0, 2048, .inl M_sums)), (a 10, .inl (Y 0, 2048, .inl M_groups)), (a 11, .inl (Y 0, 155, .inl M_told))] H := hP
    have hD : va_D A [(a 0, .inr (11, [.ref (a 1), .ref (a 2), .ref (a 3), .ref (a 4), .int M_isSaved, .int M_changes, .int M_isWithin, .int M_code, .ref (a 5), .int M_length, .int M_fault, .int M_failed, .ref (a 6), .int M_signMany, .ref (a 7), .ref (a 8), .int M_many, .ref (a 9), .ref (a 10), .int M_at, .ref (a 11), .int M_toldMany])), (a 1, .inl (Y 0, 238, .inl w4)), (a 2, .inl (Y 0, 1904, .inl M_kept)), (a 3, .inl (Y 0, 238, .inl M_saved)), (a 4, .inl (Y 0, 238, .inl M_before)), (a 5, .inl (Y 0, 60, .inl M_input)), (a 6, .inl (Y 2, 100, .inl M_signs)), (a 7, .inl (Y 0, 6, .inl M_column)), (a 8, .inl (Y 0, 6, .inl M_loads)), (a 9, .inl (Y 0, 2048, .inl M_sums)), (a 10, .inl (Y 0, 2048, .inl M_groups)), (a 11, .inl (Y 0, 155, .inl M_told))] := hD
    refine lv_iload hx hb dX11_cancel_149 (lv_at hl 3 rfl) ?_
    obtain ⟨e0, e1, e2, e3, e4⟩ := wke5 hf
    subst e0
    subst e1
    subst e2
    subst e3
    subst e4
    have hP9 := hP.sub (ws' := (wX11 Y a w4 M_kept M_saved M_before M_isSaved M_changes M_isWithin M_code M_input M_length M_fault M_failed M_signs M_signMany M_column M_loads M_many M_sums M_groups M_at M_told M_toldMany)) [0, 1, 2, 3, 4, 5, 6, 7, 8, 9, 10, 11] rfl
    have hD9 := hD.sub (ws' := (wX11 Y a w4 M_kept M_saved M_before M_isSaved M_changes M_isWithin M_code M_input M_length M_fault M_failed M_signs M_signMany M_column M_loads M_many M_sums M_groups M_at M_told M_toldMany)) [0, 1, 2, 3, 4, 5, 6, 7, 8, 9, 10, 11] (by decide) rfl
    exact W.iret (v := x5) hx hb hr (fun t ht hW => ⟨⟨x5, (), rfl, rfl, by rw [ht]; exact hP9, va_K.moved hW.alike hK, hD9⟩, hS.F ht⟩) hS.2.2 dX11_cancel_151
set_option maxHeartbeats 4000000 in
set_option maxRecDepth 100000 in
theorem wl_X11_cancel_L115 {p : Program} {l : Launch} {e : Env} {s : State} {m : MethodId} {args : Array Value} {below : List Frame} {meth : Method} {c : Code} {dC : Nat → ClassId} {dI : Nat → Nat → Nat} {Y : Nat → ClassId} {a : Nat → Nat} {M_saved : Nat → Int32} {M_before : Nat → Int32} {M_isSaved : Int32} {M_isWithin : Int32} {M_input : Nat → Int32} {M_length : Int32} {M_fault : Int32} {M_failed : Int32} {M_signs : Nat → Int32} {M_signMany : Int32} {M_column : Nat → Int32} {M_loads : Nat → Int32} {M_many : Int32} {M_sums : Nat → Int32} {M_groups : Nat → Int32} {M_at : Int32} {M_told : Nat → Int32} {M_toldMany : Int32} {x1 : Int32} {x2 : Int32} {r : Int32} {zM_g : Nat → Int32} {zM_kept : Nat → Int32} {zM_changes : Int32} {zM_code : Int32}  (C0 : wk_C p s m args meth c cX11_cancel 6 (some .int) wsX11_cancel RX11) {A : Nat → Prop} (hK : va_K (dC, dI) vwCl (vTy Y) s) (hA : ∀ q, s.heap.size ≤ q → A q) : ∀ (x3 : Int32) (y0 : Int32) (M_g : Nat → Int32) (M_kept : Nat → Int32) (M_changes : Int32) (M_code : Int32), f_X11_cancel_L115 M_isWithin x1 x2 x3 y0 M_g M_kept M_changes M_code = some (r, zM_g, zM_kept, zM_changes, zM_code) → ∀ (H : Heap) (locs : List Loc), va_P (dC, dI) vwCl (wX11 Y a M_g M_kept M_saved M_before M_isSaved M_changes M_isWithin M_code M_input M_length M_fault M_failed M_signs M_signMany M_column M_loads M_many M_sums M_groups M_at M_told M_toldMany) H → va_D A (wX11 Y a M_g M_kept M_saved M_before M_isSaved M_changes M_isWithin M_code M_input M_length M_fault M_failed M_signs M_signMany M_column M_loads M_many M_sums M_groups M_at M_told M_toldMany) → va_S A s.heap H locs → ∀ (ls : Array Slot), lv_has ls 6 [(0, .ref (a 0)), (1, .int x1), (2, .int x2), (3, .int x3)] → W p l e (headSpec wsX11_cancel ({ frames := 2, cells := 0, slots := 0, locals := 46 } : Room)).room s m args below meth c H locs 0 0 (MQ below (va_Qi (fun r2 (_ : Unit) => r2 = r) (fun _ t => wk_X (dC, dI) Y (wX11 Y a zM_g zM_kept M_saved M_before M_isSaved zM_changes M_isWithin zM_code M_input M_length M_fault M_failed M_signs M_signMany M_column M_loads M_many M_sums M_groups M_at M_told M_toldMany) A t) A) args s 0 0 A) (F0 m 115 ls [.int y0]) := by
  obtain ⟨hx, hb, hml, hr, hlocks, hown, hts⟩ := id C0
  intro x3 y0 M_g M_kept M_changes M_code hf H locs hP hD hS ls hl
  rw [f_X11_cancel_L115] at hf
  have hP : va_P (dC, dI) vwCl [(a 0, .inr (11, [.ref (a 1), .ref (a 2), .ref (a 3), .ref (a 4), .int M_isSaved, .int M_changes, .int M_isWithin, .int M_code, .ref (a 5), .int M_length, .int M_fault, .int M_failed, .ref (a 6), .int M_signMany, .ref (a 7), .ref (a 8), .int M_many, .ref (a 9), .ref (a 10), .int M_at, .ref (a 11), .int M_toldMany])), (a 1, .inl (Y 0, 238, .inl M_g)), (a 2, .inl (Y 0, 1904, .inl M_kept)), (a 3, .inl (Y 0, 238, .inl M_saved)), (a 4, .inl (Y 0, 238, .inl M_before)), (a 5, .inl (Y 0, 60, .inl M_input)), (a 6, .inl (Y 2, 100, .inl M_signs)), (a 7, .inl (Y 0, 6, .inl M_column)), (a 8, .inl (Y 0, 6, .inl M_loads)), (a 9, .inl (Y 0, 2048, .inl M_sums)), (a 10, .inl (Y 0, 2048, .inl M_groups)), (a 11, .inl (Y 0, 155, .inl M_told))] H := hP
  have hD : va_D A [(a 0, .inr (11, [.ref (a 1), .ref (a 2), .ref (a 3), .ref (a 4), .int M_isSaved, .int M_changes, .int M_isWithin, .int M_code, .ref (a 5), .int M_length, .int M_fault, .int M_failed, .ref (a 6), .int M_signMany, .ref (a 7), .ref (a 8), .int M_many, .ref (a 9), .ref (a 10), .int M_at, .ref (a 11), .int M_toldMany])), (a 1, .inl (Y 0, 238, .inl M_g)), (a 2, .inl (Y 0, 1904, .inl M_kept)), (a 3, .inl (Y 0, 238, .inl M_saved)), (a 4, .inl (Y 0, 238, .inl M_before)), (a 5, .inl (Y 0, 60, .inl M_input)), (a 6, .inl (Y 2, 100, .inl M_signs)), (a 7, .inl (Y 0, 6, .inl M_column)), (a 8, .inl (Y 0, 6, .inl M_loads)), (a 9, .inl (Y 0, 2048, .inl M_sums)), (a 10, .inl (Y 0, 2048, .inl M_groups)), (a 11, .inl (Y 0, 155, .inl M_told))] := hD
  refine lv_istore (lv' := [(5, .int y0), (0, .ref (a 0)), (1, .int x1), (2, .int x2), (3, .int x3)]) hx hb dX11_cancel_115 hl (by decide) rfl (fun ls hl => ?_)
  refine lv_aload_n hx hb dX11_cancel_117 rfl (lv_at hl 1 rfl) ?_
  refine lv_aload_n hx hb dX11_cancel_118 rfl (lv_at hl 1 rfl) ?_
  refine va_get (D := (dC, dI)) (ci := 11) (v := .ref (a 1)) (C := RX11) (T := TX11) (N := 22) hx hb hts in_X11_cancel_X11 hown hK hP 0 rfl rfl 0 (by decide) (hts _ lk_X11_cancel_RX11_7) (fun _ h9 => h9) rfl dX11_cancel_119 ?_
  obtain ⟨w1, w2, w3, hr4, hf⟩ := wkb3_s hf
  refine wk_evv (As := [.ref (a 1)]) (rest := []) (wc := (wX11 Y a M_g M_kept M_saved M_before M_isSaved M_changes M_isWithin M_code M_input M_length M_fault M_failed M_signs M_signMany M_column M_loads M_many M_sums M_groups M_at M_told M_toldMany)) (w1 := (wX11 Y a M_g w1 M_saved M_before M_isSaved w2 M_isWithin w3 M_input M_length M_fault M_failed M_signs M_signMany M_column M_loads M_many M_sums M_groups M_at M_told M_toldMany)) (wr := []) ⟨hx, hb, hml, hown, hts⟩ (c_X11_keeps_g l dC dI Y a M_g M_kept M_saved M_before M_isSaved M_changes M_isWithin M_code M_input M_length M_fault M_failed M_signs M_signMany M_column M_loads M_many M_sums M_groups M_at M_told M_toldMany H.size w1 w2 w3 hr4) (cwV 1 hts gX11_cancel_X11_keeps rfl rfl rfl (by decide +kernel) ⟨Nat.le_of_ble_eq_true rfl, Nat.le_of_ble_eq_true rfl⟩) hK hP hD hS hA [0, 1, 2, 3, 4, 5, 6, 7, 8, 9, 10, 11] [] rfl rfl (by decide) (by decide) (by decide) (va_recv hK hP (ci := 11) (q0 := 0) rfl rfl) rfl hl.1 rfl (Nat.le_of_ble_eq_true rfl) dX11_cancel_122 ⟨Nat.le_of_ble_eq_true rfl, Nat.le_of_ble_eq_true rfl⟩ (fun H locs hP hD hS => ?_)
  have hP : va_P (dC, dI) vwCl [(a 0, .inr (11, [.ref (a 1), .ref (a 2), .ref (a 3), .ref (a 4), .int M_isSaved, .int w2, .int M_isWithin, .int w3, .ref (a 5), .int M_length, .int M_fault, .int M_failed, .ref (a 6), .int M_signMany, .ref (a 7), .ref (a 8), .int M_many, .ref (a 9), .ref (a 10), .int M_at, .ref (a 11), .int M_toldMany])), (a 1, .inl (Y 0, 238, .inl M_g)), (a 2, .inl (Y 0, 1904, .inl w1)), (a 3, .inl (Y 0, 238, .inl M_saved)), (a 4, .inl (Y 0, 238, .inl M_before)), (a 5, .inl (Y 0, 60, .inl M_input)), (a 6, .inl (Y 2, 100, .inl M_signs)), (a 7, .inl (Y 0, 6, .inl M_column)), (a 8, .inl (Y 0, 6, .inl M_loads)), (a 9, .inl (Y 0, 2048, .inl M_sums)), (a 10, .inl (Y 0, 2048, .inl M_groups)), (a 11, .inl (Y 0, 155, .inl M_told))] H := hP
  have hD : va_D A [(a 0, .inr (11, [.ref (a 1), .ref (a 2), .ref (a 3), .ref (a 4), .int M_isSaved, .int w2, .int M_isWithin, .int w3, .ref (a 5), .int M_length, .int M_fault, .int M_failed, .ref (a 6), .int M_signMany, .ref (a 7), .ref (a 8), .int M_many, .ref (a 9), .ref (a 10), .int M_at, .ref (a 11), .int M_toldMany])), (a 1, .inl (Y 0, 238, .inl M_g)), (a 2, .inl (Y 0, 1904, .inl w1)), (a 3, .inl (Y 0, 238, .inl M_saved)), (a 4, .inl (Y 0, 238, .inl M_before)), (a 5, .inl (Y 0, 60, .inl M_input)), (a 6, .inl (Y 2, 100, .inl M_signs)), (a 7, .inl (Y 0, 6, .inl M_column)), (a 8, .inl (Y 0, 6, .inl M_loads)), (a 9, .inl (Y 0, 2048, .inl M_sums)), (a 10, .inl (Y 0, 2048, .inl M_groups)), (a 11, .inl (Y 0, 155, .inl M_told))] := hD
  refine lv_aload_n hx hb dX11_cancel_125 rfl (lv_at hl 1 rfl) ?_
  refine lv_iload_n hx hb dX11_cancel_126 rfl (lv_at hl 4 rfl) ?_
  refine lv_if_ge (tgt := 134) hx hb dX11_cancel_127 (by decide) (fun q5 => ?_) (fun q5 => ?_)
  · have hf := wk_t hf q5
    refine lv_iload_n hx hb dX11_cancel_134 rfl (lv_at hl 3 rfl) ?_
    exact wl_X11_cancel_L135 C0 hK hA x3 y0 x2 M_g w1 w2 w3 hf H locs hP hD hS ls (lv_sub hl [2, 3, 4, 0] rfl)
  · have hf := wk_f hf q5
    refine lv_iload_n hx hb dX11_cancel_130 rfl (lv_at hl 2 rfl) ?_
    refine lv_goto (tgt := 135) hx hb dX11_cancel_131 (by decide) ?_
    exact wl_X11_cancel_L135 C0 hK hA x3 y0 x1 M_g w1 w2 w3 hf H locs hP hD hS ls (lv_sub hl [2, 3, 4, 0] rfl)
set_option maxHeartbeats 4000000 in
set_option maxRecDepth 100000 in
theorem wl_X11_cancel_L86 {p : Program} {l : Launch} {e : Env} {s : State} {m : MethodId} {args : Array Value} {below : List Frame} {meth : Method} {c : Code} {dC : Nat → ClassId} {dI : Nat → Nat → Nat} {Y : Nat → ClassId} {a : Nat → Nat} {M_saved : Nat → Int32} {M_before : Nat → Int32} {M_isSaved : Int32} {M_isWithin : Int32} {M_input : Nat → Int32} {M_length : Int32} {M_fault : Int32} {M_failed : Int32} {M_signs : Nat → Int32} {M_signMany : Int32} {M_column : Nat → Int32} {M_loads : Nat → Int32} {M_many : Int32} {M_sums : Nat → Int32} {M_groups : Nat → Int32} {M_at : Int32} {M_told : Nat → Int32} {M_toldMany : Int32} {x1 : Int32} {x2 : Int32} {r : Int32} {zM_g : Nat → Int32} {zM_kept : Nat → Int32} {zM_changes : Int32} {zM_code : Int32}  (C0 : wk_C p s m args meth c cX11_cancel 6 (some .int) wsX11_cancel RX11) {A : Nat → Prop} (hK : va_K (dC, dI) vwCl (vTy Y) s) (hA : ∀ q, s.heap.size ≤ q → A q) : ∀ (x3 : Int32) (x4 : Int32) (y0 : Int32) (M_g : Nat → Int32) (M_kept : Nat → Int32) (M_changes : Int32) (M_code : Int32), f_X11_cancel_L86 M_isWithin x1 x2 x3 x4 y0 M_g M_kept M_changes M_code = some (r, zM_g, zM_kept, zM_changes, zM_code) → ∀ (H : Heap) (locs : List Loc), va_P (dC, dI) vwCl (wX11 Y a M_g M_kept M_saved M_before M_isSaved M_changes M_isWithin M_code M_input M_length M_fault M_failed M_signs M_signMany M_column M_loads M_many M_sums M_groups M_at M_told M_toldMany) H → va_D A (wX11 Y a M_g M_kept M_saved M_before M_isSaved M_changes M_isWithin M_code M_input M_length M_fault M_failed M_signs M_signMany M_column M_loads M_many M_sums M_groups M_at M_told M_toldMany) → va_S A s.heap H locs → ∀ (ls : Array Slot), lv_has ls 6 [(0, .ref (a 0)), (1, .int x1), (2, .int x2), (3, .int x3), (4, .int x4)] → W p l e (headSpec wsX11_cancel ({ frames := 2, cells := 0, slots := 0, locals := 46 } : Room)).room s m args below meth c H locs 0 0 (MQ below (va_Qi (fun r2 (_ : Unit) => r2 = r) (fun _ t => wk_X (dC, dI) Y (wX11 Y a zM_g zM_kept M_saved M_before M_isSaved zM_changes M_isWithin zM_code M_input M_length M_fault M_failed M_signs M_signMany M_column M_loads M_many M_sums M_groups M_at M_told M_toldMany) A t) A) args s 0 0 A) (F0 m 86 ls [.int y0, .ref (a 0)]) := by
  obtain ⟨hx, hb, hml, hr, hlocks, hown, hts⟩ := id C0
  intro x3 x4 y0 M_g M_kept M_changes M_code hf H locs hP hD hS ls hl
  rw [f_X11_cancel_L86] at hf
  have hP : va_P (dC, dI) vwCl [(a 0, .inr (11, [.ref (a 1), .ref (a 2), .ref (a 3), .ref (a 4), .int M_isSaved, .int M_changes, .int M_isWithin, .int M_code, .ref (a 5), .int M_length, .int M_fault, .int M_failed, .ref (a 6), .int M_signMany, .ref (a 7), .ref (a 8), .int M_many, .ref (a 9), .ref (a 10), .int M_at, .ref (a 11), .int M_toldMany])), (a 1, .inl (Y 0, 238, .inl M_g)), (a 2, .inl (Y 0, 1904, .inl M_kept)), (a 3, .inl (Y 0, 238, .inl M_saved)), (a 4, .inl (Y 0, 238, .inl M_before)), (a 5, .inl (Y 0, 60, .inl M_input)), (a 6, .inl (Y 2, 100, .inl M_signs)), (a 7, .inl (Y 0, 6, .inl M_column)), (a 8, .inl (Y 0, 6, .inl M_loads)), (a 9, .inl (Y 0, 2048, .inl M_sums)), (a 10, .inl (Y 0, 2048, .inl M_groups)), (a 11, .inl (Y 0, 155, .inl M_told))] H := hP
  have hD : va_D A [(a 0, .inr (11, [.ref (a 1), .ref (a 2), .ref (a 3), .ref (a 4), .int M_isSaved, .int M_changes, .int M_isWithin, .int M_code, .ref (a 5), .int M_length, .int M_fault, .int M_failed, .ref (a 6), .int M_signMany, .ref (a 7), .ref (a 8), .int M_many, .ref (a 9), .ref (a 10), .int M_at, .ref (a 11), .int M_toldMany])), (a 1, .inl (Y 0, 238, .inl M_g)), (a 2, .inl (Y 0, 1904, .inl M_kept)), (a 3, .inl (Y 0, 238, .inl M_saved)), (a 4, .inl (Y 0, 238, .inl M_before)), (a 5, .inl (Y 0, 60, .inl M_input)), (a 6, .inl (Y 2, 100, .inl M_signs)), (a 7, .inl (Y 0, 6, .inl M_column)), (a 8, .inl (Y 0, 6, .inl M_loads)), (a 9, .inl (Y 0, 2048, .inl M_sums)), (a 10, .inl (Y 0, 2048, .inl M_groups)), (a 11, .inl (Y 0, 155, .inl M_told))] := hD
  obtain ⟨r1, w2, hr3, hf⟩ := wkb2_s hf
  refine wk_evi (As := [.int y0]) (rest := []) (wc := (wX11 Y a M_g M_kept M_saved M_before M_isSaved M_changes M_isWithin M_code M_input M_length M_fault M_failed M_signs M_signMany M_column M_loads M_many M_sums M_groups M_at M_told M_toldMany)) (w1 := (wX11 Y a M_g M_kept M_saved M_before M_isSaved M_changes M_isWithin w2 M_input M_length M_fault M_failed M_signs M_signMany M_column M_loads M_many M_sums M_groups M_at M_told M_toldMany)) (wr := []) ⟨hx, hb, hml, hown, hts⟩ (c_X11_fails l dC dI Y a M_g M_kept M_saved M_before M_isSaved M_changes M_isWithin M_code M_input M_length M_fault M_failed M_signs M_signMany M_column M_loads M_many M_sums M_groups M_at M_told M_toldMany y0 H.size r1 w2 hr3) (cwV 1 hts gX11_cancel_X11_fails rfl rfl rfl (by decide +kernel) ⟨Nat.le_of_ble_eq_true rfl, Nat.le_of_ble_eq_true rfl⟩) hK hP hD hS hA [0, 1, 2, 3, 4, 5, 6, 7, 8, 9, 10, 11] [] rfl rfl (by decide) (by decide) (by decide) (va_recv hK hP (ci := 11) (q0 := 0) rfl rfl) rfl hl.1 rfl (Nat.le_of_ble_eq_true rfl) dX11_cancel_86 ⟨Nat.le_of_ble_eq_true rfl, Nat.le_of_ble_eq_true rfl⟩ (fun H locs hP hD hS => ?_)
  have hP : va_P (dC, dI) vwCl [(a 0, .inr (11, [.ref (a 1), .ref (a 2), .ref (a 3), .ref (a 4), .int M_isSaved, .int M_changes, .int M_isWithin, .int w2, .ref (a 5), .int M_length, .int M_fault, .int M_failed, .ref (a 6), .int M_signMany, .ref (a 7), .ref (a 8), .int M_many, .ref (a 9), .ref (a 10), .int M_at, .ref (a 11), .int M_toldMany])), (a 1, .inl (Y 0, 238, .inl M_g)), (a 2, .inl (Y 0, 1904, .inl M_kept)), (a 3, .inl (Y 0, 238, .inl M_saved)), (a 4, .inl (Y 0, 238, .inl M_before)), (a 5, .inl (Y 0, 60, .inl M_input)), (a 6, .inl (Y 2, 100, .inl M_signs)), (a 7, .inl (Y 0, 6, .inl M_column)), (a 8, .inl (Y 0, 6, .inl M_loads)), (a 9, .inl (Y 0, 2048, .inl M_sums)), (a 10, .inl (Y 0, 2048, .inl M_groups)), (a 11, .inl (Y 0, 155, .inl M_told))] H := hP
  have hD : va_D A [(a 0, .inr (11, [.ref (a 1), .ref (a 2), .ref (a 3), .ref (a 4), .int M_isSaved, .int M_changes, .int M_isWithin, .int w2, .ref (a 5), .int M_length, .int M_fault, .int M_failed, .ref (a 6), .int M_signMany, .ref (a 7), .ref (a 8), .int M_many, .ref (a 9), .ref (a 10), .int M_at, .ref (a 11), .int M_toldMany])), (a 1, .inl (Y 0, 238, .inl M_g)), (a 2, .inl (Y 0, 1904, .inl M_kept)), (a 3, .inl (Y 0, 238, .inl M_saved)), (a 4, .inl (Y 0, 238, .inl M_before)), (a 5, .inl (Y 0, 60, .inl M_input)), (a 6, .inl (Y 2, 100, .inl M_signs)), (a 7, .inl (Y 0, 6, .inl M_column)), (a 8, .inl (Y 0, 6, .inl M_loads)), (a 9, .inl (Y 0, 2048, .inl M_sums)), (a 10, .inl (Y 0, 2048, .inl M_groups)), (a 11, .inl (Y 0, 155, .inl M_told))] := hD
  refine lv_if_eq (tgt := 94) hx hb dX11_cancel_89 (by decide) (fun q4 => ?_) (fun q4 => ?_)
  · have hf := wk_t hf q4
    refine lv_iload_n hx hb dX11_cancel_94 rfl (lv_at hl 3 rfl) ?_
    refine lv_if_le (tgt := 108) hx hb dX11_cancel_95 (by decide) (fun q5 => ?_) (fun q5 => ?_)
    · have hf := wk_t hf q5
      refine lv_iload_n hx hb dX11_cancel_108 rfl (lv_at hl 3 rfl) ?_
      refine lv_ineg hx hb dX11_cancel_109 ?_
      refine lv_iload hx hb dX11_cancel_110 (lv_at hl 4 rfl) ?_
      obtain ⟨r6, hr7, hf⟩ := wkb1_s hf
      have hPc := hP.sub (ws' := ([] : va_W)) [] rfl
      refine wk_si (As := [.int (-x3), .int x4]) (rest := []) ⟨hx, hb, hml, hown, hts⟩ (c_X11_least l dC dI Y (-x3) x4 r6 hr7) (va_cwS 2 hts gX11_cancel_X11_least rfl rfl rfl (by decide +kernel) ⟨Nat.le_of_ble_eq_true rfl, Nat.le_of_ble_eq_true rfl⟩) hK hPc rfl hl.1 rfl (Nat.le_of_ble_eq_true rfl) dX11_cancel_112 ⟨Nat.le_of_ble_eq_true rfl, Nat.le_of_ble_eq_true rfl⟩ ?_
      exact wl_X11_cancel_L115 C0 hK hA x3 r6 M_g M_kept M_changes w2 hf H locs hP hD hS ls (lv_sub hl [0, 1, 2, 3] rfl)
    · have hf := wk_f hf q5
      refine lv_iload_n hx hb dX11_cancel_98 rfl (lv_at hl 3 rfl) ?_
      refine lv_iload hx hb dX11_cancel_99 (lv_at hl 4 rfl) ?_
      refine lv_ineg hx hb dX11_cancel_101 ?_
      obtain ⟨r8, hr9, hf⟩ := wkb1_s hf
      have hPc := hP.sub (ws' := ([] : va_W)) [] rfl
      refine wk_si (As := [.int x3, .int (-x4)]) (rest := []) ⟨hx, hb, hml, hown, hts⟩ (c_X11_least l dC dI Y x3 (-x4) r8 hr9) (va_cwS 2 hts gX11_cancel_X11_least rfl rfl rfl (by decide +kernel) ⟨Nat.le_of_ble_eq_true rfl, Nat.le_of_ble_eq_true rfl⟩) hK hPc rfl hl.1 rfl (Nat.le_of_ble_eq_true rfl) dX11_cancel_102 ⟨Nat.le_of_ble_eq_true rfl, Nat.le_of_ble_eq_true rfl⟩ ?_
      refine lv_goto (tgt := 115) hx hb dX11_cancel_105 (by decide) ?_
      exact wl_X11_cancel_L115 C0 hK hA x3 r8 M_g M_kept M_changes w2 hf H locs hP hD hS ls (lv_sub hl [0, 1, 2, 3] rfl)
  · have hf := wk_f hf q4
    refine lv_iconst (v := 0) hx hb dX11_cancel_92 (by decide) ?_
    obtain ⟨e0, e1, e2, e3, e4⟩ := wke5 hf
    subst e0
    subst e1
    subst e2
    subst e3
    subst e4
    have hP9 := hP.sub (ws' := (wX11 Y a M_g M_kept M_saved M_before M_isSaved M_changes M_isWithin w2 M_input M_length M_fault M_failed M_signs M_signMany M_column M_loads M_many M_sums M_groups M_at M_told M_toldMany)) [0, 1, 2, 3, 4, 5, 6, 7, 8, 9, 10, 11] rfl
    have hD9 := hD.sub (ws' := (wX11 Y a M_g M_kept M_saved M_before M_isSaved M_changes M_isWithin w2 M_input M_length M_fault M_failed M_signs M_signMany M_column M_loads M_many M_sums M_groups M_at M_told M_toldMany)) [0, 1, 2, 3, 4, 5, 6, 7, 8, 9, 10, 11] (by decide) rfl
    exact W.iret (v := 0) hx hb hr (fun t ht hW => ⟨⟨0, (), rfl, rfl, by rw [ht]; exact hP9, va_K.moved hW.alike hK, hD9⟩, hS.F ht⟩) hS.2.2 dX11_cancel_93
set_option maxHeartbeats 4000000 in
set_option maxRecDepth 100000 in
theorem wl_X11_cancel_L81 {p : Program} {l : Launch} {e : Env} {s : State} {m : MethodId} {args : Array Value} {below : List Frame} {meth : Method} {c : Code} {dC : Nat → ClassId} {dI : Nat → Nat → Nat} {Y : Nat → ClassId} {a : Nat → Nat} {M_saved : Nat → Int32} {M_before : Nat → Int32} {M_isSaved : Int32} {M_isWithin : Int32} {M_input : Nat → Int32} {M_length : Int32} {M_fault : Int32} {M_failed : Int32} {M_signs : Nat → Int32} {M_signMany : Int32} {M_column : Nat → Int32} {M_loads : Nat → Int32} {M_many : Int32} {M_sums : Nat → Int32} {M_groups : Nat → Int32} {M_at : Int32} {M_told : Nat → Int32} {M_toldMany : Int32} {x1 : Int32} {x2 : Int32} {r : Int32} {zM_g : Nat → Int32} {zM_kept : Nat → Int32} {zM_changes : Int32} {zM_code : Int32}  (C0 : wk_C p s m args meth c cX11_cancel 6 (some .int) wsX11_cancel RX11) {A : Nat → Prop} (hK : va_K (dC, dI) vwCl (vTy Y) s) (hA : ∀ q, s.heap.size ≤ q → A q) : ∀ (x3 : Int32) (x4 : Int32)  (M_g : Nat → Int32) (M_kept : Nat → Int32) (M_changes : Int32) (M_code : Int32), f_X11_cancel_L81 M_isWithin x1 x2 x3 x4 M_g M_kept M_changes M_code = some (r, zM_g, zM_kept, zM_changes, zM_code) → ∀ (H : Heap) (locs : List Loc), va_P (dC, dI) vwCl (wX11 Y a M_g M_kept M_saved M_before M_isSaved M_changes M_isWithin M_code M_input M_length M_fault M_failed M_signs M_signMany M_column M_loads M_many M_sums M_groups M_at M_told M_toldMany) H → va_D A (wX11 Y a M_g M_kept M_saved M_before M_isSaved M_changes M_isWithin M_code M_input M_length M_fault M_failed M_signs M_signMany M_column M_loads M_many M_sums M_groups M_at M_told M_toldMany) → va_S A s.heap H locs → ∀ (ls : Array Slot), lv_has ls 6 [(0, .ref (a 0)), (1, .int x1), (2, .int x2), (3, .int x3), (4, .int x4)] → W p l e (headSpec wsX11_cancel ({ frames := 2, cells := 0, slots := 0, locals := 46 } : Room)).room s m args below meth c H locs 0 0 (MQ below (va_Qi (fun r2 (_ : Unit) => r2 = r) (fun _ t => wk_X (dC, dI) Y (wX11 Y a zM_g zM_kept M_saved M_before M_isSaved zM_changes M_isWithin zM_code M_input M_length M_fault M_failed M_signs M_signMany M_column M_loads M_many M_sums M_groups M_at M_told M_toldMany) A t) A) args s 0 0 A) (F0 m 81 ls [.ref (a 0)]) := by
  obtain ⟨hx, hb, hml, hr, hlocks, hown, hts⟩ := id C0
  intro x3 x4 M_g M_kept M_changes M_code hf H locs hP hD hS ls hl
  rw [f_X11_cancel_L81] at hf
  have hP : va_P (dC, dI) vwCl [(a 0, .inr (11, [.ref (a 1), .ref (a 2), .ref (a 3), .ref (a 4), .int M_isSaved, .int M_changes, .int M_isWithin, .int M_code, .ref (a 5), .int M_length, .int M_fault, .int M_failed, .ref (a 6), .int M_signMany, .ref (a 7), .ref (a 8), .int M_many, .ref (a 9), .ref (a 10), .int M_at, .ref (a 11), .int M_toldMany])), (a 1, .inl (Y 0, 238, .inl M_g)), (a 2, .inl (Y 0, 1904, .inl M_kept)), (a 3, .inl (Y 0, 238, .inl M_saved)), (a 4, .inl (Y 0, 238, .inl M_before)), (a 5, .inl (Y 0, 60, .inl M_input)), (a 6, .inl (Y 2, 100, .inl M_signs)), (a 7, .inl (Y 0, 6, .inl M_column)), (a 8, .inl (Y 0, 6, .inl M_loads)), (a 9, .inl (Y 0, 2048, .inl M_sums)), (a 10, .inl (Y 0, 2048, .inl M_groups)), (a 11, .inl (Y 0, 155, .inl M_told))] H := hP
  have hD : va_D A [(a 0, .inr (11, [.ref (a 1), .ref (a 2), .ref (a 3), .ref (a 4), .int M_isSaved, .int M_changes, .int M_isWithin, .int M_code, .ref (a 5), .int M_length, .int M_fault, .int M_failed, .ref (a 6), .int M_signMany, .ref (a 7), .ref (a 8), .int M_many, .ref (a 9), .ref (a 10), .int M_at, .ref (a 11), .int M_toldMany])), (a 1, .inl (Y 0, 238, .inl M_g)), (a 2, .inl (Y 0, 1904, .inl M_kept)), (a 3, .inl (Y 0, 238, .inl M_saved)), (a 4, .inl (Y 0, 238, .inl M_before)), (a 5, .inl (Y 0, 60, .inl M_input)), (a 6, .inl (Y 2, 100, .inl M_signs)), (a 7, .inl (Y 0, 6, .inl M_column)), (a 8, .inl (Y 0, 6, .inl M_loads)), (a 9, .inl (Y 0, 2048, .inl M_sums)), (a 10, .inl (Y 0, 2048, .inl M_groups)), (a 11, .inl (Y 0, 155, .inl M_told))] := hD
  refine lv_iconst (v := 2) hx hb dX11_cancel_81 (by decide) ?_
  refine lv_goto (tgt := 86) hx hb dX11_cancel_82 (by decide) ?_
  exact wl_X11_cancel_L86 C0 hK hA x3 x4 2 M_g M_kept M_changes M_code hf H locs hP hD hS ls (lv_sub hl [0, 1, 2, 3, 4] rfl)
set_option maxHeartbeats 4000000 in
set_option maxRecDepth 100000 in
theorem wl_X11_cancel_L70 {p : Program} {l : Launch} {e : Env} {s : State} {m : MethodId} {args : Array Value} {below : List Frame} {meth : Method} {c : Code} {dC : Nat → ClassId} {dI : Nat → Nat → Nat} {Y : Nat → ClassId} {a : Nat → Nat} {M_saved : Nat → Int32} {M_before : Nat → Int32} {M_isSaved : Int32} {M_isWithin : Int32} {M_input : Nat → Int32} {M_length : Int32} {M_fault : Int32} {M_failed : Int32} {M_signs : Nat → Int32} {M_signMany : Int32} {M_column : Nat → Int32} {M_loads : Nat → Int32} {M_many : Int32} {M_sums : Nat → Int32} {M_groups : Nat → Int32} {M_at : Int32} {M_told : Nat → Int32} {M_toldMany : Int32} {x1 : Int32} {x2 : Int32} {r : Int32} {zM_g : Nat → Int32} {zM_kept : Nat → Int32} {zM_changes : Int32} {zM_code : Int32}  (C0 : wk_C p s m args meth c cX11_cancel 6 (some .int) wsX11_cancel RX11) {A : Nat → Prop} (hK : va_K (dC, dI) vwCl (vTy Y) s) (hA : ∀ q, s.heap.size ≤ q → A q) : ∀ (x3 : Int32) (x4 : Int32)  (M_g : Nat → Int32) (M_kept : Nat → Int32) (M_changes : Int32) (M_code : Int32), f_X11_cancel_L70 M_isWithin x1 x2 x3 x4 M_g M_kept M_changes M_code = some (r, zM_g, zM_kept, zM_changes, zM_code) → ∀ (H : Heap) (locs : List Loc), va_P (dC, dI) vwCl (wX11 Y a M_g M_kept M_saved M_before M_isSaved M_changes M_isWithin M_code M_input M_length M_fault M_failed M_signs M_signMany M_column M_loads M_many M_sums M_groups M_at M_told M_toldMany) H → va_D A (wX11 Y a M_g M_kept M_saved M_before M_isSaved M_changes M_isWithin M_code M_input M_length M_fault M_failed M_signs M_signMany M_column M_loads M_many M_sums M_groups M_at M_told M_toldMany) → va_S A s.heap H locs → ∀ (ls : Array Slot), lv_has ls 6 [(0, .ref (a 0)), (1, .int x1), (2, .int x2), (3, .int x3), (4, .int x4)] → W p l e (headSpec wsX11_cancel ({ frames := 2, cells := 0, slots := 0, locals := 46 } : Room)).room s m args below meth c H locs 0 0 (MQ below (va_Qi (fun r2 (_ : Unit) => r2 = r) (fun _ t => wk_X (dC, dI) Y (wX11 Y a zM_g zM_kept M_saved M_before M_isSaved zM_changes M_isWithin zM_code M_input M_length M_fault M_failed M_signs M_signMany M_column M_loads M_many M_sums M_groups M_at M_told M_toldMany) A t) A) args s 0 0 A) (F0 m 70 ls [.ref (a 0)]) := by
  obtain ⟨hx, hb, hml, hr, hlocks, hown, hts⟩ := id C0
  intro x3 x4 M_g M_kept M_changes M_code hf H locs hP hD hS ls hl
  rw [f_X11_cancel_L70] at hf
  have hP : va_P (dC, dI) vwCl [(a 0, .inr (11, [.ref (a 1), .ref (a 2), .ref (a 3), .ref (a 4), .int M_isSaved, .int M_changes, .int M_isWithin, .int M_code, .ref (a 5), .int M_length, .int M_fault, .int M_failed, .ref (a 6), .int M_signMany, .ref (a 7), .ref (a 8), .int M_many, .ref (a 9), .ref (a 10), .int M_at, .ref (a 11), .int M_toldMany])), (a 1, .inl (Y 0, 238, .inl M_g)), (a 2, .inl (Y 0, 1904, .inl M_kept)), (a 3, .inl (Y 0, 238, .inl M_saved)), (a 4, .inl (Y 0, 238, .inl M_before)), (a 5, .inl (Y 0, 60, .inl M_input)), (a 6, .inl (Y 2, 100, .inl M_signs)), (a 7, .inl (Y 0, 6, .inl M_column)), (a 8, .inl (Y 0, 6, .inl M_loads)), (a 9, .inl (Y 0, 2048, .inl M_sums)), (a 10, .inl (Y 0, 2048, .inl M_groups)), (a 11, .inl (Y 0, 155, .inl M_told))] H := hP
  have hD : va_D A [(a 0, .inr (11, [.ref (a 1), .ref (a 2), .ref (a 3), .ref (a 4), .int M_isSaved, .int M_changes, .int M_isWithin, .int M_code, .ref (a 5), .int M_length, .int M_fault, .int M_failed, .ref (a 6), .int M_signMany, .ref (a 7), .ref (a 8), .int M_many, .ref (a 9), .ref (a 10), .int M_at, .ref (a 11), .int M_toldMany])), (a 1, .inl (Y 0, 238, .inl M_g)), (a 2, .inl (Y 0, 1904, .inl M_kept)), (a 3, .inl (Y 0, 238, .inl M_saved)), (a 4, .inl (Y 0, 238, .inl M_before)), (a 5, .inl (Y 0, 60, .inl M_input)), (a 6, .inl (Y 2, 100, .inl M_signs)), (a 7, .inl (Y 0, 6, .inl M_column)), (a 8, .inl (Y 0, 6, .inl M_loads)), (a 9, .inl (Y 0, 2048, .inl M_sums)), (a 10, .inl (Y 0, 2048, .inl M_groups)), (a 11, .inl (Y 0, 155, .inl M_told))] := hD
  refine lv_aload_n hx hb dX11_cancel_70 rfl (lv_at hl 0 rfl) ?_
  refine va_get (D := (dC, dI)) (ci := 11) (v := .ref (a 1)) (C := RX11) (T := TX11) (N := 22) hx hb hts in_X11_cancel_X11 hown hK hP 0 rfl rfl 0 (by decide) (hts _ lk_X11_cancel_RX11_7) (fun _ h9 => h9) rfl dX11_cancel_71 ?_
  refine lv_iconst (v := 3) hx hb dX11_cancel_74 (by decide) ?_
  refine wk_iald hx hb hK hP 1 0 (k := 3) rfl rfl (vp_lit (by decide)) (by decide) dX11_cancel_75 ?_
  refine lv_bipush (v := 60) hx hb dX11_cancel_76 (by decide) ?_
  refine lv_icmp_ne (tgt := 85) hx hb dX11_cancel_78 (by decide) (fun q1 => ?_) (fun q1 => ?_)
  · have hf := wk_f hf q1
    refine lv_iconst (v := 0) hx hb dX11_cancel_85 (by decide) ?_
    exact wl_X11_cancel_L86 C0 hK hA x3 x4 0 M_g M_kept M_changes M_code hf H locs hP hD hS ls (lv_sub hl [0, 1, 2, 3, 4] rfl)
  · have hf := wk_t hf q1
    exact wl_X11_cancel_L81 C0 hK hA x3 x4 M_g M_kept M_changes M_code hf H locs hP hD hS ls (lv_sub hl [0, 1, 2, 3, 4] rfl)
set_option maxHeartbeats 4000000 in
set_option maxRecDepth 100000 in
theorem wl_X11_cancel_L61 {p : Program} {l : Launch} {e : Env} {s : State} {m : MethodId} {args : Array Value} {below : List Frame} {meth : Method} {c : Code} {dC : Nat → ClassId} {dI : Nat → Nat → Nat} {Y : Nat → ClassId} {a : Nat → Nat} {M_saved : Nat → Int32} {M_before : Nat → Int32} {M_isSaved : Int32} {M_isWithin : Int32} {M_input : Nat → Int32} {M_length : Int32} {M_fault : Int32} {M_failed : Int32} {M_signs : Nat → Int32} {M_signMany : Int32} {M_column : Nat → Int32} {M_loads : Nat → Int32} {M_many : Int32} {M_sums : Nat → Int32} {M_groups : Nat → Int32} {M_at : Int32} {M_told : Nat → Int32} {M_toldMany : Int32} {x1 : Int32} {x2 : Int32} {r : Int32} {zM_g : Nat → Int32} {zM_kept : Nat → Int32} {zM_changes : Int32} {zM_code : Int32}  (C0 : wk_C p s m args meth c cX11_cancel 6 (some .int) wsX11_cancel RX11) {A : Nat → Prop} (hK : va_K (dC, dI) vwCl (vTy Y) s) (hA : ∀ q, s.heap.size ≤ q → A q) : ∀ (x3 : Int32) (x4 : Int32)  (M_g : Nat → Int32) (M_kept : Nat → Int32) (M_changes : Int32) (M_code : Int32), f_X11_cancel_L61 M_isWithin x1 x2 x3 x4 M_g M_kept M_changes M_code = some (r, zM_g, zM_kept, zM_changes, zM_code) → ∀ (H : Heap) (locs : List Loc), va_P (dC, dI) vwCl (wX11 Y a M_g M_kept M_saved M_before M_isSaved M_changes M_isWithin M_code M_input M_length M_fault M_failed M_signs M_signMany M_column M_loads M_many M_sums M_groups M_at M_told M_toldMany) H → va_D A (wX11 Y a M_g M_kept M_saved M_before M_isSaved M_changes M_isWithin M_code M_input M_length M_fault M_failed M_signs M_signMany M_column M_loads M_many M_sums M_groups M_at M_told M_toldMany) → va_S A s.heap H locs → ∀ (ls : Array Slot), lv_has ls 6 [(0, .ref (a 0)), (1, .int x1), (2, .int x2), (3, .int x3), (4, .int x4)] → W p l e (headSpec wsX11_cancel ({ frames := 2, cells := 0, slots := 0, locals := 46 } : Room)).room s m args below meth c H locs 0 0 (MQ below (va_Qi (fun r2 (_ : Unit) => r2 = r) (fun _ t => wk_X (dC, dI) Y (wX11 Y a zM_g zM_kept M_saved M_before M_isSaved zM_changes M_isWithin zM_code M_input M_length M_fault M_failed M_signs M_signMany M_column M_loads M_many M_sums M_groups M_at M_told M_toldMany) A t) A) args s 0 0 A) (F0 m 61 ls [.ref (a 0)]) := by
  obtain ⟨hx, hb, hml, hr, hlocks, hown, hts⟩ := id C0
  intro x3 x4 M_g M_kept M_changes M_code hf H locs hP hD hS ls hl
  rw [f_X11_cancel_L61] at hf
  have hP : va_P (dC, dI) vwCl [(a 0, .inr (11, [.ref (a 1), .ref (a 2), .ref (a 3), .ref (a 4), .int M_isSaved, .int M_changes, .int M_isWithin, .int M_code, .ref (a 5), .int M_length, .int M_fault, .int M_failed, .ref (a 6), .int M_signMany, .ref (a 7), .ref (a 8), .int M_many, .ref (a 9), .ref (a 10), .int M_at, .ref (a 11), .int M_toldMany])), (a 1, .inl (Y 0, 238, .inl M_g)), (a 2, .inl (Y 0, 1904, .inl M_kept)), (a 3, .inl (Y 0, 238, .inl M_saved)), (a 4, .inl (Y 0, 238, .inl M_before)), (a 5, .inl (Y 0, 60, .inl M_input)), (a 6, .inl (Y 2, 100, .inl M_signs)), (a 7, .inl (Y 0, 6, .inl M_column)), (a 8, .inl (Y 0, 6, .inl M_loads)), (a 9, .inl (Y 0, 2048, .inl M_sums)), (a 10, .inl (Y 0, 2048, .inl M_groups)), (a 11, .inl (Y 0, 155, .inl M_told))] H := hP
  have hD : va_D A [(a 0, .inr (11, [.ref (a 1), .ref (a 2), .ref (a 3), .ref (a 4), .int M_isSaved, .int M_changes, .int M_isWithin, .int M_code, .ref (a 5), .int M_length, .int M_fault, .int M_failed, .ref (a 6), .int M_signMany, .ref (a 7), .ref (a 8), .int M_many, .ref (a 9), .ref (a 10), .int M_at, .ref (a 11), .int M_toldMany])), (a 1, .inl (Y 0, 238, .inl M_g)), (a 2, .inl (Y 0, 1904, .inl M_kept)), (a 3, .inl (Y 0, 238, .inl M_saved)), (a 4, .inl (Y 0, 238, .inl M_before)), (a 5, .inl (Y 0, 60, .inl M_input)), (a 6, .inl (Y 2, 100, .inl M_signs)), (a 7, .inl (Y 0, 6, .inl M_column)), (a 8, .inl (Y 0, 6, .inl M_loads)), (a 9, .inl (Y 0, 2048, .inl M_sums)), (a 10, .inl (Y 0, 2048, .inl M_groups)), (a 11, .inl (Y 0, 155, .inl M_told))] := hD
  refine lv_iload_n hx hb dX11_cancel_61 rfl (lv_at hl 3 rfl) ?_
  refine lv_if_ge (tgt := 81) hx hb dX11_cancel_62 (by decide) (fun q1 => ?_) (fun q1 => ?_)
  · have hf := wk_t hf q1
    exact wl_X11_cancel_L81 C0 hK hA x3 x4 M_g M_kept M_changes M_code hf H locs hP hD hS ls (lv_sub hl [0, 1, 2, 3, 4] rfl)
  · have hf := wk_f hf q1
    refine lv_iload hx hb dX11_cancel_65 (lv_at hl 4 rfl) ?_
    refine lv_if_le (tgt := 81) hx hb dX11_cancel_67 (by decide) (fun q2 => ?_) (fun q2 => ?_)
    · have hf := wk_t hf q2
      exact wl_X11_cancel_L81 C0 hK hA x3 x4 M_g M_kept M_changes M_code hf H locs hP hD hS ls (lv_sub hl [0, 1, 2, 3, 4] rfl)
    · have hf := wk_f hf q2
      exact wl_X11_cancel_L70 C0 hK hA x3 x4 M_g M_kept M_changes M_code hf H locs hP hD hS ls (lv_sub hl [0, 1, 2, 3, 4] rfl)
set_option maxHeartbeats 4000000 in
set_option maxRecDepth 100000 in
theorem wl_X11_cancel_L22 {p : Program} {l : Launch} {e : Env} {s : State} {m : MethodId} {args : Array Value} {below : List Frame} {meth : Method} {c : Code} {dC : Nat → ClassId} {dI : Nat → Nat → Nat} {Y : Nat → ClassId} {a : Nat → Nat} {M_saved : Nat → Int32} {M_before : Nat → Int32} {M_isSaved : Int32} {M_isWithin : Int32} {M_input : Nat → Int32} {M_length : Int32} {M_fault : Int32} {M_failed : Int32} {M_signs : Nat → Int32} {M_signMany : Int32} {M_column : Nat → Int32} {M_loads : Nat → Int32} {M_many : Int32} {M_sums : Nat → Int32} {M_groups : Nat → Int32} {M_at : Int32} {M_told : Nat → Int32} {M_toldMany : Int32} {x1 : Int32} {x2 : Int32} {r : Int32} {zM_g : Nat → Int32} {zM_kept : Nat → Int32} {zM_changes : Int32} {zM_code : Int32}  (C0 : wk_C p s m args meth c cX11_cancel 6 (some .int) wsX11_cancel RX11) {A : Nat → Prop} (hK : va_K (dC, dI) vwCl (vTy Y) s) (hA : ∀ q, s.heap.size ≤ q → A q) : ∀  (y0 : Int32) (M_g : Nat → Int32) (M_kept : Nat → Int32) (M_changes : Int32) (M_code : Int32), f_X11_cancel_L22 M_isWithin x1 x2 y0 M_g M_kept M_changes M_code = some (r, zM_g, zM_kept, zM_changes, zM_code) → ∀ (H : Heap) (locs : List Loc), va_P (dC, dI) vwCl (wX11 Y a M_g M_kept M_saved M_before M_isSaved M_changes M_isWithin M_code M_input M_length M_fault M_failed M_signs M_signMany M_column M_loads M_many M_sums M_groups M_at M_told M_toldMany) H → va_D A (wX11 Y a M_g M_kept M_saved M_before M_isSaved M_changes M_isWithin M_code M_input M_length M_fault M_failed M_signs M_signMany M_column M_loads M_many M_sums M_groups M_at M_told M_toldMany) → va_S A s.heap H locs → ∀ (ls : Array Slot), lv_has ls 6 [(0, .ref (a 0)), (1, .int x1), (2, .int x2)] → W p l e (headSpec wsX11_cancel ({ frames := 2, cells := 0, slots := 0, locals := 46 } : Room)).room s m args below meth c H locs 0 0 (MQ below (va_Qi (fun r2 (_ : Unit) => r2 = r) (fun _ t => wk_X (dC, dI) Y (wX11 Y a zM_g zM_kept M_saved M_before M_isSaved zM_changes M_isWithin zM_code M_input M_length M_fault M_failed M_signs M_signMany M_column M_loads M_many M_sums M_groups M_at M_told M_toldMany) A t) A) args s 0 0 A) (F0 m 22 ls [.int y0, .ref (a 0)]) := by
  obtain ⟨hx, hb, hml, hr, hlocks, hown, hts⟩ := id C0
  intro y0 M_g M_kept M_changes M_code hf H locs hP hD hS ls hl
  rw [f_X11_cancel_L22] at hf
  have hP : va_P (dC, dI) vwCl [(a 0, .inr (11, [.ref (a 1), .ref (a 2), .ref (a 3), .ref (a 4), .int M_isSaved, .int M_changes, .int M_isWithin, .int M_code, .ref (a 5), .int M_length, .int M_fault, .int M_failed, .ref (a 6), .int M_signMany, .ref (a 7), .ref (a 8), .int M_many, .ref (a 9), .ref (a 10), .int M_at, .ref (a 11), .int M_toldMany])), (a 1, .inl (Y 0, 238, .inl M_g)), (a 2, .inl (Y 0, 1904, .inl M_kept)), (a 3, .inl (Y 0, 238, .inl M_saved)), (a 4, .inl (Y 0, 238, .inl M_before)), (a 5, .inl (Y 0, 60, .inl M_input)), (a 6, .inl (Y 2, 100, .inl M_signs)), (a 7, .inl (Y 0, 6, .inl M_column)), (a 8, .inl (Y 0, 6, .inl M_loads)), (a 9, .inl (Y 0, 2048, .inl M_sums)), (a 10, .inl (Y 0, 2048, .inl M_groups)), (a 11, .inl (Y 0, 155, .inl M_told))] H := hP
  have hD : va_D A [(a 0, .inr (11, [.ref (a 1), .ref (a 2), .ref (a 3), .ref (a 4), .int M_isSaved, .int M_changes, .int M_isWithin, .int M_code, .ref (a 5), .int M_length, .int M_fault, .int M_failed, .ref (a 6), .int M_signMany, .ref (a 7), .ref (a 8), .int M_many, .ref (a 9), .ref (a 10), .int M_at, .ref (a 11), .int M_toldMany])), (a 1, .inl (Y 0, 238, .inl M_g)), (a 2, .inl (Y 0, 1904, .inl M_kept)), (a 3, .inl (Y 0, 238, .inl M_saved)), (a 4, .inl (Y 0, 238, .inl M_before)), (a 5, .inl (Y 0, 60, .inl M_input)), (a 6, .inl (Y 2, 100, .inl M_signs)), (a 7, .inl (Y 0, 6, .inl M_column)), (a 8, .inl (Y 0, 6, .inl M_loads)), (a 9, .inl (Y 0, 2048, .inl M_sums)), (a 10, .inl (Y 0, 2048, .inl M_groups)), (a 11, .inl (Y 0, 155, .inl M_told))] := hD
  obtain ⟨r1, w2, hr3, hf⟩ := wkb2_s hf
  refine wk_evi (As := [.int y0]) (rest := []) (wc := (wX11 Y a M_g M_kept M_saved M_before M_isSaved M_changes M_isWithin M_code M_input M_length M_fault M_failed M_signs M_signMany M_column M_loads M_many M_sums M_groups M_at M_told M_toldMany)) (w1 := (wX11 Y a M_g M_kept M_saved M_before M_isSaved M_changes M_isWithin w2 M_input M_length M_fault M_failed M_signs M_signMany M_column M_loads M_many M_sums M_groups M_at M_told M_toldMany)) (wr := []) ⟨hx, hb, hml, hown, hts⟩ (c_X11_fails l dC dI Y a M_g M_kept M_saved M_before M_isSaved M_changes M_isWithin M_code M_input M_length M_fault M_failed M_signs M_signMany M_column M_loads M_many M_sums M_groups M_at M_told M_toldMany y0 H.size r1 w2 hr3) (cwV 1 hts gX11_cancel_X11_fails rfl rfl rfl (by decide +kernel) ⟨Nat.le_of_ble_eq_true rfl, Nat.le_of_ble_eq_true rfl⟩) hK hP hD hS hA [0, 1, 2, 3, 4, 5, 6, 7, 8, 9, 10, 11] [] rfl rfl (by decide) (by decide) (by decide) (va_recv hK hP (ci := 11) (q0 := 0) rfl rfl) rfl hl.1 rfl (Nat.le_of_ble_eq_true rfl) dX11_cancel_22 ⟨Nat.le_of_ble_eq_true rfl, Nat.le_of_ble_eq_true rfl⟩ (fun H locs hP hD hS => ?_)
  have hP : va_P (dC, dI) vwCl [(a 0, .inr (11, [.ref (a 1), .ref (a 2), .ref (a 3), .ref (a 4), .int M_isSaved, .int M_changes, .int M_isWithin, .int w2, .ref (a 5), .int M_length, .int M_fault, .int M_failed, .ref (a 6), .int M_signMany, .ref (a 7), .ref (a 8), .int M_many, .ref (a 9), .ref (a 10), .int M_at, .ref (a 11), .int M_toldMany])), (a 1, .inl (Y 0, 238, .inl M_g)), (a 2, .inl (Y 0, 1904, .inl M_kept)), (a 3, .inl (Y 0, 238, .inl M_saved)), (a 4, .inl (Y 0, 238, .inl M_before)), (a 5, .inl (Y 0, 60, .inl M_input)), (a 6, .inl (Y 2, 100, .inl M_signs)), (a 7, .inl (Y 0, 6, .inl M_column)), (a 8, .inl (Y 0, 6, .inl M_loads)), (a 9, .inl (Y 0, 2048, .inl M_sums)), (a 10, .inl (Y 0, 2048, .inl M_groups)), (a 11, .inl (Y 0, 155, .inl M_told))] H := hP
  have hD : va_D A [(a 0, .inr (11, [.ref (a 1), .ref (a 2), .ref (a 3), .ref (a 4), .int M_isSaved, .int M_changes, .int M_isWithin, .int w2, .ref (a 5), .int M_length, .int M_fault, .int M_failed, .ref (a 6), .int M_signMany, .ref (a 7), .ref (a 8), .int M_many, .ref (a 9), .ref (a 10), .int M_at, .ref (a 11), .int M_toldMany])), (a 1, .inl (Y 0, 238, .inl M_g)), (a 2, .inl (Y 0, 1904, .inl M_kept)), (a 3, .inl (Y 0, 238, .inl M_saved)), (a 4, .inl (Y 0, 238, .inl M_before)), (a 5, .inl (Y 0, 60, .inl M_input)), (a 6, .inl (Y 2, 100, .inl M_signs)), (a 7, .inl (Y 0, 6, .inl M_column)), (a 8, .inl (Y 0, 6, .inl M_loads)), (a 9, .inl (Y 0, 2048, .inl M_sums)), (a 10, .inl (Y 0, 2048, .inl M_groups)), (a 11, .inl (Y 0, 155, .inl M_told))] := hD
  refine lv_if_eq (tgt := 30) hx hb dX11_cancel_25 (by decide) (fun q4 => ?_) (fun q4 => ?_)
  · have hf := wk_t hf q4
    refine lv_aload_n hx hb dX11_cancel_30 rfl (lv_at hl 0 rfl) ?_
    refine va_get (D := (dC, dI)) (ci := 11) (v := .ref (a 1)) (C := RX11) (T := TX11) (N := 22) hx hb hts in_X11_cancel_X11 hown hK hP 0 rfl rfl 0 (by decide) (hts _ lk_X11_cancel_RX11_7) (fun _ h9 => h9) rfl dX11_cancel_31 ?_
    refine lv_bipush (v := 36) hx hb dX11_cancel_34 (by decide) ?_
    refine lv_iload_n hx hb dX11_cancel_36 rfl (lv_at hl 1 rfl) ?_
    refine lv_iadd hx hb dX11_cancel_37 ?_
    obtain ⟨h5, hf⟩ := gin_s hf
    refine wk_iald hx hb hK hP 1 0 rfl rfl h5 rfl dX11_cancel_38 ?_
    refine lv_istore_n (lv' := [(3, .int (M_g (36 + x1).toNatClampNeg)), (0, .ref (a 0)), (1, .int x1), (2, .int x2)]) hx hb dX11_cancel_39 rfl hl (by decide) rfl (fun ls hl => ?_)
    refine lv_aload_n hx hb dX11_cancel_40 rfl (lv_at hl 1 rfl) ?_
    refine va_get (D := (dC, dI)) (ci := 11) (v := .ref (a 1)) (C := RX11) (T := TX11) (N := 22) hx hb hts in_X11_cancel_X11 hown hK hP 0 rfl rfl 0 (by decide) (hts _ lk_X11_cancel_RX11_7) (fun _ h9 => h9) rfl dX11_cancel_41 ?_
    refine lv_bipush (v := 36) hx hb dX11_cancel_44 (by decide) ?_
    refine lv_iload_n hx hb dX11_cancel_46 rfl (lv_at hl 3 rfl) ?_
    refine lv_iadd hx hb dX11_cancel_47 ?_
    obtain ⟨h6, hf⟩ := gin_s hf
    refine wk_iald hx hb hK hP 1 0 rfl rfl h6 rfl dX11_cancel_48 ?_
    refine lv_istore (lv' := [(4, .int (M_g (36 + x2).toNatClampNeg)), (3, .int (M_g (36 + x1).toNatClampNeg)), (0, .ref (a 0)), (1, .int x1), (2, .int x2)]) hx hb dX11_cancel_49 hl (by decide) rfl (fun ls hl => ?_)
    refine lv_aload_n hx hb dX11_cancel_51 rfl (lv_at hl 2 rfl) ?_
    refine lv_iload_n hx hb dX11_cancel_52 rfl (lv_at hl 1 rfl) ?_
    refine lv_if_le (tgt := 61) hx hb dX11_cancel_53 (by decide) (fun q7 => ?_) (fun q7 => ?_)
    · have hf := wk_t hf q7
      exact wl_X11_cancel_L61 C0 hK hA (M_g (36 + x1).toNatClampNeg) (M_g (36 + x2).toNatClampNeg) M_g M_kept M_changes w2 hf H locs hP hD hS ls (lv_sub hl [2, 3, 4, 1, 0] rfl)
    · have hf := wk_f hf q7
      refine lv_iload hx hb dX11_cancel_56 (lv_at hl 0 rfl) ?_
      refine lv_if_lt (tgt := 70) hx hb dX11_cancel_58 (by decide) (fun q8 => ?_) (fun q8 => ?_)
      · have hf := wk_t hf q8
        exact wl_X11_cancel_L70 C0 hK hA (M_g (36 + x1).toNatClampNeg) (M_g (36 + x2).toNatClampNeg) M_g M_kept M_changes w2 hf H locs hP hD hS ls (lv_sub hl [2, 3, 4, 1, 0] rfl)
      · have hf := wk_f hf q8
        exact wl_X11_cancel_L61 C0 hK hA (M_g (36 + x1).toNatClampNeg) (M_g (36 + x2).toNatClampNeg) M_g M_kept M_changes w2 hf H locs hP hD hS ls (lv_sub hl [2, 3, 4, 1, 0] rfl)
  · have hf := wk_f hf q4
    refine lv_iconst (v := 0) hx hb dX11_cancel_28 (by decide) ?_
    obtain ⟨e0, e1, e2, e3, e4⟩ := wke5 hf
    subst e0
    subst e1
    subst e2
    subst e3
    subst e4
    have hP9 := hP.sub (ws' := (wX11 Y a M_g M_kept M_saved M_before M_isSaved M_changes M_isWithin w2 M_input M_length M_fault M_failed M_signs M_signMany M_column M_loads M_many M_sums M_groups M_at M_told M_toldMany)) [0, 1, 2, 3, 4, 5, 6, 7, 8, 9, 10, 11] rfl
    have hD9 := hD.sub (ws' := (wX11 Y a M_g M_kept M_saved M_before M_isSaved M_changes M_isWithin w2 M_input M_length M_fault M_failed M_signs M_signMany M_column M_loads M_many M_sums M_groups M_at M_told M_toldMany)) [0, 1, 2, 3, 4, 5, 6, 7, 8, 9, 10, 11] (by decide) rfl
    exact W.iret (v := 0) hx hb hr (fun t ht hW => ⟨⟨0, (), rfl, rfl, by rw [ht]; exact hP9, va_K.moved hW.alike hK, hD9⟩, hS.F ht⟩) hS.2.2 dX11_cancel_29
set_option maxHeartbeats 4000000 in
set_option maxRecDepth 100000 in
theorem wl_X11_cancel_L21 {p : Program} {l : Launch} {e : Env} {s : State} {m : MethodId} {args : Array Value} {below : List Frame} {meth : Method} {c : Code} {dC : Nat → ClassId} {dI : Nat → Nat → Nat} {Y : Nat → ClassId} {a : Nat → Nat} {M_saved : Nat → Int32} {M_before : Nat → Int32} {M_isSaved : Int32} {M_isWithin : Int32} {M_input : Nat → Int32} {M_length : Int32} {M_fault : Int32} {M_failed : Int32} {M_signs : Nat → Int32} {M_signMany : Int32} {M_column : Nat → Int32} {M_loads : Nat → Int32} {M_many : Int32} {M_sums : Nat → Int32} {M_groups : Nat → Int32} {M_at : Int32} {M_told : Nat → Int32} {M_toldMany : Int32} {x1 : Int32} {x2 : Int32} {r : Int32} {zM_g : Nat → Int32} {zM_kept : Nat → Int32} {zM_changes : Int32} {zM_code : Int32}  (C0 : wk_C p s m args meth c cX11_cancel 6 (some .int) wsX11_cancel RX11) {A : Nat → Prop} (hK : va_K (dC, dI) vwCl (vTy Y) s) (hA : ∀ q, s.heap.size ≤ q → A q) : ∀   (M_g : Nat → Int32) (M_kept : Nat → Int32) (M_changes : Int32) (M_code : Int32), f_X11_cancel_L21 M_isWithin x1 x2 M_g M_kept M_changes M_code = some (r, zM_g, zM_kept, zM_changes, zM_code) → ∀ (H : Heap) (locs : List Loc), va_P (dC, dI) vwCl (wX11 Y a M_g M_kept M_saved M_before M_isSaved M_changes M_isWithin M_code M_input M_length M_fault M_failed M_signs M_signMany M_column M_loads M_many M_sums M_groups M_at M_told M_toldMany) H → va_D A (wX11 Y a M_g M_kept M_saved M_before M_isSaved M_changes M_isWithin M_code M_input M_length M_fault M_failed M_signs M_signMany M_column M_loads M_many M_sums M_groups M_at M_told M_toldMany) → va_S A s.heap H locs → ∀ (ls : Array Slot), lv_has ls 6 [(0, .ref (a 0)), (1, .int x1), (2, .int x2)] → W p l e (headSpec wsX11_cancel ({ frames := 2, cells := 0, slots := 0, locals := 46 } : Room)).room s m args below meth c H locs 0 0 (MQ below (va_Qi (fun r2 (_ : Unit) => r2 = r) (fun _ t => wk_X (dC, dI) Y (wX11 Y a zM_g zM_kept M_saved M_before M_isSaved zM_changes M_isWithin zM_code M_input M_length M_fault M_failed M_signs M_signMany M_column M_loads M_many M_sums M_groups M_at M_told M_toldMany) A t) A) args s 0 0 A) (F0 m 21 ls [.ref (a 0)]) := by
  obtain ⟨hx, hb, hml, hr, hlocks, hown, hts⟩ := id C0
  intro M_g M_kept M_changes M_code hf H locs hP hD hS ls hl
  rw [f_X11_cancel_L21] at hf
  have hP : va_P (dC, dI) vwCl [(a 0, .inr (11, [.ref (a 1), .ref (a 2), .ref (a 3), .ref (a 4), .int M_isSaved, .int M_changes, .int M_isWithin, .int M_code, .ref (a 5), .int M_length, .int M_fault, .int M_failed, .ref (a 6), .int M_signMany, .ref (a 7), .ref (a 8), .int M_many, .ref (a 9), .ref (a 10), .int M_at, .ref (a 11), .int M_toldMany])), (a 1, .inl (Y 0, 238, .inl M_g)), (a 2, .inl (Y 0, 1904, .inl M_kept)), (a 3, .inl (Y 0, 238, .inl M_saved)), (a 4, .inl (Y 0, 238, .inl M_before)), (a 5, .inl (Y 0, 60, .inl M_input)), (a 6, .inl (Y 2, 100, .inl M_signs)), (a 7, .inl (Y 0, 6, .inl M_column)), (a 8, .inl (Y 0, 6, .inl M_loads)), (a 9, .inl (Y 0, 2048, .inl M_sums)), (a 10, .inl (Y 0, 2048, .inl M_groups)), (a 11, .inl (Y 0, 155, .inl M_told))] H := hP
  have hD : va_D A [(a 0, .inr (11, [.ref (a 1), .ref (a 2), .ref (a 3), .ref (a 4), .int M_isSaved, .int M_changes, .int M_isWithin, .int M_code, .ref (a 5), .int M_length, .int M_fault, .int M_failed, .ref (a 6), .int M_signMany, .ref (a 7), .ref (a 8), .int M_many, .ref (a 9), .ref (a 10), .int M_at, .ref (a 11), .int M_toldMany])), (a 1, .inl (Y 0, 238, .inl M_g)), (a 2, .inl (Y 0, 1904, .inl M_kept)), (a 3, .inl (Y 0, 238, .inl M_saved)), (a 4, .inl (Y 0, 238, .inl M_before)), (a 5, .inl (Y 0, 60, .inl M_input)), (a 6, .inl (Y 2, 100, .inl M_signs)), (a 7, .inl (Y 0, 6, .inl M_column)), (a 8, .inl (Y 0, 6, .inl M_loads)), (a 9, .inl (Y 0, 2048, .inl M_sums)), (a 10, .inl (Y 0, 2048, .inl M_groups)), (a 11, .inl (Y 0, 155, .inl M_told))] := hD
  refine lv_iconst (v := 1) hx hb dX11_cancel_21 (by decide) ?_
  exact wl_X11_cancel_L22 C0 hK hA 1 M_g M_kept M_changes M_code hf H locs hP hD hS ls (lv_sub hl [0, 1, 2] rfl)
set_option maxHeartbeats 4000000 in
set_option maxRecDepth 100000 in
theorem c_X11_cancel (l : Launch) (dC : Nat → ClassId) (dI : Nat → Nat → Nat) (Y : Nat → ClassId) (a : Nat → Nat) (M_g : Nat → Int32) (M_kept : Nat → Int32) (M_saved : Nat → Int32) (M_before : Nat → Int32) (M_isSaved : Int32) (M_changes : Int32) (M_isWithin : Int32) (M_code : Int32) (M_input : Nat → Int32) (M_length : Int32) (M_fault : Int32) (M_failed : Int32) (M_signs : Nat → Int32) (M_signMany : Int32) (M_column : Nat → Int32) (M_loads : Nat → Int32) (M_many : Int32) (M_sums : Nat → Int32) (M_groups : Nat → Int32) (M_at : Int32) (M_told : Nat → Int32) (M_toldMany : Int32) (x1 : Int32) (x2 : Int32) (sz : Nat) (r : Int32) (zM_g : Nat → Int32) (zM_kept : Nat → Int32) (zM_changes : Int32) (zM_code : Int32) (hf : f_X11_cancel M_g M_kept M_changes M_isWithin M_code x1 x2 = some (r, zM_g, zM_kept, zM_changes, zM_code)) : Met l yX11_cancel wsX11_cancel ({ frames := 2, cells := 0, slots := 0, locals := 46 } : Room) (va_Pc [.ref (a 0), .int x1, .int x2] (wk_E (dC, dI) Y (wX11 Y a M_g M_kept M_saved M_before M_isSaved M_changes M_isWithin M_code M_input M_length M_fault M_failed M_signs M_signMany M_column M_loads M_many M_sums M_groups M_at M_told M_toldMany) sz)) (va_Qi (fun r2 (_ : Unit) => r2 = r) (fun _ t => wk_X (dC, dI) Y (wX11 Y a zM_g zM_kept M_saved M_before M_isSaved zM_changes M_isWithin zM_code M_input M_length M_fault M_failed M_signs M_signMany M_column M_loads M_many M_sums M_groups M_at M_told M_toldMany) (va_A (wX11 Y a M_g M_kept M_saved M_before M_isSaved M_changes M_isWithin M_code M_input M_length M_fault M_failed M_signs M_signMany M_column M_loads M_many M_sums M_groups M_at M_told M_toldMany) sz) t) (va_A (wX11 Y a M_g M_kept M_saved M_before M_isSaved M_changes M_isWithin M_code M_input M_length M_fault M_failed M_signs M_signMany M_column M_loads M_many M_sums M_groups M_at M_told M_toldMany) sz)) 0 0 (va_A (wX11 Y a M_g M_kept M_saved M_before M_isSaved M_changes M_isWithin M_code M_input M_length M_fault M_failed M_signs M_signMany M_column M_loads M_many M_sums M_groups M_at M_told M_toldMany) sz) := by
  refine Met.ofW (cc := cX11_cancel) (maxL := 6) (ret := (some .int)) (by decide) rfl ?_
  intro p e s m args below meth c s₁ B hml hv
  obtain ⟨rfl, hsz, hP, hK, hD0⟩ := hv
  have hx := B.exec
  have hb := B.bytes
  have hr := B.returns
  have hts := atoms_spec (ws := wsX11_cancel) B.pre
  have hown : s.vm.findClass RX11 = some m.cls := findClass_of_methodNamed B.named
  have hlocks := B.notSynchronized
  have C0 : wk_C p s m _ meth c cX11_cancel 6 (some .int) wsX11_cancel RX11 := ⟨hx, hb, hml, hr, hlocks, hown, hts⟩
  subst hsz
  have hD := hD0.self (sz := s.heap.size)
  generalize hAe : va_A (wX11 Y a M_g M_kept M_saved M_before M_isSaved M_changes M_isWithin M_code M_input M_length M_fault M_failed M_signs M_signMany M_column M_loads M_many M_sums M_groups M_at M_told M_toldMany) s.heap.size = A at hD ⊢
  have hA : ∀ q : Nat, s.heap.size ≤ q → A q := fun q h => by rw [← hAe]; exact Or.inr h
  have hS : va_S A s.heap s.heap [] := va_S.rf
  obtain ⟨H, hHe⟩ : ∃ H, H = s.heap := ⟨_, rfl⟩
  have hS : va_S A s.heap H [] := by rw [hHe]; exact hS
  have hP : va_P (dC, dI) vwCl [(a 0, .inr (11, [.ref (a 1), .ref (a 2), .ref (a 3), .ref (a 4), .int M_isSaved, .int M_changes, .int M_isWithin, .int M_code, .ref (a 5), .int M_length, .int M_fault, .int M_failed, .ref (a 6), .int M_signMany, .ref (a 7), .ref (a 8), .int M_many, .ref (a 9), .ref (a 10), .int M_at, .ref (a 11), .int M_toldMany])), (a 1, .inl (Y 0, 238, .inl M_g)), (a 2, .inl (Y 0, 1904, .inl M_kept)), (a 3, .inl (Y 0, 238, .inl M_saved)), (a 4, .inl (Y 0, 238, .inl M_before)), (a 5, .inl (Y 0, 60, .inl M_input)), (a 6, .inl (Y 2, 100, .inl M_signs)), (a 7, .inl (Y 0, 6, .inl M_column)), (a 8, .inl (Y 0, 6, .inl M_loads)), (a 9, .inl (Y 0, 2048, .inl M_sums)), (a 10, .inl (Y 0, 2048, .inl M_groups)), (a 11, .inl (Y 0, 155, .inl M_told))] H := by rw [hHe]; exact hP
  have hD : va_D A [(a 0, .inr (11, [.ref (a 1), .ref (a 2), .ref (a 3), .ref (a 4), .int M_isSaved, .int M_changes, .int M_isWithin, .int M_code, .ref (a 5), .int M_length, .int M_fault, .int M_failed, .ref (a 6), .int M_signMany, .ref (a 7), .ref (a 8), .int M_many, .ref (a 9), .ref (a 10), .int M_at, .ref (a 11), .int M_toldMany])), (a 1, .inl (Y 0, 238, .inl M_g)), (a 2, .inl (Y 0, 1904, .inl M_kept)), (a 3, .inl (Y 0, 238, .inl M_saved)), (a 4, .inl (Y 0, 238, .inl M_before)), (a 5, .inl (Y 0, 60, .inl M_input)), (a 6, .inl (Y 2, 100, .inl M_signs)), (a 7, .inl (Y 0, 6, .inl M_column)), (a 8, .inl (Y 0, 6, .inl M_loads)), (a 9, .inl (Y 0, 2048, .inl M_sums)), (a 10, .inl (Y 0, 2048, .inl M_groups)), (a 11, .inl (Y 0, 155, .inl M_told))] := hD
  obtain ⟨locs, hlo⟩ : ∃ locs : List Loc, locs = [] := ⟨_, rfl⟩
  have hS : va_S A s.heap H locs := by rw [hlo]; exact hS
  have hl := lv_entry ([.ref (a 0), .int x1, .int x2]) (n := 6) (Nat.le_of_ble_eq_true rfl)
  rw [lg_entry_eq]
  generalize (lg_sl ([.ref (a 0), .int x1, .int x2]) ++ List.replicate (6 - (lg_sl ([.ref (a 0), .int x1, .int x2])).length) Slot.unset).toArray = ls at hl ⊢
  have hl : lv_has ls 6 [(0, .ref (a 0)), (1, .int x1), (2, .int x2)] := hl
  refine wk_start hHe hlo ?_
  rw [f_X11_cancel] at hf
  refine lv_aload_n hx hb dX11_cancel_0 rfl (lv_at hl 0 rfl) ?_
  refine lv_aload_n hx hb dX11_cancel_1 rfl (lv_at hl 0 rfl) ?_
  refine lv_iload_n hx hb dX11_cancel_2 rfl (lv_at hl 1 rfl) ?_
  obtain ⟨r1, hr2, hf⟩ := wkb1_s hf
  have hPc := hP.sub (ws' := (wX11 Y a M_g M_kept M_saved M_before M_isSaved M_changes M_isWithin M_code M_input M_length M_fault M_failed M_signs M_signMany M_column M_loads M_many M_sums M_groups M_at M_told M_toldMany)) [0, 1, 2, 3, 4, 5, 6, 7, 8, 9, 10, 11] rfl
  refine wk_vi (As := [.int x1]) (rest := [.ref (a 0)]) ⟨hx, hb, hml, hown, hts⟩ (c_X11_isAccount l dC dI Y a M_g M_kept M_saved M_before M_isSaved M_changes M_isWithin M_code M_input M_length M_fault M_failed M_signs M_signMany M_column M_loads M_many M_sums M_groups M_at M_told M_toldMany x1 r1 hr2) (cwV 1 hts gX11_cancel_X11_isAccount rfl rfl rfl (by decide +kernel) ⟨Nat.le_of_ble_eq_true rfl, Nat.le_of_ble_eq_true rfl⟩) hK hPc (va_recv hK hP (ci := 11) (q0 := 0) rfl rfl) rfl hl.1 rfl (Nat.le_of_ble_eq_true rfl) dX11_cancel_3 ⟨Nat.le_of_ble_eq_true rfl, Nat.le_of_ble_eq_true rfl⟩ ?_
  refine lv_if_eq (tgt := 21) hx hb dX11_cancel_6 (by decide) (fun q3 => ?_) (fun q3 => ?_)
  · have hf := wk_t hf q3
    exact wl_X11_cancel_L21 C0 hK hA M_g M_kept M_changes M_code hf H locs hP hD hS ls (lv_sub hl [0, 1, 2] rfl)
  · have hf := wk_f hf q3
    refine lv_aload_n hx hb dX11_cancel_9 rfl (lv_at hl 0 rfl) ?_
    refine lv_iload_n hx hb dX11_cancel_10 rfl (lv_at hl 2 rfl) ?_
    obtain ⟨r4, hr5, hf⟩ := wkb1_s hf
    have hPc := hP.sub (ws' := (wX11 Y a M_g M_kept M_saved M_before M_isSaved M_changes M_isWithin M_code M_input M_length M_fault M_failed M_signs M_signMany M_column M_loads M_many M_sums M_groups M_at M_told M_toldMany)) [0, 1, 2, 3, 4, 5, 6, 7, 8, 9, 10, 11] rfl
    refine wk_vi (As := [.int x2]) (rest := [.ref (a 0)]) ⟨hx, hb, hml, hown, hts⟩ (c_X11_isAccount l dC dI Y a M_g M_kept M_saved M_before M_isSaved M_changes M_isWithin M_code M_input M_length M_fault M_failed M_signs M_signMany M_column M_loads M_many M_sums M_groups M_at M_told M_toldMany x2 r4 hr5) (cwV 1 hts gX11_cancel_X11_isAccount rfl rfl rfl (by decide +kernel) ⟨Nat.le_of_ble_eq_true rfl, Nat.le_of_ble_eq_true rfl⟩) hK hPc (va_recv hK hP (ci := 11) (q0 := 0) rfl rfl) rfl hl.1 rfl (Nat.le_of_ble_eq_true rfl) dX11_cancel_11 ⟨Nat.le_of_ble_eq_true rfl, Nat.le_of_ble_eq_true rfl⟩ ?_
    refine lv_if_eq (tgt := 21) hx hb dX11_cancel_14 (by decide) (fun q6 => ?_) (fun q6 => ?_)
    · have hf := wk_t hf q6
      exact wl_X11_cancel_L21 C0 hK hA M_g M_kept M_changes M_code hf H locs hP hD hS ls (lv_sub hl [0, 1, 2] rfl)
    · have hf := wk_f hf q6
      refine lv_iconst (v := 0) hx hb dX11_cancel_17 (by decide) ?_
      refine lv_goto (tgt := 22) hx hb dX11_cancel_18 (by decide) ?_
      exact wl_X11_cancel_L22 C0 hK hA 0 M_g M_kept M_changes M_code hf H locs hP hD hS ls (lv_sub hl [0, 1, 2] rfl)
