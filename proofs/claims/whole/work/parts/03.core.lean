/-! words of this proof: partial numbers by guards, contracts over a world of cells -/
def gin {α : Type} (i : Int32) (n : Nat) (x : Option α) : Option α := if i < 0 ∨ n ≤ i.toNatClampNeg then none else x
theorem gin_s {α : Type} {i : Int32} {n : Nat} {x : Option α} {r : α} (h : gin i n x = some r) : vp_in i n ∧ x = some r := by
  unfold gin at h
  by_cases q : i < 0 ∨ n ≤ i.toNatClampNeg
  · rw [if_pos q] at h; cases h
  · rw [if_neg q] at h; exact ⟨q, h⟩
theorem gin_t {α : Type} {i : Int32} {n : Nat} {x : Option α} (h : vp_in i n) : gin i n x = x := if_neg h
def gbo {α : Type} (v : Int32) (x : Option α) : Option α := if v = 0 ∨ v = 1 then x else none
theorem gbo_s {α : Type} {v : Int32} {x : Option α} {r : α} (h : gbo v x = some r) : (v = 0 ∨ v = 1) ∧ x = some r := by
  unfold gbo at h
  by_cases q : v = 0 ∨ v = 1
  · rw [if_pos q] at h; exact ⟨q, h⟩
  · rw [if_neg q] at h; cases h
theorem gbo_n {v : Int32} (h : v = 0 ∨ v = 1) : narrow .boolean (.int v) = .int v := by rcases h with rfl | rfl <;> rfl
/-- any guard -/
def gok {α : Type} (c : Prop) [Decidable c] (x : Option α) : Option α := if c then x else none
theorem gok_s {α : Type} {c : Prop} [Decidable c] {x : Option α} {r : α} (h : gok c x = some r) : c ∧ x = some r := by
  unfold gok at h
  by_cases q : c
  · rw [if_pos q] at h; exact ⟨q, h⟩
  · rw [if_neg q] at h; cases h
theorem gok_t {α : Type} {c : Prop} [Decidable c] {x : Option α} (h : c) : gok c x = x := if_pos h
def wkl {α β : Type} (e : α) (k : α → Option β) : Option β := k e
theorem wkl_s {α β : Type} {e : α} {k : α → Option β} {r : β} (h : wkl e k = some r) {x : α} (hx : x = e) : k x = some r := hx ▸ h
theorem wk_t {α : Type} {c : Prop} [Decidable c] {A B : Option α} {r : α} (h : (if c then A else B) = some r) (hc : c) : A = some r := (if_pos hc).symm.trans h
theorem wk_f {α : Type} {c : Prop} [Decidable c] {A B : Option α} {r : α} (h : (if c then A else B) = some r) (hc : ¬ c) : B = some r := (if_neg hc).symm.trans h
def wkb1 {α γ : Type} (o : Option α) (k : α → Option γ) : Option γ := match o with | none => none | some a => k a
theorem wkb1_s {α γ : Type} {o : Option α} {k : α → Option γ} {r : γ} (h : wkb1 o k = some r) : ∃ a, o = some a ∧ k a = some r := by
  cases o with
  | none => cases h
  | some a => exact ⟨a, rfl, h⟩
def wkb2 {α β γ : Type} (o : Option (α × β)) (k : α → β → Option γ) : Option γ := match o with | none => none | some (a, b) => k a b
theorem wkb2_s {α β γ : Type} {o : Option (α × β)} {k : α → β → Option γ} {r : γ} (h : wkb2 o k = some r) : ∃ a b, o = some (a, b) ∧ k a b = some r := by
  cases o with
  | none => cases h
  | some a => exact ⟨a.1, a.2, rfl, h⟩
def wkb3 {α β δ γ : Type} (o : Option (α × β × δ)) (k : α → β → δ → Option γ) : Option γ := match o with | none => none | some (a, b, c) => k a b c
theorem wkb3_s {α β δ γ : Type} {o : Option (α × β × δ)} {k : α → β → δ → Option γ} {r : γ} (h : wkb3 o k = some r) : ∃ a b c, o = some (a, b, c) ∧ k a b c = some r := by
  cases o with
  | none => cases h
  | some a => exact ⟨a.1, a.2.1, a.2.2, rfl, h⟩
def wkb4 {α β δ ε γ : Type} (o : Option (α × β × δ × ε)) (k : α → β → δ → ε → Option γ) : Option γ := match o with | none => none | some (a, b, c, d) => k a b c d
theorem wkb4_s {α β δ ε γ : Type} {o : Option (α × β × δ × ε)} {k : α → β → δ → ε → Option γ} {r : γ} (h : wkb4 o k = some r) : ∃ a b c d, o = some (a, b, c, d) ∧ k a b c d = some r := by
  cases o with
  | none => cases h
  | some a => exact ⟨a.1, a.2.1, a.2.2.1, a.2.2.2, rfl, h⟩
def wkb5 {α β δ ε ζ γ : Type} (o : Option (α × β × δ × ε × ζ)) (k : α → β → δ → ε → ζ → Option γ) : Option γ := match o with | none => none | some (a, b, c, d, e) => k a b c d e
theorem wkb5_s {α β δ ε ζ γ : Type} {o : Option (α × β × δ × ε × ζ)} {k : α → β → δ → ε → ζ → Option γ} {r : γ} (h : wkb5 o k = some r) : ∃ a b c d e, o = some (a, b, c, d, e) ∧ k a b c d e = some r := by
  cases o with
  | none => cases h
  | some a => exact ⟨a.1, a.2.1, a.2.2.1, a.2.2.2.1, a.2.2.2.2, rfl, h⟩
def wkb6 {α β δ ε ζ η γ : Type} (o : Option (α × β × δ × ε × ζ × η)) (k : α → β → δ → ε → ζ → η → Option γ) : Option γ := match o with | none => none | some (a, b, c, d, e, f) => k a b c d e f
theorem wkb6_s {α β δ ε ζ η γ : Type} {o : Option (α × β × δ × ε × ζ × η)} {k : α → β → δ → ε → ζ → η → Option γ} {r : γ} (h : wkb6 o k = some r) : ∃ a b c d e f, o = some (a, b, c, d, e, f) ∧ k a b c d e f = some r := by
  cases o with
  | none => cases h
  | some a => exact ⟨a.1, a.2.1, a.2.2.1, a.2.2.2.1, a.2.2.2.2.1, a.2.2.2.2.2, rfl, h⟩
def wkb7 {α β δ ε ζ η θ γ : Type} (o : Option (α × β × δ × ε × ζ × η × θ)) (k : α → β → δ → ε → ζ → η → θ → Option γ) : Option γ := match o with | none => none | some (a, b, c, d, e, f, g) => k a b c d e f g
theorem wkb7_s {α β δ ε ζ η θ γ : Type} {o : Option (α × β × δ × ε × ζ × η × θ)} {k : α → β → δ → ε → ζ → η → θ → Option γ} {r : γ} (h : wkb7 o k = some r) : ∃ a b c d e f g, o = some (a, b, c, d, e, f, g) ∧ k a b c d e f g = some r := by
  cases o with
  | none => cases h
  | some a => exact ⟨a.1, a.2.1, a.2.2.1, a.2.2.2.1, a.2.2.2.2.1, a.2.2.2.2.2.1, a.2.2.2.2.2.2, rfl, h⟩
theorem wke1 {α : Type} {a a' : α} (h : some a = some a') : a = a' := Option.some.inj h
theorem wke2 {α β : Type} {a a' : α} {b b' : β} (h : some (a, b) = some (a', b')) : a = a' ∧ b = b' := Prod.mk.inj (Option.some.inj h)
theorem wke3 {α β γ : Type} {a a' : α} {b b' : β} {c c' : γ} (h : some (a, b, c) = some (a', b', c')) : a = a' ∧ b = b' ∧ c = c' := by cases h; exact ⟨rfl, rfl, rfl⟩
theorem wke4 {α β γ δ : Type} {a a' : α} {b b' : β} {c c' : γ} {d d' : δ} (h : some (a, b, c, d) = some (a', b', c', d')) : a = a' ∧ b = b' ∧ c = c' ∧ d = d' := by cases h; exact ⟨rfl, rfl, rfl, rfl⟩
theorem wke5 {α β γ δ ε : Type} {a a' : α} {b b' : β} {c c' : γ} {d d' : δ} {e e' : ε} (h : some (a, b, c, d, e) = some (a', b', c', d', e')) : a = a' ∧ b = b' ∧ c = c' ∧ d = d' ∧ e = e' := by cases h; exact ⟨rfl, rfl, rfl, rfl, rfl⟩
theorem wke6 {α β γ δ ε ζ : Type} {a a' : α} {b b' : β} {c c' : γ} {d d' : δ} {e e' : ε} {f f' : ζ} (h : some (a, b, c, d, e, f) = some (a', b', c', d', e', f')) : a = a' ∧ b = b' ∧ c = c' ∧ d = d' ∧ e = e' ∧ f = f' := by cases h; exact ⟨rfl, rfl, rfl, rfl, rfl, rfl⟩
theorem wke7 {α β γ δ ε ζ η : Type} {a a' : α} {b b' : β} {c c' : γ} {d d' : δ} {e e' : ε} {f f' : ζ} {g g' : η} (h : some (a, b, c, d, e, f, g) = some (a', b', c', d', e', f', g')) : a = a' ∧ b = b' ∧ c = c' ∧ d = d' ∧ e = e' ∧ f = f' ∧ g = g' := by cases h; exact ⟨rfl, rfl, rfl, rfl, rfl, rfl, rfl⟩
/-- how often a loop may come to its head -/
def FU : Nat := 5000
/-- the classes of the rows -/
abbrev vTy (Y : Nat → ClassId) : List (ClassId × FieldType) := [(Y 0, .int), (Y 1, .byte), (Y 2, .char), (Y 3, .object RX3), (Y 4, .object RX4), (Y 5, .long), (Y 6, .double)]
abbrev wk_B (D : va_G) (Y : Nat → ClassId) (ws : va_W) (U : State) : Prop := va_P D vwCl ws U.heap ∧ va_K D vwCl (vTy Y) U
theorem wk_Bb {D : va_G} {Y : Nat → ClassId} {ws : va_W} {av : List Value} : FrameBlind (va_Pc av (wk_B D Y ws)) := fun a U g mk q => ⟨q.1, q.2.1, va_K.moved (u := U) (U := U.calling g mk a) (Vm.Alike.refl U.vm) q.2.2⟩
theorem wk_Bp {D : va_G} {Y : Nat → ClassId} {ws : va_W} {s : State} {H : Heap} (hK : va_K D vwCl (vTy Y) s) (hP : va_P D vwCl ws H) {av : List Value} : ∀ U : State, U.heap = H → s.WarmedH U.vm → va_Pc av (wk_B D Y ws) av.toArray U := fun U hU hW => ⟨rfl, by rw [hU]; exact hP, va_K.moved hW.alike hK⟩
abbrev wk_E (D : va_G) (Y : Nat → ClassId) (ws : va_W) (sz : Nat) (U : State) : Prop := U.heap.size = sz ∧ va_P D vwCl ws U.heap ∧ va_K D vwCl (vTy Y) U ∧ va_D (fun _ => True) ws
theorem wk_Eb {D : va_G} {Y : Nat → ClassId} {ws : va_W} {sz : Nat} {av : List Value} : FrameBlind (va_Pc av (wk_E D Y ws sz)) := fun a U g mk q => ⟨q.1, q.2.1, q.2.2.1, va_K.moved (u := U) (U := U.calling g mk a) (Vm.Alike.refl U.vm) q.2.2.2.1, q.2.2.2.2⟩
theorem wk_Ep {D : va_G} {Y : Nat → ClassId} {ws : va_W} {s : State} {H : Heap} {A : Nat → Prop} (hK : va_K D vwCl (vTy Y) s) (hP : va_P D vwCl ws H) (hD : va_D A ws) {av : List Value} : ∀ U : State, U.heap = H → s.WarmedH U.vm → va_Pc av (wk_E D Y ws H.size) av.toArray U := fun U hU hW => ⟨rfl, by rw [hU], by rw [hU]; exact hP, va_K.moved hW.alike hK, hD.weaken (fun _ _ _ _ => trivial)⟩
abbrev wk_X (D : va_G) (Y : Nat → ClassId) (ws : va_W) (A : Nat → Prop) (t : State) : Prop := va_P D vwCl ws t.heap ∧ va_K D vwCl (vTy Y) t ∧ va_D A ws
/-- what stands at hand inside a method -/
abbrev wk_C (p : Program) (s : State) (m : MethodId) (args : Array Value) (meth : Method) (c : Code) (cc : ByteArray) (nL : Nat) (ret : Option FieldType) (Ts : List Cond) (own : String) : Prop :=
  p.tables.exec = Jvm.exec ∧ c.code = cc ∧ c.maxLocals = nL ∧ meth.sig.returnType = ret ∧ meth.locks = false ∧ s.vm.findClass own = some m.cls ∧ ∀ w ∈ Ts, w.before args s = true
theorem wk_fm {ws wc : va_W} {is : List Nat} (h : is.map (fun i => ws[i]?) = wc.map some) : is.filterMap (fun i => ws[i]?) = wc := by
  have e : is.filterMap (fun i => ws[i]?) = (is.map (fun i => ws[i]?)).filterMap id := by rw [List.filterMap_map]; rfl
  rw [e, h, List.filterMap_map]
  simp
theorem vp_lit {i : Int32} {n : Nat} (h : ¬ (i < 0 ∨ n ≤ i.toNatClampNeg)) : vp_in i n := h
section WKC
variable {p : Program} {l : Launch} {e : Env} {R : Room} {s : State} {m : MethodId} {args : Array Value} {below : List Frame} {meth : Method} {c : Code} {H : Heap} {locs : List Loc} {cells slots : Nat} {Q : State → Prop}
variable {pc : Nat} {ls : Array Slot} {rest st0 : List Value} {D : va_G} {Y : Nat → ClassId} {cc bytes : ByteArray} {own C : String} {index maxL nL mc ms n : Nat} {y : MethodName} {ret : Option FieldType} {ws Ts : List Cond} {rm : Room} {As : List Value} {b : Addr} {wc wr w1 wall : va_W} {A0 : Nat → Prop}
/-- reads of an int row at a place -/
theorem wk_iald (hexec : p.tables.exec = Jvm.exec) (hb : c.code = cc) {tys : List (ClassId × FieldType)} {a : Nat} (hK : va_K D vwCl tys s) (hP : va_P D vwCl wc H) (q0 t0 : Nat) {cA : ClassId} {n k : Nat} {f : Nat → Int32} {i : Int32} (ha : wc[q0]? = some (a, .inl (cA, n, .inl f))) (ht : tys[t0]? = some (cA, .int)) (hin : vp_in i n) (hk : i.toNatClampNeg = k) (hdg : decode cc pc = .ok (.iaload, 1))
    (kk : W p l e R s m args below meth c H locs cells slots Q (F0 m (pc + 1) ls (.int (f k) :: rest))) : W p l e R s m args below meth c H locs cells slots Q (F0 m pc ls (.int i :: .ref a :: rest)) := by
  subst hk
  exact va_iald hexec hb hK hP q0 t0 ha ht hin hdg kk
theorem wk_iast (hexec : p.tables.exec = Jvm.exec) (hb : c.code = cc) {tys : List (ClassId × FieldType)} {a : Nat} {H0 : Heap} (hK : va_K D vwCl tys s) (hP : va_P D vwCl wc H) (hD : va_D A0 wc) (hS : va_S A0 H0 H locs) (q0 t0 : Nat) {cA : ClassId} {n k : Nat} {f : Nat → Int32} {i x : Int32} (ha : wc[q0]? = some (a, .inl (cA, n, .inl f))) (ht : tys[t0]? = some (cA, .int)) (hin : vp_in i n) (hk : i.toNatClampNeg = k) (hdg : decode cc pc = .ok (.iastore, 1))
    (kk : ∀ (f1 : Nat → Int32) (H1 : Heap) (locs1 : List Loc), f1 = upd f k x → va_P D vwCl (wc.set q0 (a, .inl (cA, n, .inl f1))) H1 → va_D A0 (wc.set q0 (a, .inl (cA, n, .inl f1))) → va_S A0 H0 H1 locs1 → W p l e R s m args below meth c H1 locs1 cells slots Q (F0 m (pc + 1) ls rest)) : W p l e R s m args below meth c H locs cells slots Q (F0 m pc ls (.int x :: .int i :: .ref a :: rest)) := by
  subst hk
  exact va_iast hexec hb hK hP hD hS q0 t0 ha ht hin hdg (fun H1 locs1 h1 h2 h3 => kk _ H1 locs1 rfl h1 h2 h3)
theorem wk_start {H0 : Heap} (hH : H = H0) (hlo : locs = []) (k : W p l e R s m args below meth c H locs 0 0 Q (F0 m pc ls rest)) : W p l e R s m args below meth c H0 [] 0 0 Q (F0 m pc ls rest) := by
  subst hH; subst hlo; exact k
theorem wk_acopy (hexec : p.tables.exec = Jvm.exec) (hb : c.code = cc) (hml : c.maxLocals = ls.size) (hown : s.vm.findClass own = some m.cls) (hlink : (Cond.methodLink own index arraycopyName).before args s = true) (hnat : (Cond.native arraycopyName).before args s = true) (hstat : (Cond.static arraycopyName).before args s = true) (hini : (Cond.initialized "java/lang/System").before args s = true)
    {H0 : Heap} {a a0 : Nat} (hK : va_K D vwCl (vTy Y) s) (hP : va_P D vwCl wc H) (hD : va_D A0 wc) (hS : va_S A0 H0 H locs) (q0 q1 : Nat) {n0 n1 : Nat} {f g : Nat → Int32} (ha0 : wc[q0]? = some (a0, .inl (Y 0, n0, .inl f))) (ha1 : wc[q1]? = some (a, .inl (Y 0, n1, .inl g)))
    {sp dp n : Int32} {s1 d1 k1 : Nat} (h1 : sp.toNatClampNeg = s1 ∧ ¬ sp < 0) (h2 : dp.toNatClampNeg = d1 ∧ ¬ dp < 0) (h3 : n.toNatClampNeg = k1 ∧ ¬ n < 0) (h4 : s1 + k1 ≤ n0) (h5 : d1 + k1 ≤ n1)
    (hframes : 1 ≤ R.frames) (hlocals : (rest.map fun v => v.category).sum + (nativeFrameWords "java/lang/System" "arraycopy" 5 + 11) ≤ R.locals) (hdg : decode cc pc = .ok (.invokestatic index, 3))
    (kk : ∀ (f1 : Nat → Int32) (H1 : Heap) (locs1 : List Loc), f1 = va_cpy f g s1 d1 k1 → va_P D vwCl (wc.set q1 (a, .inl (Y 0, n1, .inl f1))) H1 → va_D A0 (wc.set q1 (a, .inl (Y 0, n1, .inl f1))) → va_S A0 H0 H1 locs1 → W p l e R s m args below meth c H1 locs1 cells slots Q (F0 m (pc + 3) ls rest)) : W p l e R s m args below meth c H locs cells slots Q (F0 m pc ls (.int n :: .int dp :: .ref a :: .int sp :: .ref a0 :: rest)) := by
  obtain ⟨e1, h1⟩ := h1
  obtain ⟨e2, h2⟩ := h2
  obtain ⟨e3, h3⟩ := h3
  subst e1; subst e2; subst e3
  exact va_copyi hexec hb hml hown hlink hnat hstat hini hK hP hD hS q0 q1 0 0 (ty := .int) ha0 ha1 rfl rfl rfl h1 h2 h3 h4 h5 (fun _ _ => rfl) hframes hlocals hdg (fun H1 locs1 p1 p2 p3 => kk _ H1 locs1 rfl p1 p2 p3)
/-- calls of methods that leave the heap as it is -/
theorem wk_vi {r : Int32} (S : CallFix p m c cc nL s args Ts own) (hM : Met l y ws rm (va_Pc (.ref b :: As) (wk_B D Y wc)) (vp_Si (fun r2 => r2 = r)) 0 0 (fun _ => False)) (cw : CallW R s args own C index y bytes maxL ret ws rm 0 0 n)
    (hK : va_K D vwCl (vTy Y) s) (hP : va_P D vwCl wc H) (hrv : ∃ cell : Cell, H[b]? = some cell ∧ cell.vm.isStatics = false ∧ s.vm.findClass C = some cell.cls) (hn : As.length = n) (hsize : ls.size = nL) (hst : st0 = As.reverse ++ .ref b :: rest) (hw : (rest.map fun v => v.category).sum ≤ 8) (hdg : decode cc pc = .ok (.invokevirtual index, 3)) (hf : cells ≤ R.cells ∧ slots ≤ R.slots)
    (kk : W p l e R s m args below meth c H locs cells slots Q (F0 m (pc + 3) ls (.int r :: rest))) : W p l e R s m args below meth c H locs cells slots Q (F0 m pc ls st0) :=
  vp_callSi (W.runV S hM cw ⟨wk_Bb, hrv, wk_Bp hK hP⟩ rfl hn hsize hst (lv_room hw) hdg hf) (fun r2 e2 => by subst e2; exact kk)
theorem wk_si {r : Int32} (S : CallFix p m c cc nL s args Ts own) (hM : Met l y ws rm (va_Pc As (wk_B D Y wc)) (vp_Si (fun r2 => r2 = r)) 0 0 (fun _ => False)) (cw : CallB R s args own index y bytes maxL ret ws rm 0 0 n ∧ (Cond.static y).before args s = true)
    (hK : va_K D vwCl (vTy Y) s) (hP : va_P D vwCl wc H) (hn : As.length = n) (hsize : ls.size = nL) (hst : st0 = As.reverse ++ rest) (hw : (rest.map fun v => v.category).sum ≤ 8) (hdg : decode cc pc = .ok (.invokestatic index, 3)) (hf : cells ≤ R.cells ∧ slots ≤ R.slots)
    (kk : W p l e R s m args below meth c H locs cells slots Q (F0 m (pc + 3) ls (.int r :: rest))) : W p l e R s m args below meth c H locs cells slots Q (F0 m pc ls st0) :=
  vp_callSi (W.runS S hM cw ⟨wk_Bb, wk_Bp hK hP⟩ rfl hn hsize hst (lv_room hw) hdg hf) (fun r2 e2 => by subst e2; exact kk)
theorem wk_vf {r : UInt32} (S : CallFix p m c cc nL s args Ts own) (hM : Met l y ws rm (va_Pc (.ref b :: As) (wk_B D Y wc)) (vp_Sf (fun r2 => r2 = r)) 0 0 (fun _ => False)) (cw : CallW R s args own C index y bytes maxL ret ws rm 0 0 n)
    (hK : va_K D vwCl (vTy Y) s) (hP : va_P D vwCl wc H) (hrv : ∃ cell : Cell, H[b]? = some cell ∧ cell.vm.isStatics = false ∧ s.vm.findClass C = some cell.cls) (hn : As.length = n) (hsize : ls.size = nL) (hst : st0 = As.reverse ++ .ref b :: rest) (hw : (rest.map fun v => v.category).sum ≤ 8) (hdg : decode cc pc = .ok (.invokevirtual index, 3)) (hf : cells ≤ R.cells ∧ slots ≤ R.slots)
    (kk : W p l e R s m args below meth c H locs cells slots Q (F0 m (pc + 3) ls (.float r :: rest))) : W p l e R s m args below meth c H locs cells slots Q (F0 m pc ls st0) :=
  vp_callSf (W.runV S hM cw ⟨wk_Bb, hrv, wk_Bp hK hP⟩ rfl hn hsize hst (lv_room hw) hdg hf) (fun r2 e2 => by subst e2; exact kk)
theorem wk_vd {r : UInt64} (S : CallFix p m c cc nL s args Ts own) (hM : Met l y ws rm (va_Pc (.ref b :: As) (wk_B D Y wc)) (vp_Sd (fun r2 => r2 = r)) 0 0 (fun _ => False)) (cw : CallW R s args own C index y bytes maxL ret ws rm 0 0 n)
    (hK : va_K D vwCl (vTy Y) s) (hP : va_P D vwCl wc H) (hrv : ∃ cell : Cell, H[b]? = some cell ∧ cell.vm.isStatics = false ∧ s.vm.findClass C = some cell.cls) (hn : As.length = n) (hsize : ls.size = nL) (hst : st0 = As.reverse ++ .ref b :: rest) (hw : (rest.map fun v => v.category).sum ≤ 8) (hdg : decode cc pc = .ok (.invokevirtual index, 3)) (hf : cells ≤ R.cells ∧ slots ≤ R.slots)
    (kk : W p l e R s m args below meth c H locs cells slots Q (F0 m (pc + 3) ls (.double r :: rest))) : W p l e R s m args below meth c H locs cells slots Q (F0 m pc ls st0) :=
  vp_callSd (W.runV S hM cw ⟨wk_Bb, hrv, wk_Bp hK hP⟩ rfl hn hsize hst (lv_room hw) hdg hf) (fun r2 e2 => by subst e2; exact kk)
/-- calls of methods that change their cells -/
theorem wk_evi {r : Int32} (S : CallFix p m c cc nL s args Ts own) (hM : Met l y ws rm (va_Pc (.ref b :: As) (wk_E D Y wc H.size)) (va_Qi (fun r2 (_ : Unit) => r2 = r) (fun _ t => wk_X D Y w1 (va_A wc H.size) t) (va_A wc H.size)) mc ms (va_A wc H.size)) (cw : CallW R s args own C index y bytes maxL ret ws rm mc ms n)
    (hK : va_K D vwCl (vTy Y) s) (hP : va_P D vwCl wall H) (hD : va_D A0 wall) (hS : va_S A0 s.heap H locs) (hA : ∀ q, s.heap.size ≤ q → A0 q) (isC isR : List Nat) (hC : isC.map (fun i => wall[i]?) = wc.map some) (hR : isR.map (fun i => wall[i]?) = wr.map some) (hnC : va_nd isC = true) (hnR : va_nd isR = true) (hdis : ∀ i ∈ isR, i ∉ isC)
    (hrv : ∃ cell : Cell, H[b]? = some cell ∧ cell.vm.isStatics = false ∧ s.vm.findClass C = some cell.cls) (hn : As.length = n) (hsize : ls.size = nL) (hst : st0 = As.reverse ++ .ref b :: rest) (hw : (rest.map fun v => v.category).sum ≤ 8) (hdg : decode cc pc = .ok (.invokevirtual index, 3)) (hf : cells + mc ≤ R.cells ∧ slots + ms ≤ R.slots)
    (kk : ∀ (H1 : Heap) (locs1 : List Loc), va_P D vwCl (wr ++ w1) H1 → va_D A0 (wr ++ w1) → va_S A0 s.heap H1 locs1 → W p l e R s m args below meth c H1 locs1 (cells + mc) (slots + ms) Q (F0 m (pc + 3) ls (.int r :: rest))) : W p l e R s m args below meth c H locs cells slots Q (F0 m pc ls st0) := by
  have hPc := hP.sub isC (wk_fm hC)
  have hDc := hD.sub isC hnC hC
  have hFc := va_free (wc := wc) hD hS hA isC hC
  refine va_calli (va_runV (rest := rest) S hM cw ⟨wk_Eb, hrv, wk_Ep hK hPc hDc⟩ rfl hn hsize hst (lv_room hw) hdg hf) hS (fun q _ h => hFc q h) hFc (fun r2 u t H1 locs1 ht hvm hw2 hB hz1 hk1 hS1 => ?_)
  subst hw2
  obtain ⟨hP1, hK1, hD1⟩ := hB
  rw [ht] at hP1
  obtain ⟨hP2, hD2⟩ := va_join (wr := wr) (w1 := w1) hP hD isC isR hC hR hnR hdis hk1 hFc hP1 hD1
  exact kk H1 locs1 hP2 hD2 hS1
theorem wk_evv (S : CallFix p m c cc nL s args Ts own) (hM : Met l y ws rm (va_Pc (.ref b :: As) (wk_E D Y wc H.size)) (va_Qv (fun (_ : Unit) => True) (fun _ t => wk_X D Y w1 (va_A wc H.size) t) (va_A wc H.size)) mc ms (va_A wc H.size)) (cw : CallW R s args own C index y bytes maxL ret ws rm mc ms n)
    (hK : va_K D vwCl (vTy Y) s) (hP : va_P D vwCl wall H) (hD : va_D A0 wall) (hS : va_S A0 s.heap H locs) (hA : ∀ q, s.heap.size ≤ q → A0 q) (isC isR : List Nat) (hC : isC.map (fun i => wall[i]?) = wc.map some) (hR : isR.map (fun i => wall[i]?) = wr.map some) (hnC : va_nd isC = true) (hnR : va_nd isR = true) (hdis : ∀ i ∈ isR, i ∉ isC)
    (hrv : ∃ cell : Cell, H[b]? = some cell ∧ cell.vm.isStatics = false ∧ s.vm.findClass C = some cell.cls) (hn : As.length = n) (hsize : ls.size = nL) (hst : st0 = As.reverse ++ .ref b :: rest) (hw : (rest.map fun v => v.category).sum ≤ 8) (hdg : decode cc pc = .ok (.invokevirtual index, 3)) (hf : cells + mc ≤ R.cells ∧ slots + ms ≤ R.slots)
    (kk : ∀ (H1 : Heap) (locs1 : List Loc), va_P D vwCl (wr ++ w1) H1 → va_D A0 (wr ++ w1) → va_S A0 s.heap H1 locs1 → W p l e R s m args below meth c H1 locs1 (cells + mc) (slots + ms) Q (F0 m (pc + 3) ls rest)) : W p l e R s m args below meth c H locs cells slots Q (F0 m pc ls st0) := by
  have hPc := hP.sub isC (wk_fm hC)
  have hDc := hD.sub isC hnC hC
  have hFc := va_free (wc := wc) hD hS hA isC hC
  refine va_callv (va_runV (rest := rest) S hM cw ⟨wk_Eb, hrv, wk_Ep hK hPc hDc⟩ rfl hn hsize hst (lv_room hw) hdg hf) hS (fun q _ h => hFc q h) hFc (fun u t H1 locs1 ht hvm hw2 hB hz1 hk1 hS1 => ?_)
  obtain ⟨hP1, hK1, hD1⟩ := hB
  rw [ht] at hP1
  obtain ⟨hP2, hD2⟩ := va_join (wr := wr) (w1 := w1) hP hD isC isR hC hR hnR hdis hk1 hFc hP1 hD1
  exact kk H1 locs1 hP2 hD2 hS1
theorem wk_esv (S : CallFix p m c cc nL s args Ts own) (hM : Met l y ws rm (va_Pc As (wk_E D Y wc H.size)) (va_Qv (fun (_ : Unit) => True) (fun _ t => wk_X D Y w1 (va_A wc H.size) t) (va_A wc H.size)) mc ms (va_A wc H.size)) (cw : CallB R s args own index y bytes maxL ret ws rm mc ms n ∧ (Cond.static y).before args s = true)
    (hK : va_K D vwCl (vTy Y) s) (hP : va_P D vwCl wall H) (hD : va_D A0 wall) (hS : va_S A0 s.heap H locs) (hA : ∀ q, s.heap.size ≤ q → A0 q) (isC isR : List Nat) (hC : isC.map (fun i => wall[i]?) = wc.map some) (hR : isR.map (fun i => wall[i]?) = wr.map some) (hnC : va_nd isC = true) (hnR : va_nd isR = true) (hdis : ∀ i ∈ isR, i ∉ isC)
    (hn : As.length = n) (hsize : ls.size = nL) (hst : st0 = As.reverse ++ rest) (hw : (rest.map fun v => v.category).sum ≤ 8) (hdg : decode cc pc = .ok (.invokestatic index, 3)) (hf : cells + mc ≤ R.cells ∧ slots + ms ≤ R.slots)
    (kk : ∀ (H1 : Heap) (locs1 : List Loc), va_P D vwCl (wr ++ w1) H1 → va_D A0 (wr ++ w1) → va_S A0 s.heap H1 locs1 → W p l e R s m args below meth c H1 locs1 (cells + mc) (slots + ms) Q (F0 m (pc + 3) ls rest)) : W p l e R s m args below meth c H locs cells slots Q (F0 m pc ls st0) := by
  have hPc := hP.sub isC (wk_fm hC)
  have hDc := hD.sub isC hnC hC
  have hFc := va_free (wc := wc) hD hS hA isC hC
  refine va_callv (va_runS (rest := rest) S hM cw ⟨wk_Eb, wk_Ep hK hPc hDc⟩ rfl hn hsize hst (lv_room hw) hdg hf) hS (fun q _ h => hFc q h) hFc (fun u t H1 locs1 ht hvm hw2 hB hz1 hk1 hS1 => ?_)
  obtain ⟨hP1, hK1, hD1⟩ := hB
  rw [ht] at hP1
  obtain ⟨hP2, hD2⟩ := va_join (wr := wr) (w1 := w1) hP hD isC isR hC hR hnR hdis hk1 hFc hP1 hD1
  exact kk H1 locs1 hP2 hD2 hS1
theorem wk_esi {r : Int32} (S : CallFix p m c cc nL s args Ts own) (hM : Met l y ws rm (va_Pc As (wk_E D Y wc H.size)) (va_Qi (fun r2 (_ : Unit) => r2 = r) (fun _ t => wk_X D Y w1 (va_A wc H.size) t) (va_A wc H.size)) mc ms (va_A wc H.size)) (cw : CallB R s args own index y bytes maxL ret ws rm mc ms n ∧ (Cond.static y).before args s = true)
    (hK : va_K D vwCl (vTy Y) s) (hP : va_P D vwCl wall H) (hD : va_D A0 wall) (hS : va_S A0 s.heap H locs) (hA : ∀ q, s.heap.size ≤ q → A0 q) (isC isR : List Nat) (hC : isC.map (fun i => wall[i]?) = wc.map some) (hR : isR.map (fun i => wall[i]?) = wr.map some) (hnC : va_nd isC = true) (hnR : va_nd isR = true) (hdis : ∀ i ∈ isR, i ∉ isC)
    (hn : As.length = n) (hsize : ls.size = nL) (hst : st0 = As.reverse ++ rest) (hw : (rest.map fun v => v.category).sum ≤ 8) (hdg : decode cc pc = .ok (.invokestatic index, 3)) (hf : cells + mc ≤ R.cells ∧ slots + ms ≤ R.slots)
    (kk : ∀ (H1 : Heap) (locs1 : List Loc), va_P D vwCl (wr ++ w1) H1 → va_D A0 (wr ++ w1) → va_S A0 s.heap H1 locs1 → W p l e R s m args below meth c H1 locs1 (cells + mc) (slots + ms) Q (F0 m (pc + 3) ls (.int r :: rest))) : W p l e R s m args below meth c H locs cells slots Q (F0 m pc ls st0) := by
  have hPc := hP.sub isC (wk_fm hC)
  have hDc := hD.sub isC hnC hC
  have hFc := va_free (wc := wc) hD hS hA isC hC
  refine va_calli (va_runS (rest := rest) S hM cw ⟨wk_Eb, wk_Ep hK hPc hDc⟩ rfl hn hsize hst (lv_room hw) hdg hf) hS (fun q _ h => hFc q h) hFc (fun r2 u t H1 locs1 ht hvm hw2 hB hz1 hk1 hS1 => ?_)
  subst hw2
  obtain ⟨hP1, hK1, hD1⟩ := hB
  rw [ht] at hP1
  obtain ⟨hP2, hD2⟩ := va_join (wr := wr) (w1 := w1) hP hD isC isR hC hR hnR hdis hk1 hFc hP1 hD1
  exact kk H1 locs1 hP2 hD2 hS1
end WKC
