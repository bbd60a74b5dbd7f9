/-! the law's helpers: rows -/
def wkz {α β γ : Type} (o : Option (α ⊕ β)) (k : α → Option γ) (x : β → Option γ) : Option γ := match o with | none => none | some (.inr E) => x E | some (.inl a) => k a
theorem wkz_s {α β γ : Type} {o : Option (α ⊕ β)} {k : α → Option γ} {x : β → Option γ} {r : γ} (h : wkz o k x = some r) : (∃ a, o = some (.inl a) ∧ k a = some r) ∨ (∃ E, o = some (.inr E) ∧ x E = some r) := by
  cases o with
  | none => cases h
  | some a =>
    cases a with
    | inl a => exact Or.inl ⟨a, rfl, h⟩
    | inr E => exact Or.inr ⟨E, rfl, h⟩
abbrev sNc : List (String × String) := [("java/lang/IllegalStateException", "java/lang/IllegalArgumentException"), ("java/lang/IllegalArgumentException", "java/lang/IndexOutOfBoundsException"), ("java/lang/IllegalStateException", "java/lang/IndexOutOfBoundsException"), ("java/lang/UnsupportedOperationException", "java/lang/IndexOutOfBoundsException"), ("java/lang/UnsupportedOperationException", "java/lang/IllegalArgumentException"), ("java/lang/UnsupportedOperationException", "java/lang/IllegalStateException"), ("java/lang/IllegalStateException", "java/lang/UnsupportedOperationException"), ("java/util/NoSuchElementException", "java/lang/IllegalArgumentException"), ("java/lang/ArithmeticException", "java/lang/IllegalArgumentException")]
abbrev sCk : List (Nat × String) := [(13, "java/lang/IllegalArgumentException"), (15, "java/lang/IllegalStateException"), (21, "java/lang/IndexOutOfBoundsException"), (23, "java/lang/UnsupportedOperationException"), (67, "java/util/NoSuchElementException"), (88, "java/lang/ArithmeticException")]
def wk_NC (U : State) : Prop := (∀ x ∈ sNc, va_Nc x.1 x.2 U) ∧ ∀ x ∈ sCk, va_Nw (.classLink RL x.1 x.2) U
theorem wk_Nw_warm {w : Cond} (hg : goodWord w = true) {s U : State} (hW : s.WarmedH U.vm) (h : va_Nw w s) : va_Nw w U := word_at hW (good_of_word hg) h
theorem wk_NC.warm {s U : State} (hW : s.WarmedH U.vm) (h : wk_NC s) : wk_NC U := ⟨fun x hx => va_Nc.moved hW.alike (h.1 x hx), fun x hx => wk_Nw_warm rfl hW (h.2 x hx)⟩
theorem wk_at {w : Cond} (hg : vx_ot w = true) {s : State} {args : Array Value} (h : va_Nw w s) : w.before args s = true := vx_ot_at (State.WarmedH.refl s) rfl hg h
abbrev wk_EC (D : va_G) (Y : Nat → ClassId) (g : Nat → Nat → Nat) (ws : va_W) (sz : Nat) (U : State) : Prop := wk_ET D Y g ws sz U ∧ wk_NC U
theorem wk_ECb {D : va_G} {Y : Nat → ClassId} {g : Nat → Nat → Nat} {ws : va_W} {sz : Nat} {av : List Value} : FrameBlind (va_Pc av (wk_EC D Y g ws sz)) := fun a U k mk q => ⟨q.1, (wk_ETb a U k mk ⟨q.1, q.2.1⟩).2, wk_NC.warm (s := U) (U := U.calling k mk a) (State.WarmedH.refl U) q.2.2⟩
theorem wk_ECp {D : va_G} {Y : Nat → ClassId} {g : Nat → Nat → Nat} {ws : va_W} {s : State} {H : Heap} {A A1 : Nat → Prop} {locs : List Loc} (hK : va_K D vwCl (vTy Y) s) (hP : va_P D vwCl ws H) (hD : va_D A1 ws) (hT : wk_T g A s s.heap) (hS : va_S A s.heap H locs) (hF : ∀ q, va_A ws H.size q → A q) (hN : wk_NC s) {av : List Value} : ∀ U : State, U.heap = H → s.WarmedH U.vm → va_Pc av (wk_EC D Y g ws H.size) av.toArray U := fun U hU hW =>
  ⟨rfl, (wk_ETp (av := av) hK hP hD hT hS hF U hU hW).2, wk_NC.warm hW hN⟩
section WLAW
variable {p : Program} {l : Launch} {e : Env} {R : Room} {s : State} {m : MethodId} {args : Array Value} {below : List Frame} {meth : Method} {c : Code} {H : Heap} {locs : List Loc} {cells slots : Nat} {Q : State → Prop}
variable {pc : Nat} {ls : Array Slot} {rest st0 : List Value} {D : va_G} {Y : Nat → ClassId} {cc bytes : ByteArray} {own C : String} {index maxL nL mc ms n : Nat} {y : MethodName} {ret : Option FieldType} {ws Ts : List Cond} {rm : Room} {As : List Value} {b : Addr} {wc wr wall : va_W} {A0 : Nat → Prop} {g : Nat → Nat → Nat}
theorem wv_iN {r : Int32} (S : CallFix p m c cc nL s args Ts own) (hM : vx_Met l y ws rm (va_Pc (.ref b :: As) (wk_BT D Y g wc)) (wxQi (.inl r)) (wxX (.inl r : Int32 ⊕ String)) mc ms (fun _ => False)) (cw : CallW R s args own C index y bytes maxL ret ws rm mc ms n)
    (hK : va_K D vwCl (vTy Y) s) (hP : va_P D vwCl wc H) (hT : wk_T g A0 s s.heap) (hS : va_S A0 s.heap H locs) (hrv : ∃ cell : Cell, H[b]? = some cell ∧ cell.vm.isStatics = false ∧ s.vm.findClass C = some cell.cls) (hn : As.length = n) (hsize : ls.size = nL) (hst : st0 = As.reverse ++ .ref b :: rest) (hw : (rest.map fun v => v.category).sum ≤ 8) (hdg : decode cc pc = .ok (.invokevirtual index, 3)) (hf : cells + mc ≤ R.cells ∧ slots + ms ≤ R.slots)
    (kk : W p l e R s m args below meth c H locs (cells + mc) (slots + ms) Q (F0 m (pc + 3) ls (.int r :: rest))) : W p l e R s m args below meth c H locs cells slots Q (F0 m pc ls st0) := by
  intro T hT0 X
  rcases vx_runV (g := F0 m pc ls st0) (rest := rest) S hM cw ⟨wk_BTb, hrv, wk_BTp hK hP hT hS⟩ rfl hn hsize hst (lv_room hw) hdg hf T hT0 X with ⟨v, st₀, t, T', L, h0, X', hL, e1, e2, ⟨r2, he, ho, hh⟩, st⟩ | ⟨q, st₀, t, T', L, E, ce, h0, X', hL, e1, e2, ⟨he, -⟩, -⟩
  · cases ho
    cases he
    obtain ⟨t2, a1, b1⟩ := kk T' (by rw [e1, hh, h0]) (Stand.forget X' (fun q h => (hL q h).elim))
    exact ⟨t2, st t2 a1, b1⟩
  · exact nomatch he
theorem wv_iX {E0 : String} (S : CallFix p m c cc nL s args Ts own) (hM : vx_Met l y ws rm (va_Pc (.ref b :: As) (wk_BT D Y g wc)) (wxQi (.inr E0)) (wxX (.inr E0 : Int32 ⊕ String)) mc ms (fun _ => False)) (cw : CallW R s args own C index y bytes maxL ret ws rm mc ms n)
    (hK : va_K D vwCl (vTy Y) s) (hP : va_P D vwCl wc H) (hT : wk_T g A0 s s.heap) (hS : va_S A0 s.heap H locs) (hrv : ∃ cell : Cell, H[b]? = some cell ∧ cell.vm.isStatics = false ∧ s.vm.findClass C = some cell.cls) (hn : As.length = n) (hsize : ls.size = nL) (hst : st0 = As.reverse ++ .ref b :: rest) (hw : (rest.map fun v => v.category).sum ≤ 8) (hdg : decode cc pc = .ok (.invokevirtual index, 3)) (hf : cells + mc ≤ R.cells ∧ slots + ms ≤ R.slots) (hPw : va_P D vwCl wall H)
    (kk : ∀ (H1 : Heap) (ce : Cell) (q9 : Nat), va_P D vwCl wall H1 → va_S A0 s.heap H1 locs → H1[q9]? = some ce → ce.vm = .none → s.vm.findClass E0 = some ce.cls → vx_W p l e R s m args below meth c H1 locs (cells + mc) (slots + ms) Q (F0 m pc ls rest) q9) : W p l e R s m args below meth c H locs cells slots Q (F0 m pc ls st0) := by
  intro T hT0 X
  rcases vx_runV (g := F0 m pc ls st0) (rest := rest) S hM cw ⟨wk_BTb, hrv, wk_BTp hK hP hT hS⟩ rfl hn hsize hst (lv_room hw) hdg hf T hT0 X with ⟨v, st₀, t, T', L, h0, X', hL, e1, e2, ⟨r2, he, -⟩, st⟩ | ⟨q, st₀, t, T', L, E, ce, h0, X', hL, e1, e2, ⟨he, hz, hq⟩, hce, hcv, hcl, st⟩
  · exact nomatch he
  · cases he
    rw [h0] at hz hq
    have hq' : ∀ q : Nat, q < H.size → T'.heap[q]? = H[q]? := fun q h => by rw [e1]; exact hq q h
    obtain ⟨t2, a1, b1⟩ := kk T'.heap ce q (hPw.kept (fun k q hk => hq' _ (vx_lt hPw hk))) ⟨by rw [e1]; exact Nat.le_trans hS.1 hz, fun q h1 h2 => (hq' q (Nat.lt_of_lt_of_le h1 hS.1)).trans (hS.2.1 q h1 h2), hS.2.2⟩ (by rw [e1]; exact hce) hcv hcl T' rfl (Stand.forget X' (fun q h => (hL q h).elim))
    exact ⟨t2, st.trans a1, b1⟩
theorem wv_lN {r : Int64} (S : CallFix p m c cc nL s args Ts own) (hM : vx_Met l y ws rm (va_Pc (.ref b :: As) (wk_BT D Y g wc)) (wxQl (.inl r)) (wxX (.inl r : Int64 ⊕ String)) mc ms (fun _ => False)) (cw : CallW R s args own C index y bytes maxL ret ws rm mc ms n)
    (hK : va_K D vwCl (vTy Y) s) (hP : va_P D vwCl wc H) (hT : wk_T g A0 s s.heap) (hS : va_S A0 s.heap H locs) (hrv : ∃ cell : Cell, H[b]? = some cell ∧ cell.vm.isStatics = false ∧ s.vm.findClass C = some cell.cls) (hn : As.length = n) (hsize : ls.size = nL) (hst : st0 = As.reverse ++ .ref b :: rest) (hw : (rest.map fun v => v.category).sum ≤ 8) (hdg : decode cc pc = .ok (.invokevirtual index, 3)) (hf : cells + mc ≤ R.cells ∧ slots + ms ≤ R.slots)
    (kk : W p l e R s m args below meth c H locs (cells + mc) (slots + ms) Q (F0 m (pc + 3) ls (.long r :: rest))) : W p l e R s m args below meth c H locs cells slots Q (F0 m pc ls st0) := by
  intro T hT0 X
  rcases vx_runV (g := F0 m pc ls st0) (rest := rest) S hM cw ⟨wk_BTb, hrv, wk_BTp hK hP hT hS⟩ rfl hn hsize hst (lv_room hw) hdg hf T hT0 X with ⟨v, st₀, t, T', L, h0, X', hL, e1, e2, ⟨r2, he, ho, hh⟩, st⟩ | ⟨q, st₀, t, T', L, E, ce, h0, X', hL, e1, e2, ⟨he, -⟩, -⟩
  · cases ho
    cases he
    obtain ⟨t2, a1, b1⟩ := kk T' (by rw [e1, hh, h0]) (Stand.forget X' (fun q h => (hL q h).elim))
    exact ⟨t2, st t2 a1, b1⟩
  · exact nomatch he
theorem wv_lX {E0 : String} (S : CallFix p m c cc nL s args Ts own) (hM : vx_Met l y ws rm (va_Pc (.ref b :: As) (wk_BT D Y g wc)) (wxQl (.inr E0)) (wxX (.inr E0 : Int64 ⊕ String)) mc ms (fun _ => False)) (cw : CallW R s args own C index y bytes maxL ret ws rm mc ms n)
    (hK : va_K D vwCl (vTy Y) s) (hP : va_P D vwCl wc H) (hT : wk_T g A0 s s.heap) (hS : va_S A0 s.heap H locs) (hrv : ∃ cell : Cell, H[b]? = some cell ∧ cell.vm.isStatics = false ∧ s.vm.findClass C = some cell.cls) (hn : As.length = n) (hsize : ls.size = nL) (hst : st0 = As.reverse ++ .ref b :: rest) (hw : (rest.map fun v => v.category).sum ≤ 8) (hdg : decode cc pc = .ok (.invokevirtual index, 3)) (hf : cells + mc ≤ R.cells ∧ slots + ms ≤ R.slots) (hPw : va_P D vwCl wall H)
    (kk : ∀ (H1 : Heap) (ce : Cell) (q9 : Nat), va_P D vwCl wall H1 → va_S A0 s.heap H1 locs → H1[q9]? = some ce → ce.vm = .none → s.vm.findClass E0 = some ce.cls → vx_W p l e R s m args below meth c H1 locs (cells + mc) (slots + ms) Q (F0 m pc ls rest) q9) : W p l e R s m args below meth c H locs cells slots Q (F0 m pc ls st0) := by
  intro T hT0 X
  rcases vx_runV (g := F0 m pc ls st0) (rest := rest) S hM cw ⟨wk_BTb, hrv, wk_BTp hK hP hT hS⟩ rfl hn hsize hst (lv_room hw) hdg hf T hT0 X with ⟨v, st₀, t, T', L, h0, X', hL, e1, e2, ⟨r2, he, -⟩, st⟩ | ⟨q, st₀, t, T', L, E, ce, h0, X', hL, e1, e2, ⟨he, hz, hq⟩, hce, hcv, hcl, st⟩
  · exact nomatch he
  · cases he
    rw [h0] at hz hq
    have hq' : ∀ q : Nat, q < H.size → T'.heap[q]? = H[q]? := fun q h => by rw [e1]; exact hq q h
    obtain ⟨t2, a1, b1⟩ := kk T'.heap ce q (hPw.kept (fun k q hk => hq' _ (vx_lt hPw hk))) ⟨by rw [e1]; exact Nat.le_trans hS.1 hz, fun q h1 h2 => (hq' q (Nat.lt_of_lt_of_le h1 hS.1)).trans (hS.2.1 q h1 h2), hS.2.2⟩ (by rw [e1]; exact hce) hcv hcl T' rfl (Stand.forget X' (fun q h => (hL q h).elim))
    exact ⟨t2, st.trans a1, b1⟩
theorem wv_fN {r : UInt32} (S : CallFix p m c cc nL s args Ts own) (hM : vx_Met l y ws rm (va_Pc (.ref b :: As) (wk_BT D Y g wc)) (wxQf (.inl r)) (wxX (.inl r : UInt32 ⊕ String)) mc ms (fun _ => False)) (cw : CallW R s args own C index y bytes maxL ret ws rm mc ms n)
    (hK : va_K D vwCl (vTy Y) s) (hP : va_P D vwCl wc H) (hT : wk_T g A0 s s.heap) (hS : va_S A0 s.heap H locs) (hrv : ∃ cell : Cell, H[b]? = some cell ∧ cell.vm.isStatics = false ∧ s.vm.findClass C = some cell.cls) (hn : As.length = n) (hsize : ls.size = nL) (hst : st0 = As.reverse ++ .ref b :: rest) (hw : (rest.map fun v => v.category).sum ≤ 8) (hdg : decode cc pc = .ok (.invokevirtual index, 3)) (hf : cells + mc ≤ R.cells ∧ slots + ms ≤ R.slots)
    (kk : W p l e R s m args below meth c H locs (cells + mc) (slots + ms) Q (F0 m (pc + 3) ls (.float r :: rest))) : W p l e R s m args below meth c H locs cells slots Q (F0 m pc ls st0) := by
  intro T hT0 X
  rcases vx_runV (g := F0 m pc ls st0) (rest := rest) S hM cw ⟨wk_BTb, hrv, wk_BTp hK hP hT hS⟩ rfl hn hsize hst (lv_room hw) hdg hf T hT0 X with ⟨v, st₀, t, T', L, h0, X', hL, e1, e2, ⟨r2, he, ho, hh⟩, st⟩ | ⟨q, st₀, t, T', L, E, ce, h0, X', hL, e1, e2, ⟨he, -⟩, -⟩
  · cases ho
    cases he
    obtain ⟨t2, a1, b1⟩ := kk T' (by rw [e1, hh, h0]) (Stand.forget X' (fun q h => (hL q h).elim))
    exact ⟨t2, st t2 a1, b1⟩
  · exact nomatch he
theorem wv_fX {E0 : String} (S : CallFix p m c cc nL s args Ts own) (hM : vx_Met l y ws rm (va_Pc (.ref b :: As) (wk_BT D Y g wc)) (wxQf (.inr E0)) (wxX (.inr E0 : UInt32 ⊕ String)) mc ms (fun _ => False)) (cw : CallW R s args own C index y bytes maxL ret ws rm mc ms n)
    (hK : va_K D vwCl (vTy Y) s) (hP : va_P D vwCl wc H) (hT : wk_T g A0 s s.heap) (hS : va_S A0 s.heap H locs) (hrv : ∃ cell : Cell, H[b]? = some cell ∧ cell.vm.isStatics = false ∧ s.vm.findClass C = some cell.cls) (hn : As.length = n) (hsize : ls.size = nL) (hst : st0 = As.reverse ++ .ref b :: rest) (hw : (rest.map fun v => v.category).sum ≤ 8) (hdg : decode cc pc = .ok (.invokevirtual index, 3)) (hf : cells + mc ≤ R.cells ∧ slots + ms ≤ R.slots) (hPw : va_P D vwCl wall H)
    (kk : ∀ (H1 : Heap) (ce : Cell) (q9 : Nat), va_P D vwCl wall H1 → va_S A0 s.heap H1 locs → H1[q9]? = some ce → ce.vm = .none → s.vm.findClass E0 = some ce.cls → vx_W p l e R s m args below meth c H1 locs (cells + mc) (slots + ms) Q (F0 m pc ls rest) q9) : W p l e R s m args below meth c H locs cells slots Q (F0 m pc ls st0) := by
  intro T hT0 X
  rcases vx_runV (g := F0 m pc ls st0) (rest := rest) S hM cw ⟨wk_BTb, hrv, wk_BTp hK hP hT hS⟩ rfl hn hsize hst (lv_room hw) hdg hf T hT0 X with ⟨v, st₀, t, T', L, h0, X', hL, e1, e2, ⟨r2, he, -⟩, st⟩ | ⟨q, st₀, t, T', L, E, ce, h0, X', hL, e1, e2, ⟨he, hz, hq⟩, hce, hcv, hcl, st⟩
  · exact nomatch he
  · cases he
    rw [h0] at hz hq
    have hq' : ∀ q : Nat, q < H.size → T'.heap[q]? = H[q]? := fun q h => by rw [e1]; exact hq q h
    obtain ⟨t2, a1, b1⟩ := kk T'.heap ce q (hPw.kept (fun k q hk => hq' _ (vx_lt hPw hk))) ⟨by rw [e1]; exact Nat.le_trans hS.1 hz, fun q h1 h2 => (hq' q (Nat.lt_of_lt_of_le h1 hS.1)).trans (hS.2.1 q h1 h2), hS.2.2⟩ (by rw [e1]; exact hce) hcv hcl T' rfl (Stand.forget X' (fun q h => (hL q h).elim))
    exact ⟨t2, st.trans a1, b1⟩
theorem wv_dN {r : UInt64} (S : CallFix p m c cc nL s args Ts own) (hM : vx_Met l y ws rm (va_Pc (.ref b :: As) (wk_BT D Y g wc)) (wxQd (.inl r)) (wxX (.inl r : UInt64 ⊕ String)) mc ms (fun _ => False)) (cw : CallW R s args own C index y bytes maxL ret ws rm mc ms n)
    (hK : va_K D vwCl (vTy Y) s) (hP : va_P D vwCl wc H) (hT : wk_T g A0 s s.heap) (hS : va_S A0 s.heap H locs) (hrv : ∃ cell : Cell, H[b]? = some cell ∧ cell.vm.isStatics = false ∧ s.vm.findClass C = some cell.cls) (hn : As.length = n) (hsize : ls.size = nL) (hst : st0 = As.reverse ++ .ref b :: rest) (hw : (rest.map fun v => v.category).sum ≤ 8) (hdg : decode cc pc = .ok (.invokevirtual index, 3)) (hf : cells + mc ≤ R.cells ∧ slots + ms ≤ R.slots)
    (kk : W p l e R s m args below meth c H locs (cells + mc) (slots + ms) Q (F0 m (pc + 3) ls (.double r :: rest))) : W p l e R s m args below meth c H locs cells slots Q (F0 m pc ls st0) := by
  intro T hT0 X
  rcases vx_runV (g := F0 m pc ls st0) (rest := rest) S hM cw ⟨wk_BTb, hrv, wk_BTp hK hP hT hS⟩ rfl hn hsize hst (lv_room hw) hdg hf T hT0 X with ⟨v, st₀, t, T', L, h0, X', hL, e1, e2, ⟨r2, he, ho, hh⟩, st⟩ | ⟨q, st₀, t, T', L, E, ce, h0, X', hL, e1, e2, ⟨he, -⟩, -⟩
  · cases ho
    cases he
    obtain ⟨t2, a1, b1⟩ := kk T' (by rw [e1, hh, h0]) (Stand.forget X' (fun q h => (hL q h).elim))
    exact ⟨t2, st t2 a1, b1⟩
  · exact nomatch he
theorem wv_dX {E0 : String} (S : CallFix p m c cc nL s args Ts own) (hM : vx_Met l y ws rm (va_Pc (.ref b :: As) (wk_BT D Y g wc)) (wxQd (.inr E0)) (wxX (.inr E0 : UInt64 ⊕ String)) mc ms (fun _ => False)) (cw : CallW R s args own C index y bytes maxL ret ws rm mc ms n)
    (hK : va_K D vwCl (vTy Y) s) (hP : va_P D vwCl wc H) (hT : wk_T g A0 s s.heap) (hS : va_S A0 s.heap H locs) (hrv : ∃ cell : Cell, H[b]? = some cell ∧ cell.vm.isStatics = false ∧ s.vm.findClass C = some cell.cls) (hn : As.length = n) (hsize : ls.size = nL) (hst : st0 = As.reverse ++ .ref b :: rest) (hw : (rest.map fun v => v.category).sum ≤ 8) (hdg : decode cc pc = .ok (.invokevirtual index, 3)) (hf : cells + mc ≤ R.cells ∧ slots + ms ≤ R.slots) (hPw : va_P D vwCl wall H)
    (kk : ∀ (H1 : Heap) (ce : Cell) (q9 : Nat), va_P D vwCl wall H1 → va_S A0 s.heap H1 locs → H1[q9]? = some ce → ce.vm = .none → s.vm.findClass E0 = some ce.cls → vx_W p l e R s m args below meth c H1 locs (cells + mc) (slots + ms) Q (F0 m pc ls rest) q9) : W p l e R s m args below meth c H locs cells slots Q (F0 m pc ls st0) := by
  intro T hT0 X
  rcases vx_runV (g := F0 m pc ls st0) (rest := rest) S hM cw ⟨wk_BTb, hrv, wk_BTp hK hP hT hS⟩ rfl hn hsize hst (lv_room hw) hdg hf T hT0 X with ⟨v, st₀, t, T', L, h0, X', hL, e1, e2, ⟨r2, he, -⟩, st⟩ | ⟨q, st₀, t, T', L, E, ce, h0, X', hL, e1, e2, ⟨he, hz, hq⟩, hce, hcv, hcl, st⟩
  · exact nomatch he
  · cases he
    rw [h0] at hz hq
    have hq' : ∀ q : Nat, q < H.size → T'.heap[q]? = H[q]? := fun q h => by rw [e1]; exact hq q h
    obtain ⟨t2, a1, b1⟩ := kk T'.heap ce q (hPw.kept (fun k q hk => hq' _ (vx_lt hPw hk))) ⟨by rw [e1]; exact Nat.le_trans hS.1 hz, fun q h1 h2 => (hq' q (Nat.lt_of_lt_of_le h1 hS.1)).trans (hS.2.1 q h1 h2), hS.2.2⟩ (by rw [e1]; exact hce) hcv hcl T' rfl (Stand.forget X' (fun q h => (hL q h).elim))
    exact ⟨t2, st.trans a1, b1⟩
theorem wz_iN {σ : Type} {r : Int32} {w1 : σ → va_W} {XC : String → State → State → Prop} (F : CallFix p m c cc nL s args Ts own) (hM : vx_Met l y ws rm (va_Pc (.ref b :: As) (wk_ET D Y g wc H.size)) (va_Qi (fun r2 (_ : σ) => r2 = r) (fun u t => wk_X D Y (w1 u) (va_A wc H.size) t) (va_A wc H.size)) XC mc ms (va_A wc H.size)) (hXC : ∀ E st t, XC E st t → False) (cw : CallW R s args own C index y bytes maxL ret ws rm mc ms n)
    (hK : va_K D vwCl (vTy Y) s) (hP : va_P D vwCl wall H) (hD : va_D A0 wall) (hS : va_S A0 s.heap H locs) (hA : ∀ q, s.heap.size ≤ q → A0 q) (hT : wk_T g A0 s s.heap) (isC isR : List Nat) (hC : isC.map (fun i => wall[i]?) = wc.map some) (hR : isR.map (fun i => wall[i]?) = wr.map some) (hnC : va_nd isC = true) (hnR : va_nd isR = true) (hdis : ∀ i ∈ isR, i ∉ isC)
    (hrv : ∃ cell : Cell, H[b]? = some cell ∧ cell.vm.isStatics = false ∧ s.vm.findClass C = some cell.cls) (hn : As.length = n) (hsize : ls.size = nL) (hst : st0 = As.reverse ++ .ref b :: rest) (hw : (rest.map fun v => v.category).sum ≤ 8) (hdg : decode cc pc = .ok (.invokevirtual index, 3)) (hf : cells + mc ≤ R.cells ∧ slots + ms ≤ R.slots)
    (kk : ∀ (u : σ) (H1 : Heap) (locs1 : List Loc), va_P D vwCl (wr ++ w1 u) H1 → va_D A0 (wr ++ w1 u) → va_S A0 s.heap H1 locs1 → W p l e R s m args below meth c H1 locs1 (cells + mc) (slots + ms) Q (F0 m (pc + 3) ls (.int r :: rest))) : W p l e R s m args below meth c H locs cells slots Q (F0 m pc ls st0) := by
  have hPc := hP.sub isC (wk_fm hC)
  have hDc := hD.sub isC hnC hC
  have hFc := va_free (wc := wc) hD hS hA isC hC
  intro T hT0 X
  rcases vx_runV (g := F0 m pc ls st0) (rest := rest) F hM cw ⟨wk_ETb, hrv, wk_ETp hK hPc hDc hT hS hFc⟩ rfl hn hsize hst (lv_room hw) hdg hf T hT0 X with ⟨v, st₀, t, T', L, h0, X', hL, e1, e2, ⟨⟨r2, u, hv, hp, hb⟩, hF⟩, st⟩ | ⟨q, st₀, t, T', L, E, ce, h0, X', hL, e1, e2, he, -⟩
  · cases hv
    subst hp
    obtain ⟨k1, k2, k3⟩ := vx_keep h0 e1 hS (fun q _ h => hFc q h) hFc hL hF
    obtain ⟨hP1, hK1, hD1⟩ := hb
    rw [← e1] at hP1
    obtain ⟨hP2, hD2⟩ := va_join (wr := wr) (w1 := w1 u) hP hD isC isR hC hR hnR hdis k2 hFc hP1 hD1
    obtain ⟨t2, a1, b1⟩ := kk u T'.heap (locs ++ L) hP2 hD2 k3 T' rfl X'
    exact ⟨t2, st t2 a1, b1⟩
  · exact (hXC _ _ _ he).elim
theorem wz_iX {E0 : String} {w1 : va_W} {Qc : Array Value → State → Outcome → State → Prop} (F : CallFix p m c cc nL s args Ts own) (hM : vx_Met l y ws rm (va_Pc (.ref b :: As) (wk_ET D Y g wc H.size)) Qc (fun E st t => (E = E0 ∧ wk_X D Y w1 (va_A wc H.size) t) ∧ va_F (va_A wc H.size) st t) mc ms (va_A wc H.size)) (hQ : ∀ a st o t, Qc a st o t → False) (cw : CallW R s args own C index y bytes maxL ret ws rm mc ms n)
    (hK : va_K D vwCl (vTy Y) s) (hP : va_P D vwCl wall H) (hD : va_D A0 wall) (hS : va_S A0 s.heap H locs) (hA : ∀ q, s.heap.size ≤ q → A0 q) (hT : wk_T g A0 s s.heap) (isC isR : List Nat) (hC : isC.map (fun i => wall[i]?) = wc.map some) (hR : isR.map (fun i => wall[i]?) = wr.map some) (hnC : va_nd isC = true) (hnR : va_nd isR = true) (hdis : ∀ i ∈ isR, i ∉ isC)
    (hrv : ∃ cell : Cell, H[b]? = some cell ∧ cell.vm.isStatics = false ∧ s.vm.findClass C = some cell.cls) (hn : As.length = n) (hsize : ls.size = nL) (hst : st0 = As.reverse ++ .ref b :: rest) (hw : (rest.map fun v => v.category).sum ≤ 8) (hdg : decode cc pc = .ok (.invokevirtual index, 3)) (hf : cells + mc ≤ R.cells ∧ slots + ms ≤ R.slots)
    (kk : ∀ (H1 : Heap) (locs1 : List Loc) (ce : Cell) (q9 : Nat), va_P D vwCl (wr ++ w1) H1 → va_D A0 (wr ++ w1) → va_S A0 s.heap H1 locs1 → H1[q9]? = some ce → ce.vm = .none → s.vm.findClass E0 = some ce.cls → vx_W p l e R s m args below meth c H1 locs1 (cells + mc) (slots + ms) Q (F0 m pc ls rest) q9) : W p l e R s m args below meth c H locs cells slots Q (F0 m pc ls st0) := by
  have hPc := hP.sub isC (wk_fm hC)
  have hDc := hD.sub isC hnC hC
  have hFc := va_free (wc := wc) hD hS hA isC hC
  intro T hT0 X
  rcases vx_runV (g := F0 m pc ls st0) (rest := rest) F hM cw ⟨wk_ETb, hrv, wk_ETp hK hPc hDc hT hS hFc⟩ rfl hn hsize hst (lv_room hw) hdg hf T hT0 X with ⟨v, st₀, t, T', L, h0, X', hL, e1, e2, he, st⟩ | ⟨q, st₀, t, T', L, E, ce, h0, X', hL, e1, e2, ⟨⟨hE, hP1, hK1, hD1⟩, hF⟩, hce, hcv, hcl, st⟩
  · exact (hQ _ _ _ _ he).elim
  · subst hE
    obtain ⟨k1, k2, k3⟩ := vx_keep h0 e1 hS (fun q _ h => hFc q h) hFc hL hF
    rw [← e1] at hP1
    obtain ⟨hP2, hD2⟩ := va_join (wr := wr) (w1 := w1) hP hD isC isR hC hR hnR hdis k2 hFc hP1 hD1
    obtain ⟨t2, a1, b1⟩ := kk T'.heap (locs ++ L) ce q hP2 hD2 k3 (by rw [e1]; exact hce) hcv hcl T' rfl X'
    exact ⟨t2, st.trans a1, b1⟩
theorem wz_iXg {E0 : String} {w1 : Nat → va_W} {Qc : Array Value → State → Outcome → State → Prop} (F : CallFix p m c cc nL s args Ts own) (hM : vx_Met l y ws rm (va_Pc (.ref b :: As) (wk_ET D Y g wc H.size)) Qc (fun E st t => (E = E0 ∧ ∃ u9 : Nat, wk_X D Y (w1 u9) (va_A wc H.size) t) ∧ va_F (va_A wc H.size) st t) mc ms (va_A wc H.size)) (hQ : ∀ a st o t, Qc a st o t → False) (cw : CallW R s args own C index y bytes maxL ret ws rm mc ms n)
    (hK : va_K D vwCl (vTy Y) s) (hP : va_P D vwCl wall H) (hD : va_D A0 wall) (hS : va_S A0 s.heap H locs) (hA : ∀ q, s.heap.size ≤ q → A0 q) (hT : wk_T g A0 s s.heap) (isC isR : List Nat) (hC : isC.map (fun i => wall[i]?) = wc.map some) (hR : isR.map (fun i => wall[i]?) = wr.map some) (hnC : va_nd isC = true) (hnR : va_nd isR = true) (hdis : ∀ i ∈ isR, i ∉ isC)
    (hrv : ∃ cell : Cell, H[b]? = some cell ∧ cell.vm.isStatics = false ∧ s.vm.findClass C = some cell.cls) (hn : As.length = n) (hsize : ls.size = nL) (hst : st0 = As.reverse ++ .ref b :: rest) (hw : (rest.map fun v => v.category).sum ≤ 8) (hdg : decode cc pc = .ok (.invokevirtual index, 3)) (hf : cells + mc ≤ R.cells ∧ slots + ms ≤ R.slots)
    (kk : ∀ (u9 : Nat) (H1 : Heap) (locs1 : List Loc) (ce : Cell) (q9 : Nat), va_P D vwCl (wr ++ (w1 u9)) H1 → va_D A0 (wr ++ (w1 u9)) → va_S A0 s.heap H1 locs1 → H1[q9]? = some ce → ce.vm = .none → s.vm.findClass E0 = some ce.cls → vx_W p l e R s m args below meth c H1 locs1 (cells + mc) (slots + ms) Q (F0 m pc ls rest) q9) : W p l e R s m args below meth c H locs cells slots Q (F0 m pc ls st0) := by
  have hPc := hP.sub isC (wk_fm hC)
  have hDc := hD.sub isC hnC hC
  have hFc := va_free (wc := wc) hD hS hA isC hC
  intro T hT0 X
  rcases vx_runV (g := F0 m pc ls st0) (rest := rest) F hM cw ⟨wk_ETb, hrv, wk_ETp hK hPc hDc hT hS hFc⟩ rfl hn hsize hst (lv_room hw) hdg hf T hT0 X with ⟨v, st₀, t, T', L, h0, X', hL, e1, e2, he, st⟩ | ⟨q, st₀, t, T', L, E, ce, h0, X', hL, e1, e2, ⟨⟨hE, u9, hP1, hK1, hD1⟩, hF⟩, hce, hcv, hcl, st⟩
  · exact (hQ _ _ _ _ he).elim
  · subst hE
    obtain ⟨k1, k2, k3⟩ := vx_keep h0 e1 hS (fun q _ h => hFc q h) hFc hL hF
    rw [← e1] at hP1
    obtain ⟨hP2, hD2⟩ := va_join (wr := wr) (w1 := (w1 u9)) hP hD isC isR hC hR hnR hdis k2 hFc hP1 hD1
    obtain ⟨t2, a1, b1⟩ := kk u9 T'.heap (locs ++ L) ce q hP2 hD2 k3 (by rw [e1]; exact hce) hcv hcl T' rfl X'
    exact ⟨t2, st.trans a1, b1⟩
theorem wk_last (hexec : p.tables.exec = Jvm.exec) (hb : c.code = cc) {tys : List (ClassId × FieldType)} {a : Nat} {H0 : Heap} (hK : va_K D vwCl tys s) (hP : va_P D vwCl wc H) (hD : va_D A0 wc) (hS : va_S A0 H0 H locs) (q0 t0 : Nat) {cA : ClassId} {n k : Nat} {f : Nat → Int64} {i : Int32} {x : Int64} (ha : wc[q0]? = some (a, .inl (cA, n, .inr (.inl f)))) (ht : tys[t0]? = some (cA, .long)) (hin : vp_in i n) (hk : i.toNatClampNeg = k) (hdg : decode cc pc = .ok (.lastore, 1))
    (kk : ∀ (f1 : Nat → Int64) (H1 : Heap) (locs1 : List Loc), f1 = vp_updL f k x → va_P D vwCl (wc.set q0 (a, .inl (cA, n, .inr (.inl f1)))) H1 → va_D A0 (wc.set q0 (a, .inl (cA, n, .inr (.inl f1)))) → va_S A0 H0 H1 locs1 → W p l e R s m args below meth c H1 locs1 cells slots Q (F0 m (pc + 1) ls rest)) : W p l e R s m args below meth c H locs cells slots Q (F0 m pc ls (.long x :: .int i :: .ref a :: rest)) := by
  subst hk
  exact va_last hexec hb hK hP hD hS q0 t0 ha ht hin hdg (fun H1 locs1 h1 h2 h3 => kk _ H1 locs1 rfl h1 h2 h3)
theorem wk_dast (hexec : p.tables.exec = Jvm.exec) (hb : c.code = cc) {tys : List (ClassId × FieldType)} {a : Nat} {H0 : Heap} (hK : va_K D vwCl tys s) (hP : va_P D vwCl wc H) (hD : va_D A0 wc) (hS : va_S A0 H0 H locs) (q0 t0 : Nat) {cA : ClassId} {n k : Nat} {f : Nat → UInt64} {i : Int32} {x : UInt64} (ha : wc[q0]? = some (a, .inl (cA, n, .inr (.inr (.inr (.inl f)))))) (ht : tys[t0]? = some (cA, .double)) (hin : vp_in i n) (hk : i.toNatClampNeg = k) (hdg : decode cc pc = .ok (.dastore, 1))
    (kk : ∀ (f1 : Nat → UInt64) (H1 : Heap) (locs1 : List Loc), f1 = vf_upd f k x → va_P D vwCl (wc.set q0 (a, .inl (cA, n, .inr (.inr (.inr (.inl f1)))))) H1 → va_D A0 (wc.set q0 (a, .inl (cA, n, .inr (.inr (.inr (.inl f1)))))) → va_S A0 H0 H1 locs1 → W p l e R s m args below meth c H1 locs1 cells slots Q (F0 m (pc + 1) ls rest)) : W p l e R s m args below meth c H locs cells slots Q (F0 m pc ls (.double x :: .int i :: .ref a :: rest)) := by
  subst hk
  exact va_dast hexec hb hK hP hD hS q0 t0 ha ht hin hdg (fun H1 locs1 h1 h2 h3 => kk _ H1 locs1 rfl h1 h2 h3)
theorem wk_evl {w1 : va_W} {r : Int64} (S : CallFix p m c cc nL s args Ts own) (hM : Met l y ws rm (va_Pc (.ref b :: As) (wk_E D Y wc H.size)) (va_Ql (fun r2 (_ : Unit) => r2 = r) (fun _ t => wk_X D Y w1 (va_A wc H.size) t) (va_A wc H.size)) mc ms (va_A wc H.size)) (cw : CallW R s args own C index y bytes maxL ret ws rm mc ms n)
    (hK : va_K D vwCl (vTy Y) s) (hP : va_P D vwCl wall H) (hD : va_D A0 wall) (hS : va_S A0 s.heap H locs) (hA : ∀ q, s.heap.size ≤ q → A0 q) (isC isR : List Nat) (hC : isC.map (fun i => wall[i]?) = wc.map some) (hR : isR.map (fun i => wall[i]?) = wr.map some) (hnC : va_nd isC = true) (hnR : va_nd isR = true) (hdis : ∀ i ∈ isR, i ∉ isC)
    (hrv : ∃ cell : Cell, H[b]? = some cell ∧ cell.vm.isStatics = false ∧ s.vm.findClass C = some cell.cls) (hn : As.length = n) (hsize : ls.size = nL) (hst : st0 = As.reverse ++ .ref b :: rest) (hw : (rest.map fun v => v.category).sum ≤ 8) (hdg : decode cc pc = .ok (.invokevirtual index, 3)) (hf : cells + mc ≤ R.cells ∧ slots + ms ≤ R.slots)
    (kk : ∀ (H1 : Heap) (locs1 : List Loc), va_P D vwCl (wr ++ w1) H1 → va_D A0 (wr ++ w1) → va_S A0 s.heap H1 locs1 → W p l e R s m args below meth c H1 locs1 (cells + mc) (slots + ms) Q (F0 m (pc + 3) ls (.long r :: rest))) : W p l e R s m args below meth c H locs cells slots Q (F0 m pc ls st0) := by
  have hPc := hP.sub isC (wk_fm hC)
  have hDc := hD.sub isC hnC hC
  have hFc := va_free (wc := wc) hD hS hA isC hC
  refine va_calll (va_runV (rest := rest) S hM cw ⟨wk_Eb, hrv, wk_Ep hK hPc hDc⟩ rfl hn hsize hst (lv_room hw) hdg hf) hS (fun q _ h => hFc q h) hFc (fun r2 u t H1 locs1 ht hvm hw2 hB hz1 hk1 hS1 => ?_)
  subst hw2
  obtain ⟨hP1, hK1, hD1⟩ := hB
  rw [ht] at hP1
  obtain ⟨hP2, hD2⟩ := va_join (wr := wr) (w1 := w1) hP hD isC isR hC hR hnR hdis hk1 hFc hP1 hD1
  exact kk H1 locs1 hP2 hD2 hS1
theorem wk_evf {w1 : va_W} {r : UInt32} (S : CallFix p m c cc nL s args Ts own) (hM : Met l y ws rm (va_Pc (.ref b :: As) (wk_E D Y wc H.size)) (va_Qf (fun r2 (_ : Unit) => r2 = r) (fun _ t => wk_X D Y w1 (va_A wc H.size) t) (va_A wc H.size)) mc ms (va_A wc H.size)) (cw : CallW R s args own C index y bytes maxL ret ws rm mc ms n)
    (hK : va_K D vwCl (vTy Y) s) (hP : va_P D vwCl wall H) (hD : va_D A0 wall) (hS : va_S A0 s.heap H locs) (hA : ∀ q, s.heap.size ≤ q → A0 q) (isC isR : List Nat) (hC : isC.map (fun i => wall[i]?) = wc.map some) (hR : isR.map (fun i => wall[i]?) = wr.map some) (hnC : va_nd isC = true) (hnR : va_nd isR = true) (hdis : ∀ i ∈ isR, i ∉ isC)
    (hrv : ∃ cell : Cell, H[b]? = some cell ∧ cell.vm.isStatics = false ∧ s.vm.findClass C = some cell.cls) (hn : As.length = n) (hsize : ls.size = nL) (hst : st0 = As.reverse ++ .ref b :: rest) (hw : (rest.map fun v => v.category).sum ≤ 8) (hdg : decode cc pc = .ok (.invokevirtual index, 3)) (hf : cells + mc ≤ R.cells ∧ slots + ms ≤ R.slots)
    (kk : ∀ (H1 : Heap) (locs1 : List Loc), va_P D vwCl (wr ++ w1) H1 → va_D A0 (wr ++ w1) → va_S A0 s.heap H1 locs1 → W p l e R s m args below meth c H1 locs1 (cells + mc) (slots + ms) Q (F0 m (pc + 3) ls (.float r :: rest))) : W p l e R s m args below meth c H locs cells slots Q (F0 m pc ls st0) := by
  have hPc := hP.sub isC (wk_fm hC)
  have hDc := hD.sub isC hnC hC
  have hFc := va_free (wc := wc) hD hS hA isC hC
  refine va_callf (va_runV (rest := rest) S hM cw ⟨wk_Eb, hrv, wk_Ep hK hPc hDc⟩ rfl hn hsize hst (lv_room hw) hdg hf) hS (fun q _ h => hFc q h) hFc (fun r2 u t H1 locs1 ht hvm hw2 hB hz1 hk1 hS1 => ?_)
  subst hw2
  obtain ⟨hP1, hK1, hD1⟩ := hB
  rw [ht] at hP1
  obtain ⟨hP2, hD2⟩ := va_join (wr := wr) (w1 := w1) hP hD isC isR hC hR hnR hdis hk1 hFc hP1 hD1
  exact kk H1 locs1 hP2 hD2 hS1
theorem wk_evd {w1 : va_W} {r : UInt64} (S : CallFix p m c cc nL s args Ts own) (hM : Met l y ws rm (va_Pc (.ref b :: As) (wk_E D Y wc H.size)) (va_Qd (fun r2 (_ : Unit) => r2 = r) (fun _ t => wk_X D Y w1 (va_A wc H.size) t) (va_A wc H.size)) mc ms (va_A wc H.size)) (cw : CallW R s args own C index y bytes maxL ret ws rm mc ms n)
    (hK : va_K D vwCl (vTy Y) s) (hP : va_P D vwCl wall H) (hD : va_D A0 wall) (hS : va_S A0 s.heap H locs) (hA : ∀ q, s.heap.size ≤ q → A0 q) (isC isR : List Nat) (hC : isC.map (fun i => wall[i]?) = wc.map some) (hR : isR.map (fun i => wall[i]?) = wr.map some) (hnC : va_nd isC = true) (hnR : va_nd isR = true) (hdis : ∀ i ∈ isR, i ∉ isC)
    (hrv : ∃ cell : Cell, H[b]? = some cell ∧ cell.vm.isStatics = false ∧ s.vm.findClass C = some cell.cls) (hn : As.length = n) (hsize : ls.size = nL) (hst : st0 = As.reverse ++ .ref b :: rest) (hw : (rest.map fun v => v.category).sum ≤ 8) (hdg : decode cc pc = .ok (.invokevirtual index, 3)) (hf : cells + mc ≤ R.cells ∧ slots + ms ≤ R.slots)
    (kk : ∀ (H1 : Heap) (locs1 : List Loc), va_P D vwCl (wr ++ w1) H1 → va_D A0 (wr ++ w1) → va_S A0 s.heap H1 locs1 → W p l e R s m args below meth c H1 locs1 (cells + mc) (slots + ms) Q (F0 m (pc + 3) ls (.double r :: rest))) : W p l e R s m args below meth c H locs cells slots Q (F0 m pc ls st0) := by
  have hPc := hP.sub isC (wk_fm hC)
  have hDc := hD.sub isC hnC hC
  have hFc := va_free (wc := wc) hD hS hA isC hC
  refine va_calld (va_runV (rest := rest) S hM cw ⟨wk_Eb, hrv, wk_Ep hK hPc hDc⟩ rfl hn hsize hst (lv_room hw) hdg hf) hS (fun q _ h => hFc q h) hFc (fun r2 u t H1 locs1 ht hvm hw2 hB hz1 hk1 hS1 => ?_)
  subst hw2
  obtain ⟨hP1, hK1, hD1⟩ := hB
  rw [ht] at hP1
  obtain ⟨hP2, hD2⟩ := va_join (wr := wr) (w1 := w1) hP hD isC isR hC hR hnR hdis hk1 hFc hP1 hD1
  exact kk H1 locs1 hP2 hD2 hS1
theorem wk_lald {a : Nat} (hexec : p.tables.exec = Jvm.exec) (hb : c.code = cc) (hK : va_K D vwCl (vTy Y) s) (hP : va_P D vwCl wc H) (q0 t0 : Nat) {cA : ClassId} {n k : Nat} {f : Nat → Int64} (ha : wc[q0]? = some (a, .inl (cA, n, .inr (.inl f)))) (ht : (vTy Y)[t0]? = some (cA, .long)) {i : Int32} (hin : vp_in i n) (hk : i.toNatClampNeg = k) (hdg : decode cc pc = .ok (.laload, 1))
    (kk : W p l e R s m args below meth c H locs cells slots Q (F0 m (pc + 1) ls (.long (f k) :: rest))) : W p l e R s m args below meth c H locs cells slots Q (F0 m pc ls (.int i :: .ref a :: rest)) := by
  subst hk
  exact va_lald hexec hb hK hP q0 t0 ha ht hin hdg kk
theorem wk_dald {a : Nat} (hexec : p.tables.exec = Jvm.exec) (hb : c.code = cc) (hK : va_K D vwCl (vTy Y) s) (hP : va_P D vwCl wc H) (q0 t0 : Nat) {cA : ClassId} {n k : Nat} {f : Nat → UInt64} (ha : wc[q0]? = some (a, .inl (cA, n, .inr (.inr (.inr (.inl f)))))) (ht : (vTy Y)[t0]? = some (cA, .double)) {i : Int32} (hin : vp_in i n) (hk : i.toNatClampNeg = k) (hdg : decode cc pc = .ok (.daload, 1))
    (kk : W p l e R s m args below meth c H locs cells slots Q (F0 m (pc + 1) ls (.double (f k) :: rest))) : W p l e R s m args below meth c H locs cells slots Q (F0 m pc ls (.int i :: .ref a :: rest)) := by
  subst hk
  exact va_dald hexec hb hK hP q0 t0 ha ht hin hdg kk
theorem lw_lcmpE (hexec : p.tables.exec = Jvm.exec) (hb : c.code = cc) {x y : Int64} (hxy : x = y) (hdg : decode cc pc = .ok (.lcmp, 1)) (k : W p l e R s m args below meth c H locs cells slots Q (F0 m (pc + 1) ls (.int 0 :: rest))) : W p l e R s m args below meth c H locs cells slots Q (F0 m pc ls (.long y :: .long x :: rest)) := by
  subst hxy
  intro T hT X
  obtain ⟨t, a, b⟩ := k T hT X
  refine ⟨t, ?_, b⟩
  jvm_step X.here [X.here.top, hexec, hb, hdg]
  exact a
end WLAW
