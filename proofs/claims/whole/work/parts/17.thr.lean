/-! methods that answer or throw -/
def wkx {α β : Type} (o : Option (α ⊕ String)) (k : α → Option (β ⊕ String)) : Option (β ⊕ String) := match o with | none => none | some (.inr E) => some (.inr E) | some (.inl a) => k a
theorem wkx_s {α β : Type} {o : Option (α ⊕ String)} {k : α → Option (β ⊕ String)} {r : β ⊕ String} (h : wkx o k = some r) : (∃ a, o = some (.inl a) ∧ k a = some r) ∨ (∃ E, o = some (.inr E) ∧ r = .inr E) := by
  cases o with
  | none => cases h
  | some a =>
    cases a with
    | inl a => exact Or.inl ⟨a, rfl, h⟩
    | inr E => exact Or.inr ⟨E, rfl, (Option.some.inj h).symm⟩
abbrev wxQi (out : Int32 ⊕ String) : Array Value → State → Outcome → State → Prop := fun _ st o t => ∃ r : Int32, out = .inl r ∧ o = .returned (some (.int r)) ∧ t.heap = st.heap
abbrev wxQl (out : Int64 ⊕ String) : Array Value → State → Outcome → State → Prop := fun _ st o t => ∃ r : Int64, out = .inl r ∧ o = .returned (some (.long r)) ∧ t.heap = st.heap
abbrev wxQf (out : UInt32 ⊕ String) : Array Value → State → Outcome → State → Prop := fun _ st o t => ∃ r : UInt32, out = .inl r ∧ o = .returned (some (.float r)) ∧ t.heap = st.heap
abbrev wxQd (out : UInt64 ⊕ String) : Array Value → State → Outcome → State → Prop := fun _ st o t => ∃ r : UInt64, out = .inl r ∧ o = .returned (some (.double r)) ∧ t.heap = st.heap
abbrev wxQv (out : Unit ⊕ String) : Array Value → State → Outcome → State → Prop := fun _ st o t => out = .inl () ∧ o = .returned none ∧ t.heap = st.heap
abbrev wxX {α : Type} (out : α ⊕ String) : String → State → State → Prop := fun E st t => out = .inr E ∧ st.heap.size ≤ t.heap.size ∧ ∀ q : Nat, q < st.heap.size → t.heap[q]? = st.heap[q]?
section WKX
variable {p : Program} {l : Launch} {e : Env} {R : Room} {s : State} {m : MethodId} {args : Array Value} {below : List Frame} {meth : Method} {c : Code} {H : Heap} {locs : List Loc} {cells slots : Nat} {Q : State → Prop}
variable {pc : Nat} {ls : Array Slot} {rest st0 : List Value} {D : va_G} {Y : Nat → ClassId} {cc bytes : ByteArray} {own C : String} {index maxL nL mc ms n : Nat} {y : MethodName} {ret : Option FieldType} {ws Ts : List Cond} {rm : Room} {As : List Value} {b : Addr} {wc : va_W} {A0 : Nat → Prop} {g : Nat → Nat → Nat}
theorem wx_vvN (S : CallFix p m c cc nL s args Ts own) (hM : vx_Met l y ws rm (va_Pc (.ref b :: As) (wk_BT D Y g wc)) (wxQv (.inl ())) (wxX (.inl () : Unit ⊕ String)) mc ms (fun _ => False)) (cw : CallW R s args own C index y bytes maxL ret ws rm mc ms n)
    (hK : va_K D vwCl (vTy Y) s) (hP : va_P D vwCl wc H) (hT : wk_T g A0 s s.heap) (hS : va_S A0 s.heap H locs) (hrv : ∃ cell : Cell, H[b]? = some cell ∧ cell.vm.isStatics = false ∧ s.vm.findClass C = some cell.cls) (hn : As.length = n) (hsize : ls.size = nL) (hst : st0 = As.reverse ++ .ref b :: rest) (hw : (rest.map fun v => v.category).sum ≤ 8) (hdg : decode cc pc = .ok (.invokevirtual index, 3)) (hf : cells + mc ≤ R.cells ∧ slots + ms ≤ R.slots)
    (kk : W p l e R s m args below meth c H locs (cells + mc) (slots + ms) Q (F0 m (pc + 3) ls rest)) : W p l e R s m args below meth c H locs cells slots Q (F0 m pc ls st0) := by
  intro T hT0 X
  rcases vx_runV (g := F0 m pc ls st0) (rest := rest) S hM cw ⟨wk_BTb, hrv, wk_BTp hK hP hT hS⟩ rfl hn hsize hst (lv_room hw) hdg hf T hT0 X with ⟨v, st₀, t, T', L, h0, X', hL, e1, e2, ⟨-, ho, hh⟩, st⟩ | ⟨q, st₀, t, T', L, E, ce, h0, X', hL, e1, e2, ⟨he, -⟩, -⟩
  · cases ho
    obtain ⟨t2, a1, b1⟩ := kk T' (by rw [e1, hh, h0]) (Stand.forget X' (fun q h => (hL q h).elim))
    exact ⟨t2, st t2 a1, b1⟩
  · exact nomatch he
theorem wx_vvX {E0 : String} (S : CallFix p m c cc nL s args Ts own) (hM : vx_Met l y ws rm (va_Pc (.ref b :: As) (wk_BT D Y g wc)) (wxQv (.inr E0)) (wxX (.inr E0 : Unit ⊕ String)) mc ms (fun _ => False)) (cw : CallW R s args own C index y bytes maxL ret ws rm mc ms n)
    (hK : va_K D vwCl (vTy Y) s) (hP : va_P D vwCl wc H) (hT : wk_T g A0 s s.heap) (hS : va_S A0 s.heap H locs) (hrv : ∃ cell : Cell, H[b]? = some cell ∧ cell.vm.isStatics = false ∧ s.vm.findClass C = some cell.cls) (hn : As.length = n) (hsize : ls.size = nL) (hst : st0 = As.reverse ++ .ref b :: rest) (hw : (rest.map fun v => v.category).sum ≤ 8) (hdg : decode cc pc = .ok (.invokevirtual index, 3)) (hf : cells + mc ≤ R.cells ∧ slots + ms ≤ R.slots)
    (kk : ∀ (H1 : Heap) (ce : Cell) (q9 : Nat), H.size ≤ H1.size → (∀ q : Nat, q < H.size → H1[q]? = H[q]?) → H1[q9]? = some ce → ce.vm = .none → s.vm.findClass E0 = some ce.cls → vx_W p l e R s m args below meth c H1 locs (cells + mc) (slots + ms) Q (F0 m pc ls rest) q9) : W p l e R s m args below meth c H locs cells slots Q (F0 m pc ls st0) := by
  intro T hT0 X
  rcases vx_runV (g := F0 m pc ls st0) (rest := rest) S hM cw ⟨wk_BTb, hrv, wk_BTp hK hP hT hS⟩ rfl hn hsize hst (lv_room hw) hdg hf T hT0 X with ⟨v, st₀, t, T', L, h0, X', hL, e1, e2, ⟨he, -⟩, st⟩ | ⟨q, st₀, t, T', L, E, ce, h0, X', hL, e1, e2, ⟨he, hz, hq⟩, hce, hcv, hcl, st⟩
  · exact nomatch he
  · cases he
    rw [h0] at hz hq
    obtain ⟨t2, a1, b1⟩ := kk T'.heap ce q (by rw [e1]; exact hz) (fun q h => by rw [e1]; exact hq q h) (by rw [e1]; exact hce) hcv hcl T' rfl (Stand.forget X' (fun q h => (hL q h).elim))
    exact ⟨t2, st.trans a1, b1⟩
theorem wx_siN {r : Int32} (S : CallFix p m c cc nL s args Ts own) (hM : vx_Met l y ws rm (va_Pc As (wk_BT D Y g wc)) (wxQi (.inl r)) (wxX (.inl r : Int32 ⊕ String)) mc ms (fun _ => False)) (cw : CallB R s args own index y bytes maxL ret ws rm mc ms n ∧ (Cond.static y).before args s = true)
    (hK : va_K D vwCl (vTy Y) s) (hP : va_P D vwCl wc H) (hT : wk_T g A0 s s.heap) (hS : va_S A0 s.heap H locs) (hn : As.length = n) (hsize : ls.size = nL) (hst : st0 = As.reverse ++ rest) (hw : (rest.map fun v => v.category).sum ≤ 8) (hdg : decode cc pc = .ok (.invokestatic index, 3)) (hf : cells + mc ≤ R.cells ∧ slots + ms ≤ R.slots)
    (kk : W p l e R s m args below meth c H locs (cells + mc) (slots + ms) Q (F0 m (pc + 3) ls (.int r :: rest))) : W p l e R s m args below meth c H locs cells slots Q (F0 m pc ls st0) := by
  intro T hT0 X
  rcases vx_runS (g := F0 m pc ls st0) (rest := rest) S hM cw ⟨wk_BTb, wk_BTp hK hP hT hS⟩ rfl hn hsize hst (lv_room hw) hdg hf T hT0 X with ⟨v, st₀, t, T', L, h0, X', hL, e1, e2, ⟨r2, he, ho, hh⟩, st⟩ | ⟨q, st₀, t, T', L, E, ce, h0, X', hL, e1, e2, ⟨he, -⟩, -⟩
  · cases ho
    cases he
    obtain ⟨t2, a1, b1⟩ := kk T' (by rw [e1, hh, h0]) (Stand.forget X' (fun q h => (hL q h).elim))
    exact ⟨t2, st t2 a1, b1⟩
  · exact nomatch he
theorem wx_siX {E0 : String} (S : CallFix p m c cc nL s args Ts own) (hM : vx_Met l y ws rm (va_Pc As (wk_BT D Y g wc)) (wxQi (.inr E0)) (wxX (.inr E0 : Int32 ⊕ String)) mc ms (fun _ => False)) (cw : CallB R s args own index y bytes maxL ret ws rm mc ms n ∧ (Cond.static y).before args s = true)
    (hK : va_K D vwCl (vTy Y) s) (hP : va_P D vwCl wc H) (hT : wk_T g A0 s s.heap) (hS : va_S A0 s.heap H locs) (hn : As.length = n) (hsize : ls.size = nL) (hst : st0 = As.reverse ++ rest) (hw : (rest.map fun v => v.category).sum ≤ 8) (hdg : decode cc pc = .ok (.invokestatic index, 3)) (hf : cells + mc ≤ R.cells ∧ slots + ms ≤ R.slots)
    (kk : ∀ (H1 : Heap) (ce : Cell) (q9 : Nat), H.size ≤ H1.size → (∀ q : Nat, q < H.size → H1[q]? = H[q]?) → H1[q9]? = some ce → ce.vm = .none → s.vm.findClass E0 = some ce.cls → vx_W p l e R s m args below meth c H1 locs (cells + mc) (slots + ms) Q (F0 m pc ls rest) q9) : W p l e R s m args below meth c H locs cells slots Q (F0 m pc ls st0) := by
  intro T hT0 X
  rcases vx_runS (g := F0 m pc ls st0) (rest := rest) S hM cw ⟨wk_BTb, wk_BTp hK hP hT hS⟩ rfl hn hsize hst (lv_room hw) hdg hf T hT0 X with ⟨v, st₀, t, T', L, h0, X', hL, e1, e2, ⟨r2, he, -⟩, st⟩ | ⟨q, st₀, t, T', L, E, ce, h0, X', hL, e1, e2, ⟨he, hz, hq⟩, hce, hcv, hcl, st⟩
  · exact nomatch he
  · cases he
    rw [h0] at hz hq
    obtain ⟨t2, a1, b1⟩ := kk T'.heap ce q (by rw [e1]; exact hz) (fun q h => by rw [e1]; exact hq q h) (by rw [e1]; exact hce) hcv hcl T' rfl (Stand.forget X' (fun q h => (hL q h).elim))
    exact ⟨t2, st.trans a1, b1⟩
theorem wx_svN (S : CallFix p m c cc nL s args Ts own) (hM : vx_Met l y ws rm (va_Pc As (wk_BT D Y g wc)) (wxQv (.inl ())) (wxX (.inl () : Unit ⊕ String)) mc ms (fun _ => False)) (cw : CallB R s args own index y bytes maxL ret ws rm mc ms n ∧ (Cond.static y).before args s = true)
    (hK : va_K D vwCl (vTy Y) s) (hP : va_P D vwCl wc H) (hT : wk_T g A0 s s.heap) (hS : va_S A0 s.heap H locs) (hn : As.length = n) (hsize : ls.size = nL) (hst : st0 = As.reverse ++ rest) (hw : (rest.map fun v => v.category).sum ≤ 8) (hdg : decode cc pc = .ok (.invokestatic index, 3)) (hf : cells + mc ≤ R.cells ∧ slots + ms ≤ R.slots)
    (kk : W p l e R s m args below meth c H locs (cells + mc) (slots + ms) Q (F0 m (pc + 3) ls rest)) : W p l e R s m args below meth c H locs cells slots Q (F0 m pc ls st0) := by
  intro T hT0 X
  rcases vx_runS (g := F0 m pc ls st0) (rest := rest) S hM cw ⟨wk_BTb, wk_BTp hK hP hT hS⟩ rfl hn hsize hst (lv_room hw) hdg hf T hT0 X with ⟨v, st₀, t, T', L, h0, X', hL, e1, e2, ⟨-, ho, hh⟩, st⟩ | ⟨q, st₀, t, T', L, E, ce, h0, X', hL, e1, e2, ⟨he, -⟩, -⟩
  · cases ho
    obtain ⟨t2, a1, b1⟩ := kk T' (by rw [e1, hh, h0]) (Stand.forget X' (fun q h => (hL q h).elim))
    exact ⟨t2, st t2 a1, b1⟩
  · exact nomatch he
theorem wx_svX {E0 : String} (S : CallFix p m c cc nL s args Ts own) (hM : vx_Met l y ws rm (va_Pc As (wk_BT D Y g wc)) (wxQv (.inr E0)) (wxX (.inr E0 : Unit ⊕ String)) mc ms (fun _ => False)) (cw : CallB R s args own index y bytes maxL ret ws rm mc ms n ∧ (Cond.static y).before args s = true)
    (hK : va_K D vwCl (vTy Y) s) (hP : va_P D vwCl wc H) (hT : wk_T g A0 s s.heap) (hS : va_S A0 s.heap H locs) (hn : As.length = n) (hsize : ls.size = nL) (hst : st0 = As.reverse ++ rest) (hw : (rest.map fun v => v.category).sum ≤ 8) (hdg : decode cc pc = .ok (.invokestatic index, 3)) (hf : cells + mc ≤ R.cells ∧ slots + ms ≤ R.slots)
    (kk : ∀ (H1 : Heap) (ce : Cell) (q9 : Nat), H.size ≤ H1.size → (∀ q : Nat, q < H.size → H1[q]? = H[q]?) → H1[q9]? = some ce → ce.vm = .none → s.vm.findClass E0 = some ce.cls → vx_W p l e R s m args below meth c H1 locs (cells + mc) (slots + ms) Q (F0 m pc ls rest) q9) : W p l e R s m args below meth c H locs cells slots Q (F0 m pc ls st0) := by
  intro T hT0 X
  rcases vx_runS (g := F0 m pc ls st0) (rest := rest) S hM cw ⟨wk_BTb, wk_BTp hK hP hT hS⟩ rfl hn hsize hst (lv_room hw) hdg hf T hT0 X with ⟨v, st₀, t, T', L, h0, X', hL, e1, e2, ⟨he, -⟩, st⟩ | ⟨q, st₀, t, T', L, E, ce, h0, X', hL, e1, e2, ⟨he, hz, hq⟩, hce, hcv, hcl, st⟩
  · exact nomatch he
  · cases he
    rw [h0] at hz hq
    obtain ⟨t2, a1, b1⟩ := kk T'.heap ce q (by rw [e1]; exact hz) (fun q h => by rw [e1]; exact hq q h) (by rw [e1]; exact hce) hcv hcl T' rfl (Stand.forget X' (fun q h => (hL q h).elim))
    exact ⟨t2, st.trans a1, b1⟩
end WKX
theorem wk_T.thr {g : Nat → Nat → Nat} {A : Nat → Prop} {U : State} {H : Heap} (h : wk_T g A U H) : vx_Zq Bundle.tN "UNASSIGNED_STACK" Bundle.steD A U H ∧ vx_Zq Bundle.tN "SUPPRESSED_SENTINEL" Bundle.listD A U H ∧ (∀ i : Nat, i < 19 → vk_R "CircusLedger" (sMsg.getD i (0, "")).1 (sMsg.getD i (0, "")).2 (g 5 i) U) ∧ (∀ i : Nat, i < 6 → va_Nw (.castable (sExc.getD i "") (sExc.getD i "")) U) ∧ (∀ i : Nat, i < 3 → va_Nw (.declares ⟨sThr.getD i "", "<init>", "(Ljava/lang/String;)V"⟩) U) ∧ va_Zq "jdk/internal/util/Preconditions" "SIOOBE_FORMATTER" "Ljava/util/function/BiFunction;" A U H := by
  obtain ⟨h1, h2, h3, h4, h5, h6, h7, h8, h9, h10, h11, h12, h13, h14, h15, h16, h17, h18, h19, h20⟩ := h
  exact ⟨h14, h15, h16, h18, h20, h19⟩
/-- the words of a throw that no list pays for -/
abbrev wk_tb (X : String) : List Cond := [Cond.castable X X, Cond.declares ⟨"java/lang/RuntimeException", "<init>", "(Ljava/lang/String;)V"⟩, Cond.declares ⟨"java/lang/Exception", "<init>", "(Ljava/lang/String;)V"⟩, Cond.declares ⟨"java/lang/Throwable", "<init>", "(Ljava/lang/String;)V"⟩]
theorem wk_tbp {g : Nat → Nat → Nat} {A : Nat → Prop} {s : State} {H : Heap} {args : Array Value} {X : String} (h : wk_T g A s H) (i : Nat) (hi : i < 6) (hX : sExc.getD i "" = X) : ∀ w ∈ wk_tb X, w.before args s = true := by
  subst hX
  exact vx_c (va_Nw.use rfl (h.thr.2.2.2.1 i hi)) (vx_c (va_Nw.use rfl (h.thr.2.2.2.2.1 0 (by decide))) (vx_c (va_Nw.use rfl (h.thr.2.2.2.2.1 1 (by decide))) (vx_c (va_Nw.use rfl (h.thr.2.2.2.2.1 2 (by decide))) vx_n)))
