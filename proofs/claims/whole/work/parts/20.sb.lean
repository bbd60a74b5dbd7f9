/-! calls whose answer comes with an address; byte rows -/
section WKG
variable {p : Program} {l : Launch} {e : Env} {R : Room} {s : State} {m : MethodId} {args : Array Value} {below : List Frame} {meth : Method} {c : Code} {H : Heap} {locs : List Loc} {cells slots : Nat} {Q : State → Prop}
variable {pc : Nat} {ls : Array Slot} {rest st0 : List Value} {D : va_G} {Y : Nat → ClassId} {cc bytes : ByteArray} {own C : String} {index maxL nL mc ms n : Nat} {y : MethodName} {ret : Option FieldType} {ws Ts : List Cond} {rm : Room} {As : List Value} {b : Addr} {wc wr wall : va_W} {A0 : Nat → Prop} {a9 : Array Value}
theorem wg_pi {r : Int32} (hr : CallRun p l e R s m args below meth c H locs cells slots 0 0 (F0 m pc ls st0) rest (vp_Si (fun r2 => r2 = r) a9) (fun _ => False))
    (kk : W p l e R s m args below meth c H locs cells slots Q (F0 m (pc + 3) ls (.int r :: rest))) : W p l e R s m args below meth c H locs cells slots Q (F0 m pc ls st0) := vp_callSi hr (fun r2 e2 => by subst e2; exact kk)
theorem wg_pv (hr : CallRun p l e R s m args below meth c H locs cells slots 0 0 (F0 m pc ls st0) rest (va_Sv (fun _ => True) a9) (fun _ => False))
    (kk : W p l e R s m args below meth c H locs cells slots Q (F0 m (pc + 3) ls rest)) : W p l e R s m args below meth c H locs cells slots Q (F0 m pc ls st0) := va_csv hr (fun _ => kk)
theorem wg_ev {σ : Type} {w1 : σ → va_W} (hr : va_Run p l e R s m args below meth c H locs cells slots mc ms (F0 m pc ls st0) rest (va_Qv (fun (_ : σ) => True) (fun u t => wk_X D Y (w1 u) (va_A wc H.size) t) (va_A wc H.size) a9) (va_A wc H.size))
    (hP : va_P D vwCl wall H) (hD : va_D A0 wall) (hS : va_S A0 s.heap H locs) (isC isR : List Nat) (hC : isC.map (fun i => wall[i]?) = wc.map some) (hR : isR.map (fun i => wall[i]?) = wr.map some) (hnC : va_nd isC = true) (hnR : va_nd isR = true) (hdis : ∀ i ∈ isR, i ∉ isC) (hFc : ∀ q : Nat, va_A wc H.size q → A0 q)
    (kk : ∀ (u : σ) (H1 : Heap) (locs1 : List Loc), va_P D vwCl (wr ++ w1 u) H1 → va_D A0 (wr ++ w1 u) → va_S A0 s.heap H1 locs1 → W p l e R s m args below meth c H1 locs1 (cells + mc) (slots + ms) Q (F0 m (pc + 3) ls rest)) : W p l e R s m args below meth c H locs cells slots Q (F0 m pc ls st0) := by
  refine va_callv hr hS (fun q _ h => hFc q h) hFc (fun u t H1 locs1 ht hvm hw2 hB hz1 hk1 hS1 => ?_)
  obtain ⟨hP1, hK1, hD1⟩ := hB
  rw [ht] at hP1
  obtain ⟨hP2, hD2⟩ := va_join (wr := wr) (w1 := w1 u) hP hD isC isR hC hR hnR hdis hk1 hFc hP1 hD1
  exact kk u H1 locs1 hP2 hD2 hS1
theorem wg_ei {σ : Type} {w1 : σ → va_W} {r : Int32} (hr : va_Run p l e R s m args below meth c H locs cells slots mc ms (F0 m pc ls st0) rest (va_Qi (fun r2 (_ : σ) => r2 = r) (fun u t => wk_X D Y (w1 u) (va_A wc H.size) t) (va_A wc H.size) a9) (va_A wc H.size))
    (hP : va_P D vwCl wall H) (hD : va_D A0 wall) (hS : va_S A0 s.heap H locs) (isC isR : List Nat) (hC : isC.map (fun i => wall[i]?) = wc.map some) (hR : isR.map (fun i => wall[i]?) = wr.map some) (hnC : va_nd isC = true) (hnR : va_nd isR = true) (hdis : ∀ i ∈ isR, i ∉ isC) (hFc : ∀ q : Nat, va_A wc H.size q → A0 q)
    (kk : ∀ (u : σ) (H1 : Heap) (locs1 : List Loc), va_P D vwCl (wr ++ w1 u) H1 → va_D A0 (wr ++ w1 u) → va_S A0 s.heap H1 locs1 → W p l e R s m args below meth c H1 locs1 (cells + mc) (slots + ms) Q (F0 m (pc + 3) ls (.int r :: rest))) : W p l e R s m args below meth c H locs cells slots Q (F0 m pc ls st0) := by
  refine va_calli hr hS (fun q _ h => hFc q h) hFc (fun r2 u t H1 locs1 ht hvm hw2 hB hz1 hk1 hS1 => ?_)
  subst hw2
  obtain ⟨hP1, hK1, hD1⟩ := hB
  rw [ht] at hP1
  obtain ⟨hP2, hD2⟩ := va_join (wr := wr) (w1 := w1 u) hP hD isC isR hC hR hnR hdis hk1 hFc hP1 hD1
  exact kk u H1 locs1 hP2 hD2 hS1
theorem wg_er {σ : Type} {w1 : σ → va_W} (hr : va_Run p l e R s m args below meth c H locs cells slots mc ms (F0 m pc ls st0) rest (va_Qr (fun (_ : σ) => True) (fun u ra t => ra = b ∧ wk_X D Y (w1 u) (va_A wc H.size) t) (va_A wc H.size) a9) (va_A wc H.size))
    (hP : va_P D vwCl wall H) (hD : va_D A0 wall) (hS : va_S A0 s.heap H locs) (isC isR : List Nat) (hC : isC.map (fun i => wall[i]?) = wc.map some) (hR : isR.map (fun i => wall[i]?) = wr.map some) (hnC : va_nd isC = true) (hnR : va_nd isR = true) (hdis : ∀ i ∈ isR, i ∉ isC) (hFc : ∀ q : Nat, va_A wc H.size q → A0 q)
    (kk : ∀ (u : σ) (H1 : Heap) (locs1 : List Loc), va_P D vwCl (wr ++ w1 u) H1 → va_D A0 (wr ++ w1 u) → va_S A0 s.heap H1 locs1 → W p l e R s m args below meth c H1 locs1 (cells + mc) (slots + ms) Q (F0 m (pc + 3) ls (.ref b :: rest))) : W p l e R s m args below meth c H locs cells slots Q (F0 m pc ls st0) := by
  refine va_callr hr hS (fun q _ h => hFc q h) hFc (fun u ra t H1 locs1 ht hvm hw2 hB hz1 hk1 hS1 => ?_)
  obtain ⟨hra, hP1, hK1, hD1⟩ := hB
  subst hra
  rw [ht] at hP1
  obtain ⟨hP2, hD2⟩ := va_join (wr := wr) (w1 := w1 u) hP hD isC isR hC hR hnR hdis hk1 hFc hP1 hD1
  exact kk u H1 locs1 hP2 hD2 hS1
theorem wg_eu {w1 : Nat → va_W} (hr : va_Run p l e R s m args below meth c H locs cells slots mc ms (F0 m pc ls st0) rest (va_Qr (fun (_ : Nat) => True) (fun u ra t => ra = u ∧ wk_X D Y (w1 u) (va_A wc H.size) t) (va_A wc H.size) a9) (va_A wc H.size))
    (hP : va_P D vwCl wall H) (hD : va_D A0 wall) (hS : va_S A0 s.heap H locs) (isC isR : List Nat) (hC : isC.map (fun i => wall[i]?) = wc.map some) (hR : isR.map (fun i => wall[i]?) = wr.map some) (hnC : va_nd isC = true) (hnR : va_nd isR = true) (hdis : ∀ i ∈ isR, i ∉ isC) (hFc : ∀ q : Nat, va_A wc H.size q → A0 q)
    (kk : ∀ (u : Nat) (H1 : Heap) (locs1 : List Loc), va_P D vwCl (wr ++ w1 u) H1 → va_D A0 (wr ++ w1 u) → va_S A0 s.heap H1 locs1 → W p l e R s m args below meth c H1 locs1 (cells + mc) (slots + ms) Q (F0 m (pc + 3) ls (.ref u :: rest))) : W p l e R s m args below meth c H locs cells slots Q (F0 m pc ls st0) := by
  refine va_callr hr hS (fun q _ h => hFc q h) hFc (fun u ra t H1 locs1 ht hvm hw2 hB hz1 hk1 hS1 => ?_)
  obtain ⟨hra, hP1, hK1, hD1⟩ := hB
  subst hra
  rw [ht] at hP1
  obtain ⟨hP2, hD2⟩ := va_join (wr := wr) (w1 := w1 ra) hP hD isC isR hC hR hnR hdis hk1 hFc hP1 hD1
  exact kk ra H1 locs1 hP2 hD2 hS1
theorem wk_bast (hexec : p.tables.exec = Jvm.exec) (hb : c.code = cc) {tys : List (ClassId × FieldType)} {a : Nat} {H0 : Heap} (hK : va_K D vwCl tys s) (hP : va_P D vwCl wc H) (hD : va_D A0 wc) (hS : va_S A0 H0 H locs) (q0 t0 : Nat) {cA : ClassId} {n k : Nat} {f : Nat → Int32} {i x : Int32} (ha : wc[q0]? = some (a, .inl (cA, n, .inl f))) (ht : tys[t0]? = some (cA, .byte)) (hin : vp_in i n) (hk : i.toNatClampNeg = k) (hdg : decode cc pc = .ok (.bastore, 1))
    (kk : ∀ (f1 : Nat → Int32) (H1 : Heap) (locs1 : List Loc), f1 = upd f k (vp_nar .byte x) → va_P D vwCl (wc.set q0 (a, .inl (cA, n, .inl f1))) H1 → va_D A0 (wc.set q0 (a, .inl (cA, n, .inl f1))) → va_S A0 H0 H1 locs1 → W p l e R s m args below meth c H1 locs1 cells slots Q (F0 m (pc + 1) ls rest)) : W p l e R s m args below meth c H locs cells slots Q (F0 m pc ls (.int x :: .int i :: .ref a :: rest)) := by
  subst hk
  exact va_bast hexec hb hK hP hD hS q0 t0 ha ht hin hdg (fun H1 locs1 h1 h2 h3 => kk _ H1 locs1 rfl h1 h2 h3)
theorem wk_newb {H0 : Heap} {k : Int32} (hexec : p.tables.exec = Jvm.exec) (hb : c.code = cc) (harr : (Cond.arrayClass .byte).before args s = true) (hK : va_K D vwCl (vTy Y) s) (hP : va_P D vwCl wc H) (hD : va_D A0 wc) (hS : va_S A0 H0 H locs) (hA : ∀ q, H0.size ≤ q → A0 q)
    (hn : ¬ k < 0) (hN : k.toNatClampNeg ≤ 142) (hcells : cells + 1 ≤ R.cells) (hslots : slots + 142 ≤ R.slots) (hdg : decode cc pc = .ok (.newarray .byte, 2))
    (kk : ∀ (q : Nat) (H1 : Heap), va_P D vwCl (wc ++ [(q, .inl (Y 1, k.toNatClampNeg, .inl (fun _ => 0)))]) H1 → va_D A0 (wc ++ [(q, .inl (Y 1, k.toNatClampNeg, .inl (fun _ => 0)))]) → va_S A0 H0 H1 locs →
      W p l e R s m args below meth c H1 locs (cells + 1) (slots + 142) Q (F0 m (pc + 2) ls (.ref q :: rest))) : W p l e R s m args below meth c H locs cells slots Q (F0 m pc ls (.int k :: rest)) := by
  refine va_newa (atype := .byte) (ty := .byte) (a0 := (k.toNatClampNeg, .inl (fun _ => 0))) hexec hb harr rfl hK hP hD hS hA (fun cA => rfl) hn rfl (by show k.toNatClampNeg * 1 ≤ _; omega) hcells (by omega) hdg (fun q cA H1 hK1 hP1 hD1 hS1 => ?_)
  have h1 : s.vm.findClass ("[" ++ FieldType.byte.toString) = some cA := (hK1.2 7 (cA, .byte) rfl).2
  have h2 : s.vm.findClass ("[" ++ FieldType.byte.toString) = some (Y 1) := (hK.2 1 (Y 1, .byte) rfl).2
  have e1 : cA = Y 1 := Option.some.inj (h1.symm.trans h2)
  subst e1
  exact W.widen (k := cells + 1) (n := slots + 142) (Nat.le_refl _) (by omega) (kk q H1 hP1 hD1 hS1)
theorem wk_bcopy (hexec : p.tables.exec = Jvm.exec) (hb : c.code = cc) (hml : c.maxLocals = ls.size) (hown : s.vm.findClass own = some m.cls) (hlink : (Cond.methodLink own index arraycopyName).before args s = true) (hnat : (Cond.native arraycopyName).before args s = true) (hstat : (Cond.static arraycopyName).before args s = true) (hini : (Cond.initialized "java/lang/System").before args s = true)
    {H0 : Heap} {a a0 : Nat} (hK : va_K D vwCl (vTy Y) s) (hP : va_P D vwCl wc H) (hD : va_D A0 wc) (hS : va_S A0 H0 H locs) (q0 q1 : Nat) {n0 n1 : Nat} {f g : Nat → Int32} (ha0 : wc[q0]? = some (a0, .inl (Y 1, n0, .inl f))) (ha1 : wc[q1]? = some (a, .inl (Y 1, n1, .inl g)))
    {n : Int32} (h3 : ¬ n < 0) (h4 : n.toNatClampNeg ≤ n0) (h5 : n.toNatClampNeg ≤ n1) (h6 : ∀ j : Nat, j < n.toNatClampNeg → fits .byte (.int (f j)) = true)
    (hframes : 1 ≤ R.frames) (hlocals : (rest.map fun v => v.category).sum + (nativeFrameWords "java/lang/System" "arraycopy" 5 + 11) ≤ R.locals) (hdg : decode cc pc = .ok (.invokestatic index, 3))
    (kk : ∀ (f1 : Nat → Int32) (H1 : Heap) (locs1 : List Loc), f1 = va_cpy f g 0 0 n.toNatClampNeg → va_P D vwCl (wc.set q1 (a, .inl (Y 1, n1, .inl f1))) H1 → va_D A0 (wc.set q1 (a, .inl (Y 1, n1, .inl f1))) → va_S A0 H0 H1 locs1 → W p l e R s m args below meth c H1 locs1 cells slots Q (F0 m (pc + 3) ls rest)) : W p l e R s m args below meth c H locs cells slots Q (F0 m pc ls (.int n :: .int 0 :: .ref a :: .int 0 :: .ref a0 :: rest)) := by
  have z0 : (0 : Int32).toNatClampNeg = 0 := by decide
  refine va_copyi hexec hb hml hown hlink hnat hstat hini hK hP hD hS q0 q1 1 1 (ty := .byte) ha0 ha1 rfl rfl rfl (by decide) (by decide) h3 (by rw [z0]; omega) (by rw [z0]; omega) (fun i hi => by rw [z0, Nat.zero_add]; exact h6 i hi) hframes hlocals hdg (fun H1 locs1 p1 p2 p3 => ?_)
  rw [z0] at p1 p2
  exact kk _ H1 locs1 rfl p1 p2 p3
theorem wk_svT {g : Nat → Nat → Nat} (S : CallFix p m c cc nL s args Ts own) (hM : Met l y ws rm (va_Pc As (wk_BT D Y g wc)) (va_Sv (fun _ => True)) 0 0 (fun _ => False)) (cw : CallB R s args own index y bytes maxL ret ws rm 0 0 n ∧ (Cond.static y).before args s = true)
    (hK : va_K D vwCl (vTy Y) s) (hP : va_P D vwCl wc H) (hT : wk_T g A0 s s.heap) (hS : va_S A0 s.heap H locs) (hn : As.length = n) (hsize : ls.size = nL) (hst : st0 = As.reverse ++ rest) (hw : (rest.map fun v => v.category).sum ≤ 8) (hdg : decode cc pc = .ok (.invokestatic index, 3)) (hf : cells ≤ R.cells ∧ slots ≤ R.slots)
    (kk : W p l e R s m args below meth c H locs cells slots Q (F0 m (pc + 3) ls rest)) : W p l e R s m args below meth c H locs cells slots Q (F0 m pc ls st0) :=
  va_csv (W.runS S hM cw ⟨wk_BTb, wk_BTp hK hP hT hS⟩ rfl hn hsize hst (lv_room hw) hdg hf) (fun _ => kk)
theorem wk_siT {g : Nat → Nat → Nat} {r : Int32} (S : CallFix p m c cc nL s args Ts own) (hM : Met l y ws rm (va_Pc As (wk_BT D Y g wc)) (vp_Si (fun r2 => r2 = r)) 0 0 (fun _ => False)) (cw : CallB R s args own index y bytes maxL ret ws rm 0 0 n ∧ (Cond.static y).before args s = true)
    (hK : va_K D vwCl (vTy Y) s) (hP : va_P D vwCl wc H) (hT : wk_T g A0 s s.heap) (hS : va_S A0 s.heap H locs) (hn : As.length = n) (hsize : ls.size = nL) (hst : st0 = As.reverse ++ rest) (hw : (rest.map fun v => v.category).sum ≤ 8) (hdg : decode cc pc = .ok (.invokestatic index, 3)) (hf : cells ≤ R.cells ∧ slots ≤ R.slots)
    (kk : W p l e R s m args below meth c H locs cells slots Q (F0 m (pc + 3) ls (.int r :: rest))) : W p l e R s m args below meth c H locs cells slots Q (F0 m pc ls st0) :=
  vp_callSi (W.runS S hM cw ⟨wk_BTb, wk_BTp hK hP hT hS⟩ rfl hn hsize hst (lv_room hw) hdg hf) (fun r2 e2 => by subst e2; exact kk)
theorem wk_esiT {g : Nat → Nat → Nat} {w1 : va_W} {r : Int32} (S : CallFix p m c cc nL s args Ts own) (hM : Met l y ws rm (va_Pc As (wk_ET D Y g wc H.size)) (va_Qi (fun r2 (_ : Unit) => r2 = r) (fun _ t => wk_X D Y w1 (va_A wc H.size) t) (va_A wc H.size)) mc ms (va_A wc H.size)) (cw : CallB R s args own index y bytes maxL ret ws rm mc ms n ∧ (Cond.static y).before args s = true)
    (hK : va_K D vwCl (vTy Y) s) (hP : va_P D vwCl wall H) (hD : va_D A0 wall) (hS : va_S A0 s.heap H locs) (hA : ∀ q, s.heap.size ≤ q → A0 q) (hT : wk_T g A0 s s.heap) (isC isR : List Nat) (hC : isC.map (fun i => wall[i]?) = wc.map some) (hR : isR.map (fun i => wall[i]?) = wr.map some) (hnC : va_nd isC = true) (hnR : va_nd isR = true) (hdis : ∀ i ∈ isR, i ∉ isC)
    (hn : As.length = n) (hsize : ls.size = nL) (hst : st0 = As.reverse ++ rest) (hw : (rest.map fun v => v.category).sum ≤ 8) (hdg : decode cc pc = .ok (.invokestatic index, 3)) (hf : cells + mc ≤ R.cells ∧ slots + ms ≤ R.slots)
    (kk : ∀ (H1 : Heap) (locs1 : List Loc), va_P D vwCl (wr ++ w1) H1 → va_D A0 (wr ++ w1) → va_S A0 s.heap H1 locs1 → W p l e R s m args below meth c H1 locs1 (cells + mc) (slots + ms) Q (F0 m (pc + 3) ls (.int r :: rest))) : W p l e R s m args below meth c H locs cells slots Q (F0 m pc ls st0) := by
  have hPc := hP.sub isC (wk_fm hC)
  have hDc := hD.sub isC hnC hC
  have hFc := va_free (wc := wc) hD hS hA isC hC
  refine va_calli (va_runS (rest := rest) S hM cw ⟨wk_ETb, wk_ETp hK hPc hDc hT hS hFc⟩ rfl hn hsize hst (lv_room hw) hdg hf) hS (fun q _ h => hFc q h) hFc (fun r2 u t H1 locs1 ht hvm hw2 hB hz1 hk1 hS1 => ?_)
  subst hw2
  obtain ⟨hP1, hK1, hD1⟩ := hB
  rw [ht] at hP1
  obtain ⟨hP2, hD2⟩ := va_join (wr := wr) (w1 := w1) hP hD isC isR hC hR hnR hdis hk1 hFc hP1 hD1
  exact kk H1 locs1 hP2 hD2 hS1
end WKG
abbrev wJ4 (Y : Nat → ClassId) (a : Nat → Nat) (Z_v : Nat) (Z_m : Nat) (Z_ml : Int32) (Z_n : Int32) (Z_f : Nat → Int32) : va_W := [(a 0, .inr (1, [.ref Z_v, .int 0, .int Z_ml, .int Z_n])), (Z_v, .inl (Y 1, Z_m, .inl Z_f))]
theorem mx_J7_copyOf_9075b_RJ7_304 : Cond.methodLink RJ7 304 Lib.Math.min.name ∈ wsJ7_copyOf_9075b ∧ Cond.static Lib.Math.min.name ∈ wsJ7_copyOf_9075b ∧ Cond.initialized "java/lang/Math" ∈ wsJ7_copyOf_9075b ∧ Cond.code Lib.Math.min.name Lib.Math.min.code 2 (some .int) ∈ wsJ7_copyOf_9075b := ⟨by decide +kernel, by decide +kernel, by decide +kernel, by decide +kernel⟩
theorem ac_J7_copyOf_9075b_RJ7_150 : Cond.methodLink RJ7 150 arraycopyName ∈ wsJ7_copyOf_9075b ∧ Cond.native arraycopyName ∈ wsJ7_copyOf_9075b ∧ Cond.static arraycopyName ∈ wsJ7_copyOf_9075b ∧ Cond.initialized "java/lang/System" ∈ wsJ7_copyOf_9075b := ⟨by decide +kernel, by decide +kernel, by decide +kernel, by decide +kernel⟩
theorem nr_J7_copyOf_9075b_byte : Cond.arrayClass .byte ∈ wsJ7_copyOf_9075b := by decide +kernel
def f_J7_copyOf_9075b (A_m : Nat) (A_f : Nat → Int32) (x1 : Int32) : Option (Nat × (Nat → Int32)) :=
  if x1 = Int32.ofNat A_m then
    (none)
  else
    (gok (¬ x1 < 0 ∧ x1.toNatClampNeg ≤ 142) (gok (¬ (if x1 < Int32.ofNat A_m then x1 else Int32.ofNat A_m) < 0 ∧ (if x1 < Int32.ofNat A_m then x1 else Int32.ofNat A_m).toNatClampNeg ≤ A_m ∧ (if x1 < Int32.ofNat A_m then x1 else Int32.ofNat A_m).toNatClampNeg ≤ x1.toNatClampNeg ∧ ∀ j : Nat, j < (if x1 < Int32.ofNat A_m then x1 else Int32.ofNat A_m).toNatClampNeg → fits .byte (.int (A_f j)) = true) (wkl (va_cpy A_f (fun _ => 0) 0 0 (if x1 < Int32.ofNat A_m then x1 else Int32.ofNat A_m).toNatClampNeg) (fun g5 =>
    some (x1.toNatClampNeg, g5)))))
set_option maxHeartbeats 4000000 in
set_option maxRecDepth 100000 in
theorem c_J7_copyOf_9075b (l : Launch) (dC : Nat → ClassId) (dI : Nat → Nat → Nat) (Y : Nat → ClassId) (a : Nat → Nat) (A_m : Nat) (A_f : Nat → Int32) (x1 : Int32) (sz : Nat) (zN : Nat) (zF : Nat → Int32) (hf : f_J7_copyOf_9075b A_m A_f x1 = some (zN, zF)) : Met l yJ7_copyOf_9075b wsJ7_copyOf_9075b ({ frames := 1, cells := 1, slots := 142, locals := 200 } : Room) (va_Pc [.ref (a 0), .int x1] (wk_E (dC, dI) Y [(a 0, .inl (Y 1, A_m, .inl A_f))] sz)) (va_Qr (fun (_ : Nat) => True) (fun u9 ra t => ra = u9 ∧ wk_X (dC, dI) Y [(a 0, .inl (Y 1, A_m, .inl A_f)), (u9, .inl (Y 1, zN, .inl zF))] (va_A [(a 0, .inl (Y 1, A_m, .inl A_f))] sz) t) (va_A [(a 0, .inl (Y 1, A_m, .inl A_f))] sz)) 1 142 (va_A [(a 0, .inl (Y 1, A_m, .inl A_f))] sz) := by
  refine Met.ofW (cc := cJ7_copyOf_9075b) (maxL := 3) (ret := (some (.array .byte))) (by decide) rfl ?_
  intro p e s m args below meth c s₁ B hml hv
  obtain ⟨rfl, hsz, hP, hK, hD0⟩ := hv
  have hx := B.exec
  have hb := B.bytes
  have hr := B.returns
  have hts := atoms_spec (ws := wsJ7_copyOf_9075b) B.pre
  have hown : s.vm.findClass RJ7 = some m.cls := findClass_of_methodNamed B.named
  have hlocks := B.notSynchronized
  have C0 : wk_C p s m _ meth c cJ7_copyOf_9075b 3 (some (.array .byte)) wsJ7_copyOf_9075b RJ7 := ⟨hx, hb, hml, hr, hlocks, hown, hts⟩
  subst hsz
  have hD := hD0.self (sz := s.heap.size)
  generalize hAe : va_A [(a 0, .inl (Y 1, A_m, .inl A_f))] s.heap.size = A at hD ⊢
  have hA : ∀ q : Nat, s.heap.size ≤ q → A q := fun q h => by rw [← hAe]; exact Or.inr h
  have hS : va_S A s.heap s.heap [] := va_S.rf
  obtain ⟨H, hHe⟩ : ∃ H, H = s.heap := ⟨_, rfl⟩
  have hS : va_S A s.heap H [] := by rw [hHe]; exact hS
  have hP : va_P (dC, dI) vwCl [(a 0, .inl (Y 1, A_m, .inl A_f))] H := by rw [hHe]; exact hP
  have hD : va_D A [(a 0, .inl (Y 1, A_m, .inl A_f))] := hD
  obtain ⟨locs, hlo⟩ : ∃ locs : List Loc, locs = [] := ⟨_, rfl⟩
  have hS : va_S A s.heap H locs := by rw [hlo]; exact hS
  have hl := lv_entry ([.ref (a 0), .int x1]) (n := 3) (Nat.le_of_ble_eq_true rfl)
  rw [lg_entry_eq]
  generalize (lg_sl ([.ref (a 0), .int x1]) ++ List.replicate (3 - (lg_sl ([.ref (a 0), .int x1])).length) Slot.unset).toArray = ls at hl ⊢
  have hl : lv_has ls 3 [(0, .ref (a 0)), (1, .int x1)] := hl
  refine wk_start hHe hlo ?_
  rw [f_J7_copyOf_9075b] at hf
  refine lv_iload_n hx hb dJ7_copyOf_9075b_0 rfl (lv_at hl 1 rfl) ?_
  refine lv_aload_n hx hb dJ7_copyOf_9075b_1 rfl (lv_at hl 0 rfl) ?_
  refine va_alen (D := (dC, dI)) (v := Int32.ofNat A_m) hx hb hK hP 0 1 rfl rfl rfl dJ7_copyOf_9075b_2 ?_
  refine lv_icmp_ne (tgt := 14) hx hb dJ7_copyOf_9075b_3 (by decide) (fun q1 => ?_) (fun q1 => ?_)
  · have hf := wk_f hf q1
    refine lv_iload_n hx hb dJ7_copyOf_9075b_14 rfl (lv_at hl 1 rfl) ?_
    obtain ⟨h2, hf⟩ := gok_s hf
    refine wk_newb hx hb (hts _ nr_J7_copyOf_9075b_byte) hK hP hD hS hA h2.1 h2.2 (Nat.le_of_ble_eq_true rfl) (Nat.le_of_ble_eq_true rfl) dJ7_copyOf_9075b_15 (fun n3 H hP hD hS => ?_)
    have hP : va_P (dC, dI) vwCl [(a 0, .inl (Y 1, A_m, .inl A_f)), (n3, .inl (Y 1, x1.toNatClampNeg, .inl (fun _ => 0)))] H := hP
    have hD : va_D A [(a 0, .inl (Y 1, A_m, .inl A_f)), (n3, .inl (Y 1, x1.toNatClampNeg, .inl (fun _ => 0)))] := hD
    refine lv_astore_n (lv' := [(2, .ref n3), (0, .ref (a 0)), (1, .int x1)]) hx hb dJ7_copyOf_9075b_17 rfl hl (by decide) rfl (fun ls hl => ?_)
    refine lv_aload_n hx hb dJ7_copyOf_9075b_18 rfl (lv_at hl 1 rfl) ?_
    refine lv_iconst (v := 0) hx hb dJ7_copyOf_9075b_19 (by decide) ?_
    refine lv_aload_n hx hb dJ7_copyOf_9075b_20 rfl (lv_at hl 0 rfl) ?_
    refine lv_iconst (v := 0) hx hb dJ7_copyOf_9075b_21 (by decide) ?_
    refine lv_aload_n hx hb dJ7_copyOf_9075b_22 rfl (lv_at hl 1 rfl) ?_
    refine va_alen (D := (dC, dI)) (v := Int32.ofNat A_m) hx hb hK hP 0 1 rfl rfl rfl dJ7_copyOf_9075b_23 ?_
    refine lv_iload_n hx hb dJ7_copyOf_9075b_24 rfl (lv_at hl 2 rfl) ?_
    refine va_mmin hx hb (hml.trans hl.1.symm) hown (hts _ mx_J7_copyOf_9075b_RJ7_304.1) (hts _ mx_J7_copyOf_9075b_RJ7_304.2.1) (hts _ mx_J7_copyOf_9075b_RJ7_304.2.2.1) (hts _ mx_J7_copyOf_9075b_RJ7_304.2.2.2) (Nat.le_of_ble_eq_true rfl) (Nat.le_of_ble_eq_true rfl) (Nat.le_of_ble_eq_true rfl) (Nat.le_of_ble_eq_true rfl) dJ7_copyOf_9075b_25 ?_
    obtain ⟨h4, hf⟩ := gok_s hf
    refine wk_bcopy (rest := []) hx hb (hml.trans hl.1.symm) hown (hts _ ac_J7_copyOf_9075b_RJ7_150.1) (hts _ ac_J7_copyOf_9075b_RJ7_150.2.1) (hts _ ac_J7_copyOf_9075b_RJ7_150.2.2.1) (hts _ ac_J7_copyOf_9075b_RJ7_150.2.2.2) hK hP hD hS 0 1 rfl rfl h4.1 h4.2.1 h4.2.2.1 h4.2.2.2 (Nat.le_of_ble_eq_true rfl) (Nat.le_of_ble_eq_true rfl) dJ7_copyOf_9075b_28 (fun g5 H locs eg5 hP hD hS => ?_)
    have hP : va_P (dC, dI) vwCl [(a 0, .inl (Y 1, A_m, .inl A_f)), (n3, .inl (Y 1, x1.toNatClampNeg, .inl g5))] H := hP
    have hD : va_D A [(a 0, .inl (Y 1, A_m, .inl A_f)), (n3, .inl (Y 1, x1.toNatClampNeg, .inl g5))] := hD
    have hf := wkl_s hf eg5
    refine lv_aload_n hx hb dJ7_copyOf_9075b_31 rfl (lv_at hl 0 rfl) ?_
    obtain ⟨e0, e1⟩ := wke2 hf
    subst e0
    subst e1
    have hP9 := hP.sub (ws' := [(a 0, .inl (Y 1, A_m, .inl A_f)), (n3, .inl (Y 1, x1.toNatClampNeg, .inl g5))]) [0, 1] rfl
    have hD9 := hD.sub (ws' := [(a 0, .inl (Y 1, A_m, .inl A_f)), (n3, .inl (Y 1, x1.toNatClampNeg, .inl g5))]) [0, 1] (by decide) rfl
    refine W.widen (k := 1) (n := 142) (Nat.le_of_ble_eq_true rfl) (Nat.le_of_ble_eq_true rfl) ?_
    exact W.aret (v := .ref n3) hx hb hr (Or.inr ⟨_, rfl⟩) (Or.inr ⟨_, rfl⟩) (fun t ht hW => ⟨⟨n3, n3, rfl, trivial, rfl, by rw [ht]; exact hP9, va_K.moved hW.alike hK, hD9⟩, hS.F ht⟩) hS.2.2 dJ7_copyOf_9075b_32
  · have hf := wk_t hf q1
    cases hf
theorem kc_J8_newLength_cabcc_RJ8_200 : Cond.constant RJ8 200 (2147483639) ∈ wsJ8_newLength_cabcc := by decide +kernel
theorem mx_J8_newLength_cabcc_RJ8_194 : Cond.methodLink RJ8 194 Lib.Math.max.name ∈ wsJ8_newLength_cabcc ∧ Cond.static Lib.Math.max.name ∈ wsJ8_newLength_cabcc ∧ Cond.initialized "java/lang/Math" ∈ wsJ8_newLength_cabcc ∧ Cond.code Lib.Math.max.name Lib.Math.max.code 2 (some .int) ∈ wsJ8_newLength_cabcc := ⟨by decide +kernel, by decide +kernel, by decide +kernel, by decide +kernel⟩
def f_J8_newLength_cabcc (x0 : Int32) (x1 : Int32) (x2 : Int32) : Option (Int32) :=
  if (x0 + (if x1 < x2 then x2 else x1)) ≤ 0 then
    (none)
  else
    (if ((2147483639) : Int32) < (x0 + (if x1 < x2 then x2 else x1)) then
      (none)
    else
      (some ((x0 + (if x1 < x2 then x2 else x1)))))
set_option maxHeartbeats 4000000 in
set_option maxRecDepth 100000 in
theorem c_J8_newLength_cabcc (l : Launch) (dC : Nat → ClassId) (dI : Nat → Nat → Nat) (Y : Nat → ClassId)   (x0 : Int32) (x1 : Int32) (x2 : Int32) (r : Int32) (hf : f_J8_newLength_cabcc x0 x1 x2 = some (r)) : Met l yJ8_newLength_cabcc wsJ8_newLength_cabcc ({ frames := 1, cells := 0, slots := 0, locals := 21 } : Room) (va_Pc [.int x0, .int x1, .int x2] (wk_B (dC, dI) Y ([] : va_W))) (vp_Si (fun r2 => r2 = r)) 0 0 (fun _ => False) := by
  refine Met.ofW (cc := cJ8_newLength_cabcc) (maxL := 4) (ret := (some .int)) (by decide) rfl ?_
  intro p e s m args below meth c s₁ B hml hv
  obtain ⟨rfl, hP, hK⟩ := hv
  have hx := B.exec
  have hb := B.bytes
  have hr := B.returns
  have hts := atoms_spec (ws := wsJ8_newLength_cabcc) B.pre
  have hown : s.vm.findClass RJ8 = some m.cls := findClass_of_methodNamed B.named
  have hlocks := B.notSynchronized
  have C0 : wk_C p s m _ meth c cJ8_newLength_cabcc 4 (some .int) wsJ8_newLength_cabcc RJ8 := ⟨hx, hb, hml, hr, hlocks, hown, hts⟩
  have hP : va_P (dC, dI) vwCl [] s.heap := hP
  have hl := lv_entry ([.int x0, .int x1, .int x2]) (n := 4) (Nat.le_of_ble_eq_true rfl)
  rw [lg_entry_eq]
  generalize (lg_sl ([.int x0, .int x1, .int x2]) ++ List.replicate (4 - (lg_sl ([.int x0, .int x1, .int x2])).length) Slot.unset).toArray = ls at hl ⊢
  have hl : lv_has ls 4 [(0, .int x0), (1, .int x1), (2, .int x2)] := hl
  rw [f_J8_newLength_cabcc] at hf
  refine lv_iload_n hx hb dJ8_newLength_cabcc_0 rfl (lv_at hl 0 rfl) ?_
  refine lv_iload_n hx hb dJ8_newLength_cabcc_1 rfl (lv_at hl 1 rfl) ?_
  refine lv_iload_n hx hb dJ8_newLength_cabcc_2 rfl (lv_at hl 2 rfl) ?_
  refine va_mmax hx hb (hml.trans hl.1.symm) hown (hts _ mx_J8_newLength_cabcc_RJ8_194.1) (hts _ mx_J8_newLength_cabcc_RJ8_194.2.1) (hts _ mx_J8_newLength_cabcc_RJ8_194.2.2.1) (hts _ mx_J8_newLength_cabcc_RJ8_194.2.2.2) (Nat.le_of_ble_eq_true rfl) (Nat.le_of_ble_eq_true rfl) (Nat.le_of_ble_eq_true rfl) (Nat.le_of_ble_eq_true rfl) dJ8_newLength_cabcc_3 ?_
  refine lv_iadd hx hb dJ8_newLength_cabcc_6 ?_
  refine lv_istore_n (lv' := [(3, .int (x0 + (if x1 < x2 then x2 else x1))), (0, .int x0), (1, .int x1), (2, .int x2)]) hx hb dJ8_newLength_cabcc_7 rfl hl (by decide) rfl (fun ls hl => ?_)
  refine lv_iconst (v := 0) hx hb dJ8_newLength_cabcc_8 (by decide) ?_
  refine lv_iload_n hx hb dJ8_newLength_cabcc_9 rfl (lv_at hl 0 rfl) ?_
  refine lv_icmp_ge (tgt := 21) hx hb dJ8_newLength_cabcc_10 (by decide) (fun q1 => ?_) (fun q1 => ?_)
  · have hf := wk_t hf q1
    cases hf
  · have hf := wk_f hf q1
    refine lv_iload_n hx hb dJ8_newLength_cabcc_13 rfl (lv_at hl 0 rfl) ?_
    refine lv_ldc hx hb hown (hts _ kc_J8_newLength_cabcc_RJ8_200) dJ8_newLength_cabcc_14 ?_
    refine lv_icmp_gt (tgt := 21) hx hb dJ8_newLength_cabcc_16 (by decide) (fun q2 => ?_) (fun q2 => ?_)
    · have hf := wk_t hf q2
      cases hf
    · have hf := wk_f hf q2
      refine lv_iload_n hx hb dJ8_newLength_cabcc_19 rfl (lv_at hl 0 rfl) ?_
      have e0 := wke1 hf
      subst e0
      exact W.iret (v := (x0 + (if x1 < x2 then x2 else x1))) hx hb hr (fun t ht hW => ⟨(x0 + (if x1 < x2 then x2 else x1)), rfl, rfl, ht⟩) (fun q h => absurd h List.not_mem_nil) dJ8_newLength_cabcc_20
theorem lk_J5_newCapacity_0f7a4_RJ5_15 : Cond.fieldLink RJ5 15 "java/lang/AbstractStringBuilder" "value" "[B" ∈ wsJ5_newCapacity_0f7a4 := by decide +kernel
theorem lk_J5_newCapacity_0f7a4_RJ5_22 : Cond.fieldLink RJ5 22 "java/lang/AbstractStringBuilder" "coder" "B" ∈ wsJ5_newCapacity_0f7a4 := by decide +kernel
theorem kc_J5_newCapacity_0f7a4_RJ5_39 : Cond.constant RJ5 39 (2147483647) ∈ wsJ5_newCapacity_0f7a4 := by decide +kernel
theorem in_J5_newCapacity_0f7a4_J4 : ∀ w ∈ u_ws RJ4 TJ4 4, w ∈ wsJ5_newCapacity_0f7a4 := by decide +kernel
def f_J5_newCapacity_0f7a4 (Z_m : Nat) (x1 : Int32) : Option (Int32) :=
  wkb1 (f_J8_newLength_cabcc (Int32.ofNat Z_m) ((x1 <<< (0 &&& 31)) - Int32.ofNat Z_m) (Int32.ofNat Z_m + ((2 : Int32) <<< (0 &&& 31)))) (fun r1 =>
  if r1 = (2147483647) then
    (none)
  else
    (some ((r1 >>> (0 &&& 31)))))
set_option maxHeartbeats 4000000 in
set_option maxRecDepth 100000 in
theorem c_J5_newCapacity_0f7a4 (l : Launch) (dC : Nat → ClassId) (dI : Nat → Nat → Nat) (Y : Nat → ClassId) (a : Nat → Nat) (Z_v : Nat) (Z_m : Nat) (Z_ml : Int32) (Z_n : Int32) (Z_f : Nat → Int32) (x1 : Int32) (r : Int32) (hf : f_J5_newCapacity_0f7a4 Z_m x1 = some (r)) : Met l yJ5_newCapacity_0f7a4 wsJ5_newCapacity_0f7a4 ({ frames := 2, cells := 0, slots := 0, locals := 44 } : Room) (va_Pc [.ref (a 0), .int x1] (wk_B (dC, dI) Y (wJ4 Y a Z_v Z_m Z_ml Z_n Z_f))) (vp_Si (fun r2 => r2 = r)) 0 0 (fun _ => False) := by
  refine Met.ofW (cc := cJ5_newCapacity_0f7a4) (maxL := 6) (ret := (some .int)) (by decide) rfl ?_
  intro p e s m args below meth c s₁ B hml hv
  obtain ⟨rfl, hP, hK⟩ := hv
  have hx := B.exec
  have hb := B.bytes
  have hr := B.returns
  have hts := atoms_spec (ws := wsJ5_newCapacity_0f7a4) B.pre
  have hown : s.vm.findClass RJ5 = some m.cls := findClass_of_methodNamed B.named
  have hlocks := B.notSynchronized
  have C0 : wk_C p s m _ meth c cJ5_newCapacity_0f7a4 6 (some .int) wsJ5_newCapacity_0f7a4 RJ5 := ⟨hx, hb, hml, hr, hlocks, hown, hts⟩
  have hP : va_P (dC, dI) vwCl [(a 0, .inr (1, [.ref Z_v, .int 0, .int Z_ml, .int Z_n])), (Z_v, .inl (Y 1, Z_m, .inl Z_f))] s.heap := hP
  have hl := lv_entry ([.ref (a 0), .int x1]) (n := 6) (Nat.le_of_ble_eq_true rfl)
  rw [lg_entry_eq]
  generalize (lg_sl ([.ref (a 0), .int x1]) ++ List.replicate (6 - (lg_sl ([.ref (a 0), .int x1])).length) Slot.unset).toArray = ls at hl ⊢
  have hl : lv_has ls 6 [(0, .ref (a 0)), (1, .int x1)] := hl
  rw [f_J5_newCapacity_0f7a4] at hf
  refine lv_aload_n hx hb dJ5_newCapacity_0f7a4_0 rfl (lv_at hl 0 rfl) ?_
  refine va_get (D := (dC, dI)) (ci := 1) (v := .ref Z_v) (C := RJ4) (T := TJ4) (N := 4) hx hb hts in_J5_newCapacity_0f7a4_J4 hown hK hP 0 rfl rfl 0 (by decide) (hts _ lk_J5_newCapacity_0f7a4_RJ5_15) (fun _ h9 => h9) rfl dJ5_newCapacity_0f7a4_1 ?_
  refine va_alen (D := (dC, dI)) (v := Int32.ofNat Z_m) hx hb hK hP 1 1 rfl rfl rfl dJ5_newCapacity_0f7a4_4 ?_
  refine lv_istore_n (lv' := [(2, .int (Int32.ofNat Z_m)), (0, .ref (a 0)), (1, .int x1)]) hx hb dJ5_newCapacity_0f7a4_5 rfl hl (by decide) rfl (fun ls hl => ?_)
  refine lv_iload_n hx hb dJ5_newCapacity_0f7a4_6 rfl (lv_at hl 2 rfl) ?_
  refine lv_aload_n hx hb dJ5_newCapacity_0f7a4_7 rfl (lv_at hl 1 rfl) ?_
  refine va_get (D := (dC, dI)) (ci := 1) (v := .int 0) (C := RJ4) (T := TJ4) (N := 4) hx hb hts in_J5_newCapacity_0f7a4_J4 hown hK hP 0 rfl rfl 1 (by decide) (hts _ lk_J5_newCapacity_0f7a4_RJ5_22) (fun _ h9 => h9) rfl dJ5_newCapacity_0f7a4_8 ?_
  refine lv_ishl hx hb dJ5_newCapacity_0f7a4_11 ?_
  refine lv_istore_n (lv' := [(3, .int (x1 <<< (0 &&& 31))), (2, .int (Int32.ofNat Z_m)), (0, .ref (a 0)), (1, .int x1)]) hx hb dJ5_newCapacity_0f7a4_12 rfl hl (by decide) rfl (fun ls hl => ?_)
  refine lv_iload_n hx hb dJ5_newCapacity_0f7a4_13 rfl (lv_at hl 0 rfl) ?_
  refine lv_iload_n hx hb dJ5_newCapacity_0f7a4_14 rfl (lv_at hl 1 rfl) ?_
  refine lv_isub hx hb dJ5_newCapacity_0f7a4_15 ?_
  refine lv_istore (lv' := [(4, .int ((x1 <<< (0 &&& 31)) - Int32.ofNat Z_m)), (3, .int (x1 <<< (0 &&& 31))), (2, .int (Int32.ofNat Z_m)), (0, .ref (a 0)), (1, .int x1)]) hx hb dJ5_newCapacity_0f7a4_16 hl (by decide) rfl (fun ls hl => ?_)
  refine lv_iload_n hx hb dJ5_newCapacity_0f7a4_18 rfl (lv_at hl 2 rfl) ?_
  refine lv_iload hx hb dJ5_newCapacity_0f7a4_19 (lv_at hl 0 rfl) ?_
  refine lv_iload_n hx hb dJ5_newCapacity_0f7a4_21 rfl (lv_at hl 2 rfl) ?_
  refine lv_iconst (v := 2) hx hb dJ5_newCapacity_0f7a4_22 (by decide) ?_
  refine lv_aload_n hx hb dJ5_newCapacity_0f7a4_23 rfl (lv_at hl 3 rfl) ?_
  refine va_get (D := (dC, dI)) (ci := 1) (v := .int 0) (C := RJ4) (T := TJ4) (N := 4) hx hb hts in_J5_newCapacity_0f7a4_J4 hown hK hP 0 rfl rfl 1 (by decide) (hts _ lk_J5_newCapacity_0f7a4_RJ5_22) (fun _ h9 => h9) rfl dJ5_newCapacity_0f7a4_24 ?_
  refine lv_ishl hx hb dJ5_newCapacity_0f7a4_27 ?_
  refine lv_iadd hx hb dJ5_newCapacity_0f7a4_28 ?_
  obtain ⟨r1, hr2, hf⟩ := wkb1_s hf
  have hPc := hP.sub (ws' := ([] : va_W)) [] rfl
  refine wk_si (As := [.int (Int32.ofNat Z_m), .int ((x1 <<< (0 &&& 31)) - Int32.ofNat Z_m), .int (Int32.ofNat Z_m + ((2 : Int32) <<< (0 &&& 31)))]) (rest := []) ⟨hx, hb, hml, hown, hts⟩ (c_J8_newLength_cabcc l dC dI Y (Int32.ofNat Z_m) ((x1 <<< (0 &&& 31)) - Int32.ofNat Z_m) (Int32.ofNat Z_m + ((2 : Int32) <<< (0 &&& 31))) r1 hr2) (va_cwS 3 hts gJ5_newCapacity_0f7a4_J8_newLength_cabcc rfl rfl rfl (by decide +kernel) ⟨Nat.le_of_ble_eq_true rfl, Nat.le_of_ble_eq_true rfl⟩) hK hPc rfl hl.1 rfl (Nat.le_of_ble_eq_true rfl) dJ5_newCapacity_0f7a4_29 ⟨Nat.le_of_ble_eq_true rfl, Nat.le_of_ble_eq_true rfl⟩ ?_
  refine lv_istore (lv' := [(5, .int r1), (4, .int ((x1 <<< (0 &&& 31)) - Int32.ofNat Z_m)), (3, .int (x1 <<< (0 &&& 31))), (2, .int (Int32.ofNat Z_m)), (0, .ref (a 0)), (1, .int x1)]) hx hb dJ5_newCapacity_0f7a4_32 hl (by decide) rfl (fun ls hl => ?_)
  refine lv_iload hx hb dJ5_newCapacity_0f7a4_34 (lv_at hl 0 rfl) ?_
  refine lv_ldc hx hb hown (hts _ kc_J5_newCapacity_0f7a4_RJ5_39) dJ5_newCapacity_0f7a4_36 ?_
  refine lv_icmp_ne (tgt := 51) hx hb dJ5_newCapacity_0f7a4_38 (by decide) (fun q3 => ?_) (fun q3 => ?_)
  · have hf := wk_f hf q3
    refine lv_iload hx hb dJ5_newCapacity_0f7a4_51 (lv_at hl 0 rfl) ?_
    refine lv_aload_n hx hb dJ5_newCapacity_0f7a4_53 rfl (lv_at hl 4 rfl) ?_
    refine va_get (D := (dC, dI)) (ci := 1) (v := .int 0) (C := RJ4) (T := TJ4) (N := 4) hx hb hts in_J5_newCapacity_0f7a4_J4 hown hK hP 0 rfl rfl 1 (by decide) (hts _ lk_J5_newCapacity_0f7a4_RJ5_22) (fun _ h9 => h9) rfl dJ5_newCapacity_0f7a4_54 ?_
    refine lv_ishr hx hb dJ5_newCapacity_0f7a4_57 ?_
    have e0 := wke1 hf
    subst e0
    exact W.iret (v := (r1 >>> (0 &&& 31))) hx hb hr (fun t ht hW => ⟨(r1 >>> (0 &&& 31)), rfl, rfl, ht⟩) (fun q h => absurd h List.not_mem_nil) dJ5_newCapacity_0f7a4_58
  · have hf := wk_t hf q3
    cases hf
theorem lk_J5_ensureCapacityInternal_d00df_RJ5_15 : Cond.fieldLink RJ5 15 "java/lang/AbstractStringBuilder" "value" "[B" ∈ wsJ5_ensureCapacityInternal_d00df := by decide +kernel
theorem lk_J5_ensureCapacityInternal_d00df_RJ5_22 : Cond.fieldLink RJ5 22 "java/lang/AbstractStringBuilder" "coder" "B" ∈ wsJ5_ensureCapacityInternal_d00df := by decide +kernel
theorem in_J5_ensureCapacityInternal_d00df_J4 : ∀ w ∈ u_ws RJ4 TJ4 4, w ∈ wsJ5_ensureCapacityInternal_d00df := by decide +kernel
def f_J5_ensureCapacityInternal_d00df (Z_m : Nat) (Z_f : Nat → Int32) (x1 : Int32) : Option (Nat × (Nat → Int32)) :=
  if (x1 - (Int32.ofNat Z_m >>> (0 &&& 31))) ≤ 0 then
    (some (Z_m, Z_f))
  else
    (wkb1 (f_J5_newCapacity_0f7a4 Z_m x1) (fun r2 =>
    wkb2 (f_J7_copyOf_9075b Z_m Z_f (r2 <<< (0 &&& 31))) (fun w5 w6 =>
    some (w5, w6))))
set_option maxHeartbeats 4000000 in
set_option maxRecDepth 100000 in
theorem c_J5_ensureCapacityInternal_d00df (l : Launch) (dC : Nat → ClassId) (dI : Nat → Nat → Nat) (Y : Nat → ClassId) (a : Nat → Nat) (Z_v : Nat) (Z_m : Nat) (Z_ml : Int32) (Z_n : Int32) (Z_f : Nat → Int32) (x1 : Int32) (sz : Nat) (zZ_m : Nat) (zZ_f : Nat → Int32) (hf : f_J5_ensureCapacityInternal_d00df Z_m Z_f x1 = some (zZ_m, zZ_f)) : Met l yJ5_ensureCapacityInternal_d00df wsJ5_ensureCapacityInternal_d00df ({ frames := 3, cells := 1, slots := 142, locals := 222 } : Room) (va_Pc [.ref (a 0), .int x1] (wk_E (dC, dI) Y (wJ4 Y a Z_v Z_m Z_ml Z_n Z_f) sz)) (va_Qv (fun (_ : Nat) => True) (fun u9 t => wk_X (dC, dI) Y (wJ4 Y a u9 zZ_m Z_ml Z_n zZ_f) (va_A (wJ4 Y a Z_v Z_m Z_ml Z_n Z_f) sz) t) (va_A (wJ4 Y a Z_v Z_m Z_ml Z_n Z_f) sz)) 1 142 (va_A (wJ4 Y a Z_v Z_m Z_ml Z_n Z_f) sz) := by
  refine Met.ofW (cc := cJ5_ensureCapacityInternal_d00df) (maxL := 3) (ret := none) (by decide) rfl ?_
  intro p e s m args below meth c s₁ B hml hv
  obtain ⟨rfl, hsz, hP, hK, hD0⟩ := hv
  have hx := B.exec
  have hb := B.bytes
  have hr := B.returns
  have hts := atoms_spec (ws := wsJ5_ensureCapacityInternal_d00df) B.pre
  have hown : s.vm.findClass RJ5 = some m.cls := findClass_of_methodNamed B.named
  have hlocks := B.notSynchronized
  have C0 : wk_C p s m _ meth c cJ5_ensureCapacityInternal_d00df 3 none wsJ5_ensureCapacityInternal_d00df RJ5 := ⟨hx, hb, hml, hr, hlocks, hown, hts⟩
  subst hsz
  have hD := hD0.self (sz := s.heap.size)
  generalize hAe : va_A (wJ4 Y a Z_v Z_m Z_ml Z_n Z_f) s.heap.size = A at hD ⊢
  have hA : ∀ q : Nat, s.heap.size ≤ q → A q := fun q h => by rw [← hAe]; exact Or.inr h
  have hS : va_S A s.heap s.heap [] := va_S.rf
  obtain ⟨H, hHe⟩ : ∃ H, H = s.heap := ⟨_, rfl⟩
  have hS : va_S A s.heap H [] := by rw [hHe]; exact hS
  have hP : va_P (dC, dI) vwCl [(a 0, .inr (1, [.ref Z_v, .int 0, .int Z_ml, .int Z_n])), (Z_v, .inl (Y 1, Z_m, .inl Z_f))] H := by rw [hHe]; exact hP
  have hD : va_D A [(a 0, .inr (1, [.ref Z_v, .int 0, .int Z_ml, .int Z_n])), (Z_v, .inl (Y 1, Z_m, .inl Z_f))] := hD
  obtain ⟨locs, hlo⟩ : ∃ locs : List Loc, locs = [] := ⟨_, rfl⟩
  have hS : va_S A s.heap H locs := by rw [hlo]; exact hS
  have hl := lv_entry ([.ref (a 0), .int x1]) (n := 3) (Nat.le_of_ble_eq_true rfl)
  rw [lg_entry_eq]
  generalize (lg_sl ([.ref (a 0), .int x1]) ++ List.replicate (3 - (lg_sl ([.ref (a 0), .int x1])).length) Slot.unset).toArray = ls at hl ⊢
  have hl : lv_has ls 3 [(0, .ref (a 0)), (1, .int x1)] := hl
  refine wk_start hHe hlo ?_
  rw [f_J5_ensureCapacityInternal_d00df] at hf
  refine lv_aload_n hx hb dJ5_ensureCapacityInternal_d00df_0 rfl (lv_at hl 0 rfl) ?_
  refine va_get (D := (dC, dI)) (ci := 1) (v := .ref Z_v) (C := RJ4) (T := TJ4) (N := 4) hx hb hts in_J5_ensureCapacityInternal_d00df_J4 hown hK hP 0 rfl rfl 0 (by decide) (hts _ lk_J5_ensureCapacityInternal_d00df_RJ5_15) (fun _ h9 => h9) rfl dJ5_ensureCapacityInternal_d00df_1 ?_
  refine va_alen (D := (dC, dI)) (v := Int32.ofNat Z_m) hx hb hK hP 1 1 rfl rfl rfl dJ5_ensureCapacityInternal_d00df_4 ?_
  refine lv_aload_n hx hb dJ5_ensureCapacityInternal_d00df_5 rfl (lv_at hl 0 rfl) ?_
  refine va_get (D := (dC, dI)) (ci := 1) (v := .int 0) (C := RJ4) (T := TJ4) (N := 4) hx hb hts in_J5_ensureCapacityInternal_d00df_J4 hown hK hP 0 rfl rfl 1 (by decide) (hts _ lk_J5_ensureCapacityInternal_d00df_RJ5_22) (fun _ h9 => h9) rfl dJ5_ensureCapacityInternal_d00df_6 ?_
  refine lv_ishr hx hb dJ5_ensureCapacityInternal_d00df_9 ?_
  refine lv_istore_n (lv' := [(2, .int (Int32.ofNat Z_m >>> (0 &&& 31))), (0, .ref (a 0)), (1, .int x1)]) hx hb dJ5_ensureCapacityInternal_d00df_10 rfl hl (by decide) rfl (fun ls hl => ?_)
  refine lv_iload_n hx hb dJ5_ensureCapacityInternal_d00df_11 rfl (lv_at hl 2 rfl) ?_
  refine lv_iload_n hx hb dJ5_ensureCapacityInternal_d00df_12 rfl (lv_at hl 0 rfl) ?_
  refine lv_isub hx hb dJ5_ensureCapacityInternal_d00df_13 ?_
  refine lv_if_le (tgt := 38) hx hb dJ5_ensureCapacityInternal_d00df_14 (by decide) (fun q1 => ?_) (fun q1 => ?_)
  · have hf := wk_t hf q1
    obtain ⟨e0, e1⟩ := wke2 hf
    subst e0
    subst e1
    have hP9 := hP.sub (ws' := (wJ4 Y a Z_v Z_m Z_ml Z_n Z_f)) [0, 1] rfl
    have hD9 := hD.sub (ws' := (wJ4 Y a Z_v Z_m Z_ml Z_n Z_f)) [0, 1] (by decide) rfl
    refine W.widen (k := 1) (n := 142) (Nat.le_of_ble_eq_true rfl) (Nat.le_of_ble_eq_true rfl) ?_
    exact W.vret hx hb hr (fun t ht hW => ⟨⟨Z_v, rfl, trivial, by rw [ht]; exact hP9, va_K.moved hW.alike hK, hD9⟩, hS.F ht⟩) hS.2.2 dJ5_ensureCapacityInternal_d00df_38
  · have hf := wk_f hf q1
    refine lv_aload_n hx hb dJ5_ensureCapacityInternal_d00df_17 rfl (lv_at hl 1 rfl) ?_
    refine lv_aload_n hx hb dJ5_ensureCapacityInternal_d00df_18 rfl (lv_at hl 1 rfl) ?_
    refine va_get (D := (dC, dI)) (ci := 1) (v := .ref Z_v) (C := RJ4) (T := TJ4) (N := 4) hx hb hts in_J5_ensureCapacityInternal_d00df_J4 hown hK hP 0 rfl rfl 0 (by decide) (hts _ lk_J5_ensureCapacityInternal_d00df_RJ5_15) (fun _ h9 => h9) rfl dJ5_ensureCapacityInternal_d00df_19 ?_
    refine lv_aload_n hx hb dJ5_ensureCapacityInternal_d00df_22 rfl (lv_at hl 1 rfl) ?_
    refine lv_iload_n hx hb dJ5_ensureCapacityInternal_d00df_23 rfl (lv_at hl 2 rfl) ?_
    obtain ⟨r2, hr3, hf⟩ := wkb1_s hf
    have hPc := hP.sub (ws' := (wJ4 Y a Z_v Z_m Z_ml Z_n Z_f)) [0, 1] rfl
    refine wg_pi (va_Run.run (va_runU (As := [.int x1]) (rest := [.ref Z_v, .ref (a 0)]) ⟨hx, hb, hml, hown, hts⟩ (c_J5_newCapacity_0f7a4 l dC dI Y a Z_v Z_m Z_ml Z_n Z_f x1 r2 hr3) (va_cwU (C := RJ4) 1 hts gJ5_ensureCapacityInternal_d00df_J5_newCapacity_0f7a4_u104J4 rfl rfl rfl rfl (by decide +kernel) ⟨Nat.le_of_ble_eq_true rfl, Nat.le_of_ble_eq_true rfl⟩) ⟨wk_Bb, (va_recv hK hP (ci := 1) (q0 := 0) rfl rfl), wk_Bp hK hPc⟩ rfl rfl hl.1 rfl (lv_room (Nat.le_of_ble_eq_true rfl)) dJ5_ensureCapacityInternal_d00df_24 ⟨Nat.le_of_ble_eq_true rfl, Nat.le_of_ble_eq_true rfl⟩)) ?_
    refine lv_aload_n hx hb dJ5_ensureCapacityInternal_d00df_27 rfl (lv_at hl 1 rfl) ?_
    refine va_get (D := (dC, dI)) (ci := 1) (v := .int 0) (C := RJ4) (T := TJ4) (N := 4) hx hb hts in_J5_ensureCapacityInternal_d00df_J4 hown hK hP 0 rfl rfl 1 (by decide) (hts _ lk_J5_ensureCapacityInternal_d00df_RJ5_22) (fun _ h9 => h9) rfl dJ5_ensureCapacityInternal_d00df_28 ?_
    refine lv_ishl hx hb dJ5_ensureCapacityInternal_d00df_31 ?_
    obtain ⟨w5, w6, hr4, hf⟩ := wkb2_s hf
    have hPc := hP.sub (ws' := [(Z_v, .inl (Y 1, Z_m, .inl Z_f))]) [1] rfl
    have hDc := hD.sub (ws' := [(Z_v, .inl (Y 1, Z_m, .inl Z_f))]) [1] (by decide) rfl
    have hFc := va_free (wc := [(Z_v, .inl (Y 1, Z_m, .inl Z_f))]) hD hS hA [1] rfl
    refine wg_eu (wc := [(Z_v, .inl (Y 1, Z_m, .inl Z_f))]) (w1 := fun u7 => [(Z_v, .inl (Y 1, Z_m, .inl Z_f)), (u7, .inl (Y 1, w5, .inl w6))]) (wr := [(a 0, .inr (1, [.ref Z_v, .int 0, .int Z_ml, .int Z_n]))]) (va_runS (As := [.ref Z_v, .int (r2 <<< (0 &&& 31))]) (rest := [.ref (a 0)]) ⟨hx, hb, hml, hown, hts⟩ (c_J7_copyOf_9075b l dC dI Y (fun _ => Z_v) Z_m Z_f (r2 <<< (0 &&& 31)) H.size w5 w6 hr4) (va_cwS 2 hts gJ5_ensureCapacityInternal_d00df_J7_copyOf_9075b rfl rfl rfl (by decide +kernel) ⟨Nat.le_of_ble_eq_true rfl, Nat.le_of_ble_eq_true rfl⟩) ⟨wk_Eb, wk_Ep hK hPc hDc⟩ rfl rfl hl.1 rfl (lv_room (Nat.le_of_ble_eq_true rfl)) dJ5_ensureCapacityInternal_d00df_32 ⟨Nat.le_of_ble_eq_true rfl, Nat.le_of_ble_eq_true rfl⟩) hP hD hS [1] [0] rfl rfl (by decide) (by decide) (by decide) hFc (fun u7 H locs hP hD hS => ?_)
    have hP : va_P (dC, dI) vwCl [(a 0, .inr (1, [.ref Z_v, .int 0, .int Z_ml, .int Z_n])), (Z_v, .inl (Y 1, Z_m, .inl Z_f)), (u7, .inl (Y 1, w5, .inl w6))] H := hP
    have hD : va_D A [(a 0, .inr (1, [.ref Z_v, .int 0, .int Z_ml, .int Z_n])), (Z_v, .inl (Y 1, Z_m, .inl Z_f)), (u7, .inl (Y 1, w5, .inl w6))] := hD
    refine va_put (D := (dC, dI)) (ci := 1) (v := .ref u7) (ty := .array .byte) (C := RJ4) (T := TJ4) (N := 4) hx hb hts in_J5_ensureCapacityInternal_d00df_J4 tyJ4 tyJ4_ok nmJ4 hown hK hP hD hS 0 rfl rfl 0 (by decide) (hts _ lk_J5_ensureCapacityInternal_d00df_RJ5_15) (fun _ h9 => h9) rfl (by decide +kernel) rfl rfl (Nat.le_of_ble_eq_true rfl) dJ5_ensureCapacityInternal_d00df_35 (fun H locs hP hD hS => ?_)
    have hP : va_P (dC, dI) vwCl [(a 0, .inr (1, [.ref u7, .int 0, .int Z_ml, .int Z_n])), (Z_v, .inl (Y 1, Z_m, .inl Z_f)), (u7, .inl (Y 1, w5, .inl w6))] H := hP
    have hD : va_D A [(a 0, .inr (1, [.ref u7, .int 0, .int Z_ml, .int Z_n])), (Z_v, .inl (Y 1, Z_m, .inl Z_f)), (u7, .inl (Y 1, w5, .inl w6))] := hD
    obtain ⟨e0, e1⟩ := wke2 hf
    subst e0
    subst e1
    have hP9 := hP.sub (ws' := (wJ4 Y a u7 w5 Z_ml Z_n w6)) [0, 2] rfl
    have hD9 := hD.sub (ws' := (wJ4 Y a u7 w5 Z_ml Z_n w6)) [0, 2] (by decide) rfl
    refine W.widen (k := 1) (n := 142) (Nat.le_of_ble_eq_true rfl) (Nat.le_of_ble_eq_true rfl) ?_
    exact W.vret hx hb hr (fun t ht hW => ⟨⟨u7, rfl, trivial, by rw [ht]; exact hP9, va_K.moved hW.alike hK, hD9⟩, hS.F ht⟩) hS.2.2 dJ5_ensureCapacityInternal_d00df_38
theorem lk_J5_isLatin1_aae02_RJ5_18 : Cond.fieldLink RJ5 18 "java/lang/String" "COMPACT_STRINGS" "Z" ∈ wsJ5_isLatin1_aae02 := by decide +kernel
theorem lk_J5_isLatin1_aae02_RJ5_22 : Cond.fieldLink RJ5 22 "java/lang/AbstractStringBuilder" "coder" "B" ∈ wsJ5_isLatin1_aae02 := by decide +kernel
theorem in_J5_isLatin1_aae02_J4 : ∀ w ∈ u_ws RJ4 TJ4 4, w ∈ wsJ5_isLatin1_aae02 := by decide +kernel
def f_J5_isLatin1_aae02  : Option (Int32) :=
  some (1)
set_option maxHeartbeats 4000000 in
set_option maxRecDepth 100000 in
theorem c_J5_isLatin1_aae02 (l : Launch) (dC : Nat → ClassId) (dI : Nat → Nat → Nat) (Y : Nat → ClassId) (g : Nat → Nat → Nat) (a : Nat → Nat) (Z_v : Nat) (Z_m : Nat) (Z_ml : Int32) (Z_n : Int32) (Z_f : Nat → Int32)  (r : Int32) (hf : f_J5_isLatin1_aae02  = some (r)) : Met l yJ5_isLatin1_aae02 wsJ5_isLatin1_aae02 ({ frames := 0, cells := 0, slots := 0, locals := 0 } : Room) (va_Pc [.ref (a 0)] (wk_BT (dC, dI) Y g (wJ4 Y a Z_v Z_m Z_ml Z_n Z_f))) (vp_Si (fun r2 => r2 = r)) 0 0 (fun _ => False) := by
  refine Met.ofW (cc := cJ5_isLatin1_aae02) (maxL := 1) (ret := (some .boolean)) (by decide) rfl ?_
  intro p e s m args below meth c s₁ B hml hv
  obtain ⟨rfl, ⟨hP, hK⟩, hT⟩ := hv
  have hx := B.exec
  have hb := B.bytes
  have hr := B.returns
  have hts := atoms_spec (ws := wsJ5_isLatin1_aae02) B.pre
  have hown : s.vm.findClass RJ5 = some m.cls := findClass_of_methodNamed B.named
  have hlocks := B.notSynchronized
  have C0 : wk_C p s m _ meth c cJ5_isLatin1_aae02 1 (some .boolean) wsJ5_isLatin1_aae02 RJ5 := ⟨hx, hb, hml, hr, hlocks, hown, hts⟩
  have hP : va_P (dC, dI) vwCl [(a 0, .inr (1, [.ref Z_v, .int 0, .int Z_ml, .int Z_n])), (Z_v, .inl (Y 1, Z_m, .inl Z_f))] s.heap := hP
  have hS : va_S (fun _ : Nat => False) s.heap s.heap [] := va_S.rf
  have hl := lv_entry ([.ref (a 0)]) (n := 1) (Nat.le_of_ble_eq_true rfl)
  rw [lg_entry_eq]
  generalize (lg_sl ([.ref (a 0)]) ++ List.replicate (1 - (lg_sl ([.ref (a 0)])).length) Slot.unset).toArray = ls at hl ⊢
  have hl : lv_has ls 1 [(0, .ref (a 0))] := hl
  rw [f_J5_isLatin1_aae02] at hf
  refine va_gets (v := .int 1) hx hb hT.2.2.2.2.2.2.2.2.1 hS hown (hts _ lk_J5_isLatin1_aae02_RJ5_18) (fun _ h9 => h9) dJ5_isLatin1_aae02_0 ?_
  refine lv_if_eq (tgt := 17) hx hb dJ5_isLatin1_aae02_3 (by decide) (fun q9 => absurd q9 (by decide)) (fun _ => ?_)
  refine lv_aload_n hx hb dJ5_isLatin1_aae02_6 rfl (lv_at hl 0 rfl) ?_
  refine va_get (D := (dC, dI)) (ci := 1) (v := .int 0) (C := RJ4) (T := TJ4) (N := 4) hx hb hts in_J5_isLatin1_aae02_J4 hown hK hP 0 rfl rfl 1 (by decide) (hts _ lk_J5_isLatin1_aae02_RJ5_22) (fun _ h9 => h9) rfl dJ5_isLatin1_aae02_7 ?_
  refine lv_if_ne (tgt := 17) hx hb dJ5_isLatin1_aae02_10 (by decide) (fun q9 => absurd q9 (by decide)) (fun _ => ?_)
  refine lv_iconst (v := 1) hx hb dJ5_isLatin1_aae02_13 (by decide) ?_
  refine lv_goto (tgt := 18) hx hb dJ5_isLatin1_aae02_14 (by decide) ?_
  have e0 := wke1 hf
  subst e0
  exact W.zret (v := 1) (ty := .boolean) hx hb hr rfl (fun t ht hW => ⟨1, rfl, rfl, ht⟩) (fun q h => absurd h List.not_mem_nil) dJ5_isLatin1_aae02_18
def f_J1_canEncode_fc78d (x0 : Int32) : Option (Int32) :=
  if (255 : Int32) < x0 then
    (some (0))
  else
    (some (1))
set_option maxHeartbeats 4000000 in
set_option maxRecDepth 100000 in
theorem c_J1_canEncode_fc78d (l : Launch) (dC : Nat → ClassId) (dI : Nat → Nat → Nat) (Y : Nat → ClassId)   (x0 : Int32) (r : Int32) (hf : f_J1_canEncode_fc78d x0 = some (r)) : Met l yJ1_canEncode_fc78d wsJ1_canEncode_fc78d ({ frames := 0, cells := 0, slots := 0, locals := 0 } : Room) (va_Pc [.int x0] (wk_B (dC, dI) Y ([] : va_W))) (vp_Si (fun r2 => r2 = r)) 0 0 (fun _ => False) := by
  refine Met.ofW (cc := cJ1_canEncode_fc78d) (maxL := 1) (ret := (some .boolean)) (by decide) rfl ?_
  intro p e s m args below meth c s₁ B hml hv
  obtain ⟨rfl, hP, hK⟩ := hv
  have hx := B.exec
  have hb := B.bytes
  have hr := B.returns
  have hts := atoms_spec (ws := wsJ1_canEncode_fc78d) B.pre
  have hown : s.vm.findClass RJ1 = some m.cls := findClass_of_methodNamed B.named
  have hlocks := B.notSynchronized
  have C0 : wk_C p s m _ meth c cJ1_canEncode_fc78d 1 (some .boolean) wsJ1_canEncode_fc78d RJ1 := ⟨hx, hb, hml, hr, hlocks, hown, hts⟩
  have hP : va_P (dC, dI) vwCl [] s.heap := hP
  have hl := lv_entry ([.int x0]) (n := 1) (Nat.le_of_ble_eq_true rfl)
  rw [lg_entry_eq]
  generalize (lg_sl ([.int x0]) ++ List.replicate (1 - (lg_sl ([.int x0])).length) Slot.unset).toArray = ls at hl ⊢
  have hl : lv_has ls 1 [(0, .int x0)] := hl
  rw [f_J1_canEncode_fc78d] at hf
  refine lv_iload_n hx hb dJ1_canEncode_fc78d_0 rfl (lv_at hl 0 rfl) ?_
  refine lv_sipush (v := 255) hx hb dJ1_canEncode_fc78d_1 (by decide) ?_
  refine lv_icmp_gt (tgt := 11) hx hb dJ1_canEncode_fc78d_4 (by decide) (fun q1 => ?_) (fun q1 => ?_)
  · have hf := wk_t hf q1
    refine lv_iconst (v := 0) hx hb dJ1_canEncode_fc78d_11 (by decide) ?_
    have e0 := wke1 hf
    subst e0
    exact W.zret (v := 0) (ty := .boolean) hx hb hr rfl (fun t ht hW => ⟨0, rfl, rfl, ht⟩) (fun q h => absurd h List.not_mem_nil) dJ1_canEncode_fc78d_12
  · have hf := wk_f hf q1
    refine lv_iconst (v := 1) hx hb dJ1_canEncode_fc78d_7 (by decide) ?_
    refine lv_goto (tgt := 12) hx hb dJ1_canEncode_fc78d_8 (by decide) ?_
    have e0 := wke1 hf
    subst e0
    exact W.zret (v := 1) (ty := .boolean) hx hb hr rfl (fun t ht hW => ⟨1, rfl, rfl, ht⟩) (fun q h => absurd h List.not_mem_nil) dJ1_canEncode_fc78d_12
theorem lk_J5_append_3fe6f_RJ5_15 : Cond.fieldLink RJ5 15 "java/lang/AbstractStringBuilder" "value" "[B" ∈ wsJ5_append_3fe6f := by decide +kernel
theorem lk_J5_append_3fe6f_RJ5_79 : Cond.fieldLink RJ5 79 "java/lang/AbstractStringBuilder" "count" "I" ∈ wsJ5_append_3fe6f := by decide +kernel
theorem in_J5_append_3fe6f_J4 : ∀ w ∈ u_ws RJ4 TJ4 4, w ∈ wsJ5_append_3fe6f := by decide +kernel
def f_J5_append_3fe6f (Z_m : Nat) (Z_n : Int32) (Z_f : Nat → Int32) (x1 : Int32) : Option (Nat × Int32 × (Nat → Int32)) :=
  wkb2 (f_J5_ensureCapacityInternal_d00df Z_m Z_f (Z_n + 1)) (fun w1 w2 =>
  wkb1 (f_J5_isLatin1_aae02) (fun r5 =>
  if r5 = 0 then
    (none)
  else
    (wkb1 (f_J1_canEncode_fc78d x1) (fun r8 =>
    if r8 = 0 then
      (none)
    else
      (wkl ((Z_n + 1)) (fun v11 =>
      gin Z_n w1 (wkl (upd w2 Z_n.toNatClampNeg (vp_nar .byte ((x1).toInt8.toInt32))) (fun g12 =>
      some (w1, v11, g12)))))))))
set_option maxHeartbeats 4000000 in
set_option maxRecDepth 100000 in
theorem c_J5_append_3fe6f (l : Launch) (dC : Nat → ClassId) (dI : Nat → Nat → Nat) (Y : Nat → ClassId) (g : Nat → Nat → Nat) (a : Nat → Nat) (Z_v : Nat) (Z_m : Nat) (Z_ml : Int32) (Z_n : Int32) (Z_f : Nat → Int32) (x1 : Int32) (sz : Nat) (zZ_m : Nat) (zZ_n : Int32) (zZ_f : Nat → Int32) (hf : f_J5_append_3fe6f Z_m Z_n Z_f x1 = some (zZ_m, zZ_n, zZ_f)) : Met l yJ5_append_3fe6f wsJ5_append_3fe6f ({ frames := 4, cells := 1, slots := 142, locals := 244 } : Room) (va_Pc [.ref (a 0), .int x1] (wk_ET (dC, dI) Y g (wJ4 Y a Z_v Z_m Z_ml Z_n Z_f) sz)) (va_Qr (fun (_ : Nat) => True) (fun u9 ra t => ra = a 0 ∧ wk_X (dC, dI) Y (wJ4 Y a u9 zZ_m Z_ml zZ_n zZ_f) (va_A (wJ4 Y a Z_v Z_m Z_ml Z_n Z_f) sz) t) (va_A (wJ4 Y a Z_v Z_m Z_ml Z_n Z_f) sz)) 1 142 (va_A (wJ4 Y a Z_v Z_m Z_ml Z_n Z_f) sz) := by
  refine Met.ofW (cc := cJ5_append_3fe6f) (maxL := 2) (ret := (some (.object "java/lang/AbstractStringBuilder"))) (by decide) rfl ?_
  intro p e s m args below meth c s₁ B hml hv
  obtain ⟨rfl, ⟨hsz, hP, hK, hD0⟩, hT⟩ := hv
  have hx := B.exec
  have hb := B.bytes
  have hr := B.returns
  have hts := atoms_spec (ws := wsJ5_append_3fe6f) B.pre
  have hown : s.vm.findClass RJ5 = some m.cls := findClass_of_methodNamed B.named
  have hlocks := B.notSynchronized
  have C0 : wk_C p s m _ meth c cJ5_append_3fe6f 2 (some (.object "java/lang/AbstractStringBuilder")) wsJ5_append_3fe6f RJ5 := ⟨hx, hb, hml, hr, hlocks, hown, hts⟩
  subst hsz
  have hD := hD0.self (sz := s.heap.size)
  generalize hAe : va_A (wJ4 Y a Z_v Z_m Z_ml Z_n Z_f) s.heap.size = A at hD hT ⊢
  have hA : ∀ q : Nat, s.heap.size ≤ q → A q := fun q h => by rw [← hAe]; exact Or.inr h
  have hS : va_S A s.heap s.heap [] := va_S.rf
  obtain ⟨H, hHe⟩ : ∃ H, H = s.heap := ⟨_, rfl⟩
  have hS : va_S A s.heap H [] := by rw [hHe]; exact hS
  have hP : va_P (dC, dI) vwCl [(a 0, .inr (1, [.ref Z_v, .int 0, .int Z_ml, .int Z_n])), (Z_v, .inl (Y 1, Z_m, .inl Z_f))] H := by rw [hHe]; exact hP
  have hD : va_D A [(a 0, .inr (1, [.ref Z_v, .int 0, .int Z_ml, .int Z_n])), (Z_v, .inl (Y 1, Z_m, .inl Z_f))] := hD
  obtain ⟨locs, hlo⟩ : ∃ locs : List Loc, locs = [] := ⟨_, rfl⟩
  have hS : va_S A s.heap H locs := by rw [hlo]; exact hS
  have hl := lv_entry ([.ref (a 0), .int x1]) (n := 2) (Nat.le_of_ble_eq_true rfl)
  rw [lg_entry_eq]
  generalize (lg_sl ([.ref (a 0), .int x1]) ++ List.replicate (2 - (lg_sl ([.ref (a 0), .int x1])).length) Slot.unset).toArray = ls at hl ⊢
  have hl : lv_has ls 2 [(0, .ref (a 0)), (1, .int x1)] := hl
  refine wk_start hHe hlo ?_
  rw [f_J5_append_3fe6f] at hf
  refine lv_aload_n hx hb dJ5_append_3fe6f_0 rfl (lv_at hl 0 rfl) ?_
  refine lv_aload_n hx hb dJ5_append_3fe6f_1 rfl (lv_at hl 0 rfl) ?_
  refine va_get (D := (dC, dI)) (ci := 1) (v := .int Z_n) (C := RJ4) (T := TJ4) (N := 4) hx hb hts in_J5_append_3fe6f_J4 hown hK hP 0 rfl rfl 3 (by decide) (hts _ lk_J5_append_3fe6f_RJ5_79) (fun _ h9 => h9) rfl dJ5_append_3fe6f_2 ?_
  refine lv_iconst (v := 1) hx hb dJ5_append_3fe6f_5 (by decide) ?_
  refine lv_iadd hx hb dJ5_append_3fe6f_6 ?_
  obtain ⟨w1, w2, hr3, hf⟩ := wkb2_s hf
  have hPc := hP.sub (ws' := (wJ4 Y a Z_v Z_m Z_ml Z_n Z_f)) [0, 1] rfl
  have hDc := hD.sub (ws' := (wJ4 Y a Z_v Z_m Z_ml Z_n Z_f)) [0, 1] (by decide) rfl
  have hFc := va_free (wc := (wJ4 Y a Z_v Z_m Z_ml Z_n Z_f)) hD hS hA [0, 1] rfl
  refine wg_ev (wc := (wJ4 Y a Z_v Z_m Z_ml Z_n Z_f)) (w1 := fun (u4 : Nat) => (wJ4 Y a u4 w1 Z_ml Z_n w2)) (wr := []) (va_runU (As := [.int (Z_n + 1)]) (rest := []) ⟨hx, hb, hml, hown, hts⟩ (c_J5_ensureCapacityInternal_d00df l dC dI Y a Z_v Z_m Z_ml Z_n Z_f (Z_n + 1) H.size w1 w2 hr3) (va_cwU (C := RJ4) 1 hts gJ5_append_3fe6f_J5_ensureCapacityInternal_d00df_u100J4 rfl rfl rfl rfl (by decide +kernel) ⟨Nat.le_of_ble_eq_true rfl, Nat.le_of_ble_eq_true rfl⟩) ⟨wk_Eb, (va_recv hK hP (ci := 1) (q0 := 0) rfl rfl), wk_Ep hK hPc hDc⟩ rfl rfl hl.1 rfl (lv_room (Nat.le_of_ble_eq_true rfl)) dJ5_append_3fe6f_7 ⟨Nat.le_of_ble_eq_true rfl, Nat.le_of_ble_eq_true rfl⟩) hP hD hS [0, 1] [] rfl rfl (by decide) (by decide) (by decide) hFc (fun u4 H locs hP hD hS => ?_)
  have hP : va_P (dC, dI) vwCl [(a 0, .inr (1, [.ref u4, .int 0, .int Z_ml, .int Z_n])), (u4, .inl (Y 1, w1, .inl w2))] H := hP
  have hD : va_D A [(a 0, .inr (1, [.ref u4, .int 0, .int Z_ml, .int Z_n])), (u4, .inl (Y 1, w1, .inl w2))] := hD
  refine lv_aload_n hx hb dJ5_append_3fe6f_10 rfl (lv_at hl 0 rfl) ?_
  obtain ⟨r5, hr6, hf⟩ := wkb1_s hf
  have hPc := hP.sub (ws' := (wJ4 Y a u4 w1 Z_ml Z_n w2)) [0, 1] rfl
  refine wg_pi (va_Run.run (va_runU (As := []) (rest := []) ⟨hx, hb, hml, hown, hts⟩ (c_J5_isLatin1_aae02 l dC dI Y g a u4 w1 Z_ml Z_n w2 r5 hr6) (va_cwU (C := RJ4) 0 hts gJ5_append_3fe6f_J5_isLatin1_aae02_u83J4 rfl rfl rfl rfl (by decide +kernel) ⟨Nat.le_of_ble_eq_true rfl, Nat.le_of_ble_eq_true rfl⟩) ⟨wk_BTb, (va_recv hK hP (ci := 1) (q0 := 0) rfl rfl), wk_BTp hK hPc hT hS⟩ rfl rfl hl.1 rfl (lv_room (Nat.le_of_ble_eq_true rfl)) dJ5_append_3fe6f_11 ⟨Nat.le_of_ble_eq_true rfl, Nat.le_of_ble_eq_true rfl⟩)) ?_
  refine lv_if_eq (tgt := 45) hx hb dJ5_append_3fe6f_14 (by decide) (fun q7 => ?_) (fun q7 => ?_)
  · have hf := wk_t hf q7
    cases hf
  · have hf := wk_f hf q7
    refine lv_iload_n hx hb dJ5_append_3fe6f_17 rfl (lv_at hl 1 rfl) ?_
    obtain ⟨r8, hr9, hf⟩ := wkb1_s hf
    have hPc := hP.sub (ws' := ([] : va_W)) [] rfl
    refine wk_si (As := [.int x1]) (rest := []) ⟨hx, hb, hml, hown, hts⟩ (c_J1_canEncode_fc78d l dC dI Y x1 r8 hr9) (va_cwS 1 hts gJ5_append_3fe6f_J1_canEncode_fc78d rfl rfl rfl (by decide +kernel) ⟨Nat.le_of_ble_eq_true rfl, Nat.le_of_ble_eq_true rfl⟩) hK hPc rfl hl.1 rfl (Nat.le_of_ble_eq_true rfl) dJ5_append_3fe6f_18 ⟨Nat.le_of_ble_eq_true rfl, Nat.le_of_ble_eq_true rfl⟩ ?_
    refine lv_if_eq (tgt := 45) hx hb dJ5_append_3fe6f_21 (by decide) (fun q10 => ?_) (fun q10 => ?_)
    · have hf := wk_t hf q10
      cases hf
    · have hf := wk_f hf q10
      refine lv_aload_n hx hb dJ5_append_3fe6f_24 rfl (lv_at hl 0 rfl) ?_
      refine va_get (D := (dC, dI)) (ci := 1) (v := .ref u4) (C := RJ4) (T := TJ4) (N := 4) hx hb hts in_J5_append_3fe6f_J4 hown hK hP 0 rfl rfl 0 (by decide) (hts _ lk_J5_append_3fe6f_RJ5_15) (fun _ h9 => h9) rfl dJ5_append_3fe6f_25 ?_
      refine lv_aload_n hx hb dJ5_append_3fe6f_28 rfl (lv_at hl 0 rfl) ?_
      refine lv_dup hx hb dJ5_append_3fe6f_29 rfl ?_
      refine va_get (D := (dC, dI)) (ci := 1) (v := .int Z_n) (C := RJ4) (T := TJ4) (N := 4) hx hb hts in_J5_append_3fe6f_J4 hown hK hP 0 rfl rfl 3 (by decide) (hts _ lk_J5_append_3fe6f_RJ5_79) (fun _ h9 => h9) rfl dJ5_append_3fe6f_30 ?_
      refine lv_dup_x1 hx hb dJ5_append_3fe6f_33 rfl rfl ?_
      refine lv_iconst (v := 1) hx hb dJ5_append_3fe6f_34 (by decide) ?_
      refine lv_iadd hx hb dJ5_append_3fe6f_35 ?_
      refine lv_topi (fun v11 ev11 => ?_)
      have hf := wkl_s hf ev11
      refine va_put (D := (dC, dI)) (ci := 1) (v := .int v11) (ty := .int) (C := RJ4) (T := TJ4) (N := 4) hx hb hts in_J5_append_3fe6f_J4 tyJ4 tyJ4_ok nmJ4 hown hK hP hD hS 0 rfl rfl 3 (by decide) (hts _ lk_J5_append_3fe6f_RJ5_79) (fun _ h9 => h9) rfl (by decide +kernel) rfl rfl (Nat.le_of_ble_eq_true rfl) dJ5_append_3fe6f_36 (fun H locs hP hD hS => ?_)
      have hP : va_P (dC, dI) vwCl [(a 0, .inr (1, [.ref u4, .int 0, .int Z_ml, .int v11])), (u4, .inl (Y 1, w1, .inl w2))] H := hP
      have hD : va_D A [(a 0, .inr (1, [.ref u4, .int 0, .int Z_ml, .int v11])), (u4, .inl (Y 1, w1, .inl w2))] := hD
      refine lv_iload_n hx hb dJ5_append_3fe6f_39 rfl (lv_at hl 1 rfl) ?_
      refine lv_i2b hx hb dJ5_append_3fe6f_40 rfl ?_
      obtain ⟨h13, hf⟩ := gin_s hf
      refine wk_bast hx hb hK hP hD hS 1 1 (k := Z_n.toNatClampNeg) rfl rfl h13 rfl dJ5_append_3fe6f_41 (fun g12 H locs eg12 hP hD hS => ?_)
      have hP : va_P (dC, dI) vwCl [(a 0, .inr (1, [.ref u4, .int 0, .int Z_ml, .int v11])), (u4, .inl (Y 1, w1, .inl g12))] H := hP
      have hD : va_D A [(a 0, .inr (1, [.ref u4, .int 0, .int Z_ml, .int v11])), (u4, .inl (Y 1, w1, .inl g12))] := hD
      have hf := wkl_s hf eg12
      refine lv_goto (tgt := 75) hx hb dJ5_append_3fe6f_42 (by decide) ?_
      refine lv_aload_n hx hb dJ5_append_3fe6f_75 rfl (lv_at hl 0 rfl) ?_
      obtain ⟨e0, e1, e2⟩ := wke3 hf
      subst e0
      subst e1
      subst e2
      have hP9 := hP.sub (ws' := (wJ4 Y a u4 w1 Z_ml v11 g12)) [0, 1] rfl
      have hD9 := hD.sub (ws' := (wJ4 Y a u4 w1 Z_ml v11 g12)) [0, 1] (by decide) rfl
      refine W.widen (k := 1) (n := 142) (Nat.le_of_ble_eq_true rfl) (Nat.le_of_ble_eq_true rfl) ?_
      exact W.aret (v := .ref (a 0)) hx hb hr (Or.inl ⟨_, rfl⟩) (Or.inr ⟨_, rfl⟩) (fun t ht hW => ⟨⟨u4, a 0, rfl, trivial, rfl, by rw [ht]; exact hP9, va_K.moved hW.alike hK, hD9⟩, hS.F ht⟩) hS.2.2 dJ5_append_3fe6f_76
def f_J4_append_cf468 (Z_m : Nat) (Z_n : Int32) (Z_f : Nat → Int32) (x1 : Int32) : Option (Nat × Int32 × (Nat → Int32)) :=
  wkb3 (f_J5_append_3fe6f Z_m Z_n Z_f x1) (fun w2 w3 w4 =>
  some (w2, w3, w4))
set_option maxHeartbeats 4000000 in
set_option maxRecDepth 100000 in
theorem c_J4_append_cf468 (l : Launch) (dC : Nat → ClassId) (dI : Nat → Nat → Nat) (Y : Nat → ClassId) (g : Nat → Nat → Nat) (a : Nat → Nat) (Z_v : Nat) (Z_m : Nat) (Z_ml : Int32) (Z_n : Int32) (Z_f : Nat → Int32) (x1 : Int32) (sz : Nat) (zZ_m : Nat) (zZ_n : Int32) (zZ_f : Nat → Int32) (hf : f_J4_append_cf468 Z_m Z_n Z_f x1 = some (zZ_m, zZ_n, zZ_f)) : Met l yJ4_append_cf468 wsJ4_append_cf468 ({ frames := 5, cells := 1, slots := 142, locals := 265 } : Room) (va_Pc [.ref (a 0), .int x1] (wk_ET (dC, dI) Y g (wJ4 Y a Z_v Z_m Z_ml Z_n Z_f) sz)) (va_Qr (fun (_ : Nat) => True) (fun u9 ra t => ra = a 0 ∧ wk_X (dC, dI) Y (wJ4 Y a u9 zZ_m Z_ml zZ_n zZ_f) (va_A (wJ4 Y a Z_v Z_m Z_ml Z_n Z_f) sz) t) (va_A (wJ4 Y a Z_v Z_m Z_ml Z_n Z_f) sz)) 1 142 (va_A (wJ4 Y a Z_v Z_m Z_ml Z_n Z_f) sz) := by
  refine Met.ofW (cc := cJ4_append_cf468) (maxL := 2) (ret := (some (.object "java/lang/StringBuilder"))) (by decide) rfl ?_
  intro p e s m args below meth c s₁ B hml hv
  obtain ⟨rfl, ⟨hsz, hP, hK, hD0⟩, hT⟩ := hv
  have hx := B.exec
  have hb := B.bytes
  have hr := B.returns
  have hts := atoms_spec (ws := wsJ4_append_cf468) B.pre
  have hown : s.vm.findClass RJ4 = some m.cls := findClass_of_methodNamed B.named
  have hlocks := B.notSynchronized
  have C0 : wk_C p s m _ meth c cJ4_append_cf468 2 (some (.object "java/lang/StringBuilder")) wsJ4_append_cf468 RJ4 := ⟨hx, hb, hml, hr, hlocks, hown, hts⟩
  subst hsz
  have hD := hD0.self (sz := s.heap.size)
  generalize hAe : va_A (wJ4 Y a Z_v Z_m Z_ml Z_n Z_f) s.heap.size = A at hD hT ⊢
  have hA : ∀ q : Nat, s.heap.size ≤ q → A q := fun q h => by rw [← hAe]; exact Or.inr h
  have hS : va_S A s.heap s.heap [] := va_S.rf
  obtain ⟨H, hHe⟩ : ∃ H, H = s.heap := ⟨_, rfl⟩
  have hS : va_S A s.heap H [] := by rw [hHe]; exact hS
  have hP : va_P (dC, dI) vwCl [(a 0, .inr (1, [.ref Z_v, .int 0, .int Z_ml, .int Z_n])), (Z_v, .inl (Y 1, Z_m, .inl Z_f))] H := by rw [hHe]; exact hP
  have hD : va_D A [(a 0, .inr (1, [.ref Z_v, .int 0, .int Z_ml, .int Z_n])), (Z_v, .inl (Y 1, Z_m, .inl Z_f))] := hD
  obtain ⟨locs, hlo⟩ : ∃ locs : List Loc, locs = [] := ⟨_, rfl⟩
  have hS : va_S A s.heap H locs := by rw [hlo]; exact hS
  have hl := lv_entry ([.ref (a 0), .int x1]) (n := 2) (Nat.le_of_ble_eq_true rfl)
  rw [lg_entry_eq]
  generalize (lg_sl ([.ref (a 0), .int x1]) ++ List.replicate (2 - (lg_sl ([.ref (a 0), .int x1])).length) Slot.unset).toArray = ls at hl ⊢
  have hl : lv_has ls 2 [(0, .ref (a 0)), (1, .int x1)] := hl
  refine wk_start hHe hlo ?_
  rw [f_J4_append_cf468] at hf
  refine lv_aload_n hx hb dJ4_append_cf468_0 rfl (lv_at hl 0 rfl) ?_
  refine lv_iload_n hx hb dJ4_append_cf468_1 rfl (lv_at hl 1 rfl) ?_
  obtain ⟨w2, w3, w4, hr5, hf⟩ := wkb3_s hf
  have hPc := hP.sub (ws' := (wJ4 Y a Z_v Z_m Z_ml Z_n Z_f)) [0, 1] rfl
  have hDc := hD.sub (ws' := (wJ4 Y a Z_v Z_m Z_ml Z_n Z_f)) [0, 1] (by decide) rfl
  have hFc := va_free (wc := (wJ4 Y a Z_v Z_m Z_ml Z_n Z_f)) hD hS hA [0, 1] rfl
  refine wg_er (wc := (wJ4 Y a Z_v Z_m Z_ml Z_n Z_f)) (w1 := fun (u6 : Nat) => (wJ4 Y a u6 w2 Z_ml w3 w4)) (wr := []) (va_runSU (hK.1 1 _ rfl).2 (As := [.int x1]) (rest := []) ⟨hx, hb, hml, hown, hts⟩ (c_J5_append_3fe6f l dC dI Y g a Z_v Z_m Z_ml Z_n Z_f x1 H.size w2 w3 w4 hr5) (va_cwSU 1 hts gJ4_append_cf468_J5_append_3fe6f_s50 rfl rfl rfl (by decide +kernel) ⟨Nat.le_of_ble_eq_true rfl, Nat.le_of_ble_eq_true rfl⟩) ⟨wk_ETb, (va_recv hK hP (ci := 1) (q0 := 0) rfl rfl), wk_ETp hK hPc hDc hT hS hFc⟩ rfl rfl hl.1 rfl (lv_room (Nat.le_of_ble_eq_true rfl)) dJ4_append_cf468_2 ⟨Nat.le_of_ble_eq_true rfl, Nat.le_of_ble_eq_true rfl⟩) hP hD hS [0, 1] [] rfl rfl (by decide) (by decide) (by decide) hFc (fun u6 H locs hP hD hS => ?_)
  have hP : va_P (dC, dI) vwCl [(a 0, .inr (1, [.ref u6, .int 0, .int Z_ml, .int w3])), (u6, .inl (Y 1, w2, .inl w4))] H := hP
  have hD : va_D A [(a 0, .inr (1, [.ref u6, .int 0, .int Z_ml, .int w3])), (u6, .inl (Y 1, w2, .inl w4))] := hD
  refine lv_pop hx hb dJ4_append_cf468_5 rfl ?_
  refine lv_aload_n hx hb dJ4_append_cf468_6 rfl (lv_at hl 0 rfl) ?_
  obtain ⟨e0, e1, e2⟩ := wke3 hf
  subst e0
  subst e1
  subst e2
  have hP9 := hP.sub (ws' := (wJ4 Y a u6 w2 Z_ml w3 w4)) [0, 1] rfl
  have hD9 := hD.sub (ws' := (wJ4 Y a u6 w2 Z_ml w3 w4)) [0, 1] (by decide) rfl
  refine W.widen (k := 1) (n := 142) (Nat.le_of_ble_eq_true rfl) (Nat.le_of_ble_eq_true rfl) ?_
  exact W.aret (v := .ref (a 0)) hx hb hr (Or.inl ⟨_, rfl⟩) (Or.inr ⟨_, rfl⟩) (fun t ht hW => ⟨⟨u6, a 0, rfl, trivial, rfl, by rw [ht]; exact hP9, va_K.moved hW.alike hK, hD9⟩, hS.F ht⟩) hS.2.2 dJ4_append_cf468_7
def f_J6_stringSize_0f7a4_L16  : Nat → Int32 → Int32 → Int32 → Int32 → Option (Int32)
  | 0, _, _, _, _ => none
  | nn + 1, x0, x1, x2, x3 =>
    if (10 : Int32) ≤ x3 then
      (some ((10 + x1)))
    else
      (if x0 ≤ x2 then
        (f_J6_stringSize_0f7a4_L16 nn x0 x1 (10 * x2) (x3 + 1))
      else
        (some ((x3 + x1))))
def f_J6_stringSize_0f7a4 (x0 : Int32) : Option (Int32) :=
  if x0 < 0 then
    (f_J6_stringSize_0f7a4_L16 FU x0 1 (-10) 1)
  else
    (f_J6_stringSize_0f7a4_L16 FU (-x0) 0 (-10) 1)
set_option maxHeartbeats 4000000 in
set_option maxRecDepth 100000 in
theorem wl_J6_stringSize_0f7a4_L16 {p : Program} {l : Launch} {e : Env} {s : State} {m : MethodId} {args : Array Value} {below : List Frame} {meth : Method} {c : Code} {dC : Nat → ClassId} {dI : Nat → Nat → Nat} {Y : Nat → ClassId}    {r : Int32}  (C0 : wk_C p s m args meth c cJ6_stringSize_0f7a4 4 (some .int) wsJ6_stringSize_0f7a4 RJ6) (hK : va_K (dC, dI) vwCl (vTy Y) s) (hP : va_P (dC, dI) vwCl ([] : va_W) s.heap) : ∀ (nn : Nat) (x0 : Int32) (x1 : Int32) (x2 : Int32) (x3 : Int32)  , f_J6_stringSize_0f7a4_L16  nn x0 x1 x2 x3 = some (r) → ∀ (ls : Array Slot), lv_has ls 4 [(0, .int x0), (1, .int x1), (2, .int x2), (3, .int x3)] → W p l e (headSpec wsJ6_stringSize_0f7a4 ({ frames := 0, cells := 0, slots := 0, locals := 0 } : Room)).room s m args below meth c s.heap [] 0 0 (MQ below (vp_Si (fun r2 => r2 = r)) args s 0 0 (fun _ => False)) (F0 m 16 ls []) := by
  have C0 := C0
  obtain ⟨hx, hb, hml, hr, hlocks, hown, hts⟩ := id C0
  intro nn
  induction nn with
  | zero =>
    intro x0 x1 x2 x3 hf
    rw [f_J6_stringSize_0f7a4_L16] at hf
    cases hf
  | succ nn ih =>
    intro x0 x1 x2 x3 hf ls hl
    rw [f_J6_stringSize_0f7a4_L16] at hf
    have hP : va_P (dC, dI) vwCl [] s.heap := hP
    refine lv_iload_n hx hb dJ6_stringSize_0f7a4_16 rfl (lv_at hl 3 rfl) ?_
    refine lv_bipush (v := 10) hx hb dJ6_stringSize_0f7a4_17 (by decide) ?_
    refine lv_icmp_ge (tgt := 42) hx hb dJ6_stringSize_0f7a4_19 (by decide) (fun q1 => ?_) (fun q1 => ?_)
    · have hf := wk_t hf q1
      refine lv_bipush (v := 10) hx hb dJ6_stringSize_0f7a4_42 (by decide) ?_
      refine lv_iload_n hx hb dJ6_stringSize_0f7a4_44 rfl (lv_at hl 1 rfl) ?_
      refine lv_iadd hx hb dJ6_stringSize_0f7a4_45 ?_
      have e0 := wke1 hf
      subst e0
      exact W.iret (v := (10 + x1)) hx hb hr (fun t ht hW => ⟨(10 + x1), rfl, rfl, ht⟩) (fun q h => absurd h List.not_mem_nil) dJ6_stringSize_0f7a4_46
    · have hf := wk_f hf q1
      refine lv_iload_n hx hb dJ6_stringSize_0f7a4_22 rfl (lv_at hl 0 rfl) ?_
      refine lv_iload_n hx hb dJ6_stringSize_0f7a4_23 rfl (lv_at hl 2 rfl) ?_
      refine lv_icmp_le (tgt := 31) hx hb dJ6_stringSize_0f7a4_24 (by decide) (fun q2 => ?_) (fun q2 => ?_)
      · have hf := wk_t hf q2
        refine lv_bipush (v := 10) hx hb dJ6_stringSize_0f7a4_31 (by decide) ?_
        refine lv_iload_n hx hb dJ6_stringSize_0f7a4_33 rfl (lv_at hl 2 rfl) ?_
        refine lv_imul hx hb dJ6_stringSize_0f7a4_34 ?_
        refine lv_istore_n (lv' := [(2, .int (10 * x2)), (0, .int x0), (1, .int x1), (3, .int x3)]) hx hb dJ6_stringSize_0f7a4_35 rfl hl (by decide) rfl (fun ls hl => ?_)
        refine lv_iinc (v := (x3 + 1)) (lv' := [(3, .int (x3 + 1)), (2, .int (10 * x2)), (0, .int x0), (1, .int x1)]) hx hb dJ6_stringSize_0f7a4_36 hl (k := 3) rfl rfl (by decide) rfl (fun ls hl => ?_)
        refine lv_goto (tgt := 16) hx hb dJ6_stringSize_0f7a4_39 (by decide) ?_
        exact ih x0 x1 (10 * x2) (x3 + 1) hf ls (lv_sub hl [2, 3, 1, 0] rfl)
      · have hf := wk_f hf q2
        refine lv_iload_n hx hb dJ6_stringSize_0f7a4_27 rfl (lv_at hl 3 rfl) ?_
        refine lv_iload_n hx hb dJ6_stringSize_0f7a4_28 rfl (lv_at hl 1 rfl) ?_
        refine lv_iadd hx hb dJ6_stringSize_0f7a4_29 ?_
        have e0 := wke1 hf
        subst e0
        exact W.iret (v := (x3 + x1)) hx hb hr (fun t ht hW => ⟨(x3 + x1), rfl, rfl, ht⟩) (fun q h => absurd h List.not_mem_nil) dJ6_stringSize_0f7a4_30
set_option maxHeartbeats 4000000 in
set_option maxRecDepth 100000 in
theorem c_J6_stringSize_0f7a4 (l : Launch) (dC : Nat → ClassId) (dI : Nat → Nat → Nat) (Y : Nat → ClassId)   (x0 : Int32) (r : Int32) (hf : f_J6_stringSize_0f7a4 x0 = some (r)) : Met l yJ6_stringSize_0f7a4 wsJ6_stringSize_0f7a4 ({ frames := 0, cells := 0, slots := 0, locals := 0 } : Room) (va_Pc [.int x0] (wk_B (dC, dI) Y ([] : va_W))) (vp_Si (fun r2 => r2 = r)) 0 0 (fun _ => False) := by
  refine Met.ofW (cc := cJ6_stringSize_0f7a4) (maxL := 4) (ret := (some .int)) (by decide) rfl ?_
  intro p e s m args below meth c s₁ B hml hv
  obtain ⟨rfl, hP, hK⟩ := hv
  have hx := B.exec
  have hb := B.bytes
  have hr := B.returns
  have hts := atoms_spec (ws := wsJ6_stringSize_0f7a4) B.pre
  have hown : s.vm.findClass RJ6 = some m.cls := findClass_of_methodNamed B.named
  have hlocks := B.notSynchronized
  have C0 : wk_C p s m _ meth c cJ6_stringSize_0f7a4 4 (some .int) wsJ6_stringSize_0f7a4 RJ6 := ⟨hx, hb, hml, hr, hlocks, hown, hts⟩
  have hP : va_P (dC, dI) vwCl [] s.heap := hP
  have hl := lv_entry ([.int x0]) (n := 4) (Nat.le_of_ble_eq_true rfl)
  rw [lg_entry_eq]
  generalize (lg_sl ([.int x0]) ++ List.replicate (4 - (lg_sl ([.int x0])).length) Slot.unset).toArray = ls at hl ⊢
  have hl : lv_has ls 4 [(0, .int x0)] := hl
  rw [f_J6_stringSize_0f7a4] at hf
  refine lv_iconst (v := 1) hx hb dJ6_stringSize_0f7a4_0 (by decide) ?_
  refine lv_istore_n (lv' := [(1, .int 1), (0, .int x0)]) hx hb dJ6_stringSize_0f7a4_1 rfl hl (by decide) rfl (fun ls hl => ?_)
  refine lv_iload_n hx hb dJ6_stringSize_0f7a4_2 rfl (lv_at hl 1 rfl) ?_
  refine lv_if_lt (tgt := 11) hx hb dJ6_stringSize_0f7a4_3 (by decide) (fun q1 => ?_) (fun q1 => ?_)
  · have hf := wk_t hf q1
    refine lv_bipush (v := (-10)) hx hb dJ6_stringSize_0f7a4_11 (by decide) ?_
    refine lv_istore_n (lv' := [(2, .int (-10)), (1, .int 1), (0, .int x0)]) hx hb dJ6_stringSize_0f7a4_13 rfl hl (by decide) rfl (fun ls hl => ?_)
    refine lv_iconst (v := 1) hx hb dJ6_stringSize_0f7a4_14 (by decide) ?_
    refine lv_istore_n (lv' := [(3, .int 1), (2, .int (-10)), (1, .int 1), (0, .int x0)]) hx hb dJ6_stringSize_0f7a4_15 rfl hl (by decide) rfl (fun ls hl => ?_)
    exact wl_J6_stringSize_0f7a4_L16 C0 hK hP FU x0 1 (-10) 1 hf ls (lv_sub hl [3, 2, 1, 0] rfl)
  · have hf := wk_f hf q1
    refine lv_iconst (v := 0) hx hb dJ6_stringSize_0f7a4_6 (by decide) ?_
    refine lv_istore_n (lv' := [(1, .int 0), (0, .int x0)]) hx hb dJ6_stringSize_0f7a4_7 rfl hl (by decide) rfl (fun ls hl => ?_)
    refine lv_iload_n hx hb dJ6_stringSize_0f7a4_8 rfl (lv_at hl 1 rfl) ?_
    refine lv_ineg hx hb dJ6_stringSize_0f7a4_9 ?_
    refine lv_istore_n (lv' := [(0, .int (-x0)), (1, .int 0)]) hx hb dJ6_stringSize_0f7a4_10 rfl hl (by decide) rfl (fun ls hl => ?_)
    refine lv_bipush (v := (-10)) hx hb dJ6_stringSize_0f7a4_11 (by decide) ?_
    refine lv_istore_n (lv' := [(2, .int (-10)), (0, .int (-x0)), (1, .int 0)]) hx hb dJ6_stringSize_0f7a4_13 rfl hl (by decide) rfl (fun ls hl => ?_)
    refine lv_iconst (v := 1) hx hb dJ6_stringSize_0f7a4_14 (by decide) ?_
    refine lv_istore_n (lv' := [(3, .int 1), (2, .int (-10)), (0, .int (-x0)), (1, .int 0)]) hx hb dJ6_stringSize_0f7a4_15 rfl hl (by decide) rfl (fun ls hl => ?_)
    exact wl_J6_stringSize_0f7a4_L16 C0 hK hP FU (-x0) 0 (-10) 1 hf ls (lv_sub hl [2, 3, 1, 0] rfl)
theorem lk_J6_getChars_ba4f3_RJ6_83 : Cond.fieldLink RJ6 83 "java/lang/Integer" "DigitOnes" "[B" ∈ wsJ6_getChars_ba4f3 := by decide +kernel
theorem lk_J6_getChars_ba4f3_RJ6_87 : Cond.fieldLink RJ6 87 "java/lang/Integer" "DigitTens" "[B" ∈ wsJ6_getChars_ba4f3 := by decide +kernel
def f_J6_getChars_ba4f3_L22 (A_m : Nat) (x1 : Int32) : Nat → Int32 → Int32 → Int32 → (Nat → Int32) → Option (Int32 × (Nat → Int32))
  | 0, _, _, _, _ => none
  | nn + 1, x0, x5, x6, A_f =>
    if ((-100) : Int32) < x0 then
      (gin (-x0) 100 (gin (x5 + (-1)) A_m (wkl (upd A_f ((x5 + (-1)).toNatClampNeg) (vp_nar .byte (sOne (-x0).toNatClampNeg))) (fun g3 =>
      if ((-9) : Int32) ≤ x0 then
        (if x6 = 0 then
          (some ((x5 + (-1)), g3))
        else
          (gin ((x5 + (-1)) + (-1)) A_m (wkl (upd g3 (((x5 + (-1)) + (-1)).toNatClampNeg) (vp_nar .byte (45 : Int32))) (fun g7 =>
          some (((x5 + (-1)) + (-1)), g7)))))
      else
        (gin (-x0) 100 (gin ((x5 + (-1)) + (-1)) A_m (wkl (upd g3 (((x5 + (-1)) + (-1)).toNatClampNeg) (vp_nar .byte (sTen (-x0).toNatClampNeg))) (fun g10 =>
        if x6 = 0 then
          (some (((x5 + (-1)) + (-1)), g10))
        else
          (gin (((x5 + (-1)) + (-1)) + (-1)) A_m (wkl (upd g10 ((((x5 + (-1)) + (-1)) + (-1)).toNatClampNeg) (vp_nar .byte (45 : Int32))) (fun g13 =>
          some ((((x5 + (-1)) + (-1)) + (-1)), g13))))))))))))
    else
      (gin (((x0 / 100) * 100) - x0) 100 (gin (x5 + (-1)) A_m (wkl (upd A_f ((x5 + (-1)).toNatClampNeg) (vp_nar .byte (sOne (((x0 / 100) * 100) - x0).toNatClampNeg))) (fun g16 =>
      gin (((x0 / 100) * 100) - x0) 100 (gin ((x5 + (-1)) + (-1)) A_m (wkl (upd g16 (((x5 + (-1)) + (-1)).toNatClampNeg) (vp_nar .byte (sTen (((x0 / 100) * 100) - x0).toNatClampNeg))) (fun g19 =>
      f_J6_getChars_ba4f3_L22 A_m x1 nn (x0 / 100) ((x5 + (-1)) + (-1)) x6 g19)))))))
def f_J6_getChars_ba4f3 (A_m : Nat) (A_f : Nat → Int32) (x0 : Int32) (x1 : Int32) : Option (Int32 × (Nat → Int32)) :=
  if (0 : Int32) ≤ x0 then
    (f_J6_getChars_ba4f3_L22 A_m x1 FU (-x0) x1 0 A_f)
  else
    (f_J6_getChars_ba4f3_L22 A_m x1 FU x0 x1 1 A_f)
set_option maxHeartbeats 4000000 in
set_option maxRecDepth 100000 in
theorem wl_J6_getChars_ba4f3_L22 {p : Program} {l : Launch} {e : Env} {s : State} {m : MethodId} {args : Array Value} {below : List Frame} {meth : Method} {c : Code} {dC : Nat → ClassId} {dI : Nat → Nat → Nat} {Y : Nat → ClassId} {a : Nat → Nat} {g : Nat → Nat → Nat} {A_m : Nat} {x1 : Int32} {r : Int32} {zA_f : Nat → Int32}  (C0 : wk_C p s m args meth c cJ6_getChars_ba4f3 7 (some .int) wsJ6_getChars_ba4f3 RJ6) {A : Nat → Prop} (hK : va_K (dC, dI) vwCl (vTy Y) s) (hA : ∀ q, s.heap.size ≤ q → A q) (hT : wk_T g A s s.heap) : ∀ (nn : Nat) (x0 : Int32) (x5 : Int32) (x6 : Int32)  (A_f : Nat → Int32), f_J6_getChars_ba4f3_L22 A_m x1 nn x0 x5 x6 A_f = some (r, zA_f) → ∀ (H : Heap) (locs : List Loc), va_P (dC, dI) vwCl [(a 0, .inl (Y 1, A_m, .inl A_f))] H → va_D A [(a 0, .inl (Y 1, A_m, .inl A_f))] → va_S A s.heap H locs → ∀ (ls : Array Slot), lv_has ls 7 [(0, .int x0), (2, .ref (a 0)), (5, .int x5), (6, .int x6)] → W p l e (headSpec wsJ6_getChars_ba4f3 ({ frames := 0, cells := 0, slots := 0, locals := 0 } : Room)).room s m args below meth c H locs 0 0 (MQ below (va_Qi (fun r2 (_ : Unit) => r2 = r) (fun _ t => wk_X (dC, dI) Y [(a 0, .inl (Y 1, A_m, .inl zA_f))] A t) A) args s 0 0 A) (F0 m 22 ls []) := by
  have C0 := C0
  obtain ⟨hx, hb, hml, hr, hlocks, hown, hts⟩ := id C0
  intro nn
  induction nn with
  | zero =>
    intro x0 x5 x6 A_f hf
    rw [f_J6_getChars_ba4f3_L22] at hf
    cases hf
  | succ nn ih =>
    intro x0 x5 x6 A_f hf H locs hP hD hS ls hl
    rw [f_J6_getChars_ba4f3_L22] at hf
    have hP : va_P (dC, dI) vwCl [(a 0, .inl (Y 1, A_m, .inl A_f))] H := hP
    have hD : va_D A [(a 0, .inl (Y 1, A_m, .inl A_f))] := hD
    refine lv_iload_n hx hb dJ6_getChars_ba4f3_22 rfl (lv_at hl 0 rfl) ?_
    refine lv_bipush (v := (-100)) hx hb dJ6_getChars_ba4f3_23 (by decide) ?_
    refine lv_icmp_gt (tgt := 72) hx hb dJ6_getChars_ba4f3_25 (by decide) (fun q1 => ?_) (fun q1 => ?_)
    · have hf := wk_t hf q1
      refine lv_aload_n hx hb dJ6_getChars_ba4f3_72 rfl (lv_at hl 1 rfl) ?_
      refine lv_iinc (v := (x5 + (-1))) (lv' := [(5, .int (x5 + (-1))), (0, .int x0), (2, .ref (a 0)), (6, .int x6)]) hx hb dJ6_getChars_ba4f3_73 hl (k := 2) rfl rfl (by decide) rfl (fun ls hl => ?_)
      refine lv_iload hx hb dJ6_getChars_ba4f3_76 (lv_at hl 0 rfl) ?_
      refine va_gets (v := .ref (g 4 3)) hx hb hT.2.2.2.2.2.2.2.2.2.2.2.1 hS hown (hts _ lk_J6_getChars_ba4f3_RJ6_83) (fun _ h9 => h9) dJ6_getChars_ba4f3_78 ?_
      refine lv_iload_n hx hb dJ6_getChars_ba4f3_81 rfl (lv_at hl 1 rfl) ?_
      refine lv_ineg hx hb dJ6_getChars_ba4f3_82 ?_
      obtain ⟨h2, hf⟩ := gin_s hf
      refine va_tb hx hb hT.2.2.2.2.2.2.2.2.2.2.2.2.1 hS h2 rfl dJ6_getChars_ba4f3_83 ?_
      obtain ⟨h4, hf⟩ := gin_s hf
      refine wk_bast hx hb hK hP hD hS 0 1 (k := (x5 + (-1)).toNatClampNeg) rfl rfl h4 rfl dJ6_getChars_ba4f3_84 (fun g3 H locs eg3 hP hD hS => ?_)
      have hP : va_P (dC, dI) vwCl [(a 0, .inl (Y 1, A_m, .inl g3))] H := hP
      have hD : va_D A [(a 0, .inl (Y 1, A_m, .inl g3))] := hD
      have hf := wkl_s hf eg3
      refine lv_iload_n hx hb dJ6_getChars_ba4f3_85 rfl (lv_at hl 1 rfl) ?_
      refine lv_bipush (v := (-9)) hx hb dJ6_getChars_ba4f3_86 (by decide) ?_
      refine lv_icmp_ge (tgt := 104) hx hb dJ6_getChars_ba4f3_88 (by decide) (fun q5 => ?_) (fun q5 => ?_)
      · have hf := wk_t hf q5
        refine lv_iload hx hb dJ6_getChars_ba4f3_104 (lv_at hl 3 rfl) ?_
        refine lv_if_eq (tgt := 118) hx hb dJ6_getChars_ba4f3_106 (by decide) (fun q6 => ?_) (fun q6 => ?_)
        · have hf := wk_t hf q6
          refine lv_iload hx hb dJ6_getChars_ba4f3_118 (lv_at hl 0 rfl) ?_
          obtain ⟨e0, e1⟩ := wke2 hf
          subst e0
          subst e1
          have hP9 := hP.sub (ws' := [(a 0, .inl (Y 1, A_m, .inl g3))]) [0] rfl
          have hD9 := hD.sub (ws' := [(a 0, .inl (Y 1, A_m, .inl g3))]) [0] (by decide) rfl
          exact W.iret (v := (x5 + (-1))) hx hb hr (fun t ht hW => ⟨⟨(x5 + (-1)), (), rfl, rfl, by rw [ht]; exact hP9, va_K.moved hW.alike hK, hD9⟩, hS.F ht⟩) hS.2.2 dJ6_getChars_ba4f3_120
        · have hf := wk_f hf q6
          refine lv_aload_n hx hb dJ6_getChars_ba4f3_109 rfl (lv_at hl 2 rfl) ?_
          refine lv_iinc (v := ((x5 + (-1)) + (-1))) (lv' := [(5, .int ((x5 + (-1)) + (-1))), (0, .int x0), (2, .ref (a 0)), (6, .int x6)]) hx hb dJ6_getChars_ba4f3_110 hl (k := 0) rfl rfl (by decide) rfl (fun ls hl => ?_)
          refine lv_iload hx hb dJ6_getChars_ba4f3_113 (lv_at hl 0 rfl) ?_
          refine lv_bipush (v := 45) hx hb dJ6_getChars_ba4f3_115 (by decide) ?_
          obtain ⟨h8, hf⟩ := gin_s hf
          refine wk_bast hx hb hK hP hD hS 0 1 (k := ((x5 + (-1)) + (-1)).toNatClampNeg) rfl rfl h8 rfl dJ6_getChars_ba4f3_117 (fun g7 H locs eg7 hP hD hS => ?_)
          have hP : va_P (dC, dI) vwCl [(a 0, .inl (Y 1, A_m, .inl g7))] H := hP
          have hD : va_D A [(a 0, .inl (Y 1, A_m, .inl g7))] := hD
          have hf := wkl_s hf eg7
          refine lv_iload hx hb dJ6_getChars_ba4f3_118 (lv_at hl 0 rfl) ?_
          obtain ⟨e0, e1⟩ := wke2 hf
          subst e0
          subst e1
          have hP9 := hP.sub (ws' := [(a 0, .inl (Y 1, A_m, .inl g7))]) [0] rfl
          have hD9 := hD.sub (ws' := [(a 0, .inl (Y 1, A_m, .inl g7))]) [0] (by decide) rfl
          exact W.iret (v := ((x5 + (-1)) + (-1))) hx hb hr (fun t ht hW => ⟨⟨((x5 + (-1)) + (-1)), (), rfl, rfl, by rw [ht]; exact hP9, va_K.moved hW.alike hK, hD9⟩, hS.F ht⟩) hS.2.2 dJ6_getChars_ba4f3_120
      · have hf := wk_f hf q5
        refine lv_aload_n hx hb dJ6_getChars_ba4f3_91 rfl (lv_at hl 2 rfl) ?_
        refine lv_iinc (v := ((x5 + (-1)) + (-1))) (lv' := [(5, .int ((x5 + (-1)) + (-1))), (0, .int x0), (2, .ref (a 0)), (6, .int x6)]) hx hb dJ6_getChars_ba4f3_92 hl (k := 0) rfl rfl (by decide) rfl (fun ls hl => ?_)
        refine lv_iload hx hb dJ6_getChars_ba4f3_95 (lv_at hl 0 rfl) ?_
        refine va_gets (v := .ref (g 4 2)) hx hb hT.2.2.2.2.2.2.2.2.2.1 hS hown (hts _ lk_J6_getChars_ba4f3_RJ6_87) (fun _ h9 => h9) dJ6_getChars_ba4f3_97 ?_
        refine lv_iload_n hx hb dJ6_getChars_ba4f3_100 rfl (lv_at hl 1 rfl) ?_
        refine lv_ineg hx hb dJ6_getChars_ba4f3_101 ?_
        obtain ⟨h9, hf⟩ := gin_s hf
        refine va_tb hx hb hT.2.2.2.2.2.2.2.2.2.2.1 hS h9 rfl dJ6_getChars_ba4f3_102 ?_
        obtain ⟨h11, hf⟩ := gin_s hf
        refine wk_bast hx hb hK hP hD hS 0 1 (k := ((x5 + (-1)) + (-1)).toNatClampNeg) rfl rfl h11 rfl dJ6_getChars_ba4f3_103 (fun g10 H locs eg10 hP hD hS => ?_)
        have hP : va_P (dC, dI) vwCl [(a 0, .inl (Y 1, A_m, .inl g10))] H := hP
        have hD : va_D A [(a 0, .inl (Y 1, A_m, .inl g10))] := hD
        have hf := wkl_s hf eg10
        refine lv_iload hx hb dJ6_getChars_ba4f3_104 (lv_at hl 3 rfl) ?_
        refine lv_if_eq (tgt := 118) hx hb dJ6_getChars_ba4f3_106 (by decide) (fun q12 => ?_) (fun q12 => ?_)
        · have hf := wk_t hf q12
          refine lv_iload hx hb dJ6_getChars_ba4f3_118 (lv_at hl 0 rfl) ?_
          obtain ⟨e0, e1⟩ := wke2 hf
          subst e0
          subst e1
          have hP9 := hP.sub (ws' := [(a 0, .inl (Y 1, A_m, .inl g10))]) [0] rfl
          have hD9 := hD.sub (ws' := [(a 0, .inl (Y 1, A_m, .inl g10))]) [0] (by decide) rfl
          exact W.iret (v := ((x5 + (-1)) + (-1))) hx hb hr (fun t ht hW => ⟨⟨((x5 + (-1)) + (-1)), (), rfl, rfl, by rw [ht]; exact hP9, va_K.moved hW.alike hK, hD9⟩, hS.F ht⟩) hS.2.2 dJ6_getChars_ba4f3_120
        · have hf := wk_f hf q12
          refine lv_aload_n hx hb dJ6_getChars_ba4f3_109 rfl (lv_at hl 2 rfl) ?_
          refine lv_iinc (v := (((x5 + (-1)) + (-1)) + (-1))) (lv' := [(5, .int (((x5 + (-1)) + (-1)) + (-1))), (0, .int x0), (2, .ref (a 0)), (6, .int x6)]) hx hb dJ6_getChars_ba4f3_110 hl (k := 0) rfl rfl (by decide) rfl (fun ls hl => ?_)
          refine lv_iload hx hb dJ6_getChars_ba4f3_113 (lv_at hl 0 rfl) ?_
          refine lv_bipush (v := 45) hx hb dJ6_getChars_ba4f3_115 (by decide) ?_
          obtain ⟨h14, hf⟩ := gin_s hf
          refine wk_bast hx hb hK hP hD hS 0 1 (k := (((x5 + (-1)) + (-1)) + (-1)).toNatClampNeg) rfl rfl h14 rfl dJ6_getChars_ba4f3_117 (fun g13 H locs eg13 hP hD hS => ?_)
          have hP : va_P (dC, dI) vwCl [(a 0, .inl (Y 1, A_m, .inl g13))] H := hP
          have hD : va_D A [(a 0, .inl (Y 1, A_m, .inl g13))] := hD
          have hf := wkl_s hf eg13
          refine lv_iload hx hb dJ6_getChars_ba4f3_118 (lv_at hl 0 rfl) ?_
          obtain ⟨e0, e1⟩ := wke2 hf
          subst e0
          subst e1
          have hP9 := hP.sub (ws' := [(a 0, .inl (Y 1, A_m, .inl g13))]) [0] rfl
          have hD9 := hD.sub (ws' := [(a 0, .inl (Y 1, A_m, .inl g13))]) [0] (by decide) rfl
          exact W.iret (v := (((x5 + (-1)) + (-1)) + (-1))) hx hb hr (fun t ht hW => ⟨⟨(((x5 + (-1)) + (-1)) + (-1)), (), rfl, rfl, by rw [ht]; exact hP9, va_K.moved hW.alike hK, hD9⟩, hS.F ht⟩) hS.2.2 dJ6_getChars_ba4f3_120
    · have hf := wk_f hf q1
      refine lv_iload_n hx hb dJ6_getChars_ba4f3_28 rfl (lv_at hl 0 rfl) ?_
      refine lv_bipush (v := 100) hx hb dJ6_getChars_ba4f3_29 (by decide) ?_
      refine lv_idiv hx hb dJ6_getChars_ba4f3_31 (by decide) ?_
      refine lv_istore_n (lv' := [(3, .int (x0 / 100)), (0, .int x0), (2, .ref (a 0)), (5, .int x5), (6, .int x6)]) hx hb dJ6_getChars_ba4f3_32 rfl hl (by decide) rfl (fun ls hl => ?_)
      refine lv_iload_n hx hb dJ6_getChars_ba4f3_33 rfl (lv_at hl 0 rfl) ?_
      refine lv_bipush (v := 100) hx hb dJ6_getChars_ba4f3_34 (by decide) ?_
      refine lv_imul hx hb dJ6_getChars_ba4f3_36 ?_
      refine lv_iload_n hx hb dJ6_getChars_ba4f3_37 rfl (lv_at hl 1 rfl) ?_
      refine lv_isub hx hb dJ6_getChars_ba4f3_38 ?_
      refine lv_istore (lv' := [(4, .int (((x0 / 100) * 100) - x0)), (3, .int (x0 / 100)), (0, .int x0), (2, .ref (a 0)), (5, .int x5), (6, .int x6)]) hx hb dJ6_getChars_ba4f3_39 hl (by decide) rfl (fun ls hl => ?_)
      refine lv_iload_n hx hb dJ6_getChars_ba4f3_41 rfl (lv_at hl 1 rfl) ?_
      refine lv_istore_n (lv' := [(0, .int (x0 / 100)), (4, .int (((x0 / 100) * 100) - x0)), (3, .int (x0 / 100)), (2, .ref (a 0)), (5, .int x5), (6, .int x6)]) hx hb dJ6_getChars_ba4f3_42 rfl hl (by decide) rfl (fun ls hl => ?_)
      refine lv_aload_n hx hb dJ6_getChars_ba4f3_43 rfl (lv_at hl 3 rfl) ?_
      refine lv_iinc (v := (x5 + (-1))) (lv' := [(5, .int (x5 + (-1))), (0, .int (x0 / 100)), (4, .int (((x0 / 100) * 100) - x0)), (3, .int (x0 / 100)), (2, .ref (a 0)), (6, .int x6)]) hx hb dJ6_getChars_ba4f3_44 hl (k := 4) rfl rfl (by decide) rfl (fun ls hl => ?_)
      refine lv_iload hx hb dJ6_getChars_ba4f3_47 (lv_at hl 0 rfl) ?_
      refine va_gets (v := .ref (g 4 3)) hx hb hT.2.2.2.2.2.2.2.2.2.2.2.1 hS hown (hts _ lk_J6_getChars_ba4f3_RJ6_83) (fun _ h9 => h9) dJ6_getChars_ba4f3_49 ?_
      refine lv_iload hx hb dJ6_getChars_ba4f3_52 (lv_at hl 2 rfl) ?_
      obtain ⟨h15, hf⟩ := gin_s hf
      refine va_tb hx hb hT.2.2.2.2.2.2.2.2.2.2.2.2.1 hS h15 rfl dJ6_getChars_ba4f3_54 ?_
      obtain ⟨h17, hf⟩ := gin_s hf
      refine wk_bast hx hb hK hP hD hS 0 1 (k := (x5 + (-1)).toNatClampNeg) rfl rfl h17 rfl dJ6_getChars_ba4f3_55 (fun g16 H locs eg16 hP hD hS => ?_)
      have hP : va_P (dC, dI) vwCl [(a 0, .inl (Y 1, A_m, .inl g16))] H := hP
      have hD : va_D A [(a 0, .inl (Y 1, A_m, .inl g16))] := hD
      have hf := wkl_s hf eg16
      refine lv_aload_n hx hb dJ6_getChars_ba4f3_56 rfl (lv_at hl 4 rfl) ?_
      refine lv_iinc (v := ((x5 + (-1)) + (-1))) (lv' := [(5, .int ((x5 + (-1)) + (-1))), (0, .int (x0 / 100)), (4, .int (((x0 / 100) * 100) - x0)), (3, .int (x0 / 100)), (2, .ref (a 0)), (6, .int x6)]) hx hb dJ6_getChars_ba4f3_57 hl (k := 0) rfl rfl (by decide) rfl (fun ls hl => ?_)
      refine lv_iload hx hb dJ6_getChars_ba4f3_60 (lv_at hl 0 rfl) ?_
      refine va_gets (v := .ref (g 4 2)) hx hb hT.2.2.2.2.2.2.2.2.2.1 hS hown (hts _ lk_J6_getChars_ba4f3_RJ6_87) (fun _ h9 => h9) dJ6_getChars_ba4f3_62 ?_
      refine lv_iload hx hb dJ6_getChars_ba4f3_65 (lv_at hl 2 rfl) ?_
      obtain ⟨h18, hf⟩ := gin_s hf
      refine va_tb hx hb hT.2.2.2.2.2.2.2.2.2.2.1 hS h18 rfl dJ6_getChars_ba4f3_67 ?_
      obtain ⟨h20, hf⟩ := gin_s hf
      refine wk_bast hx hb hK hP hD hS 0 1 (k := ((x5 + (-1)) + (-1)).toNatClampNeg) rfl rfl h20 rfl dJ6_getChars_ba4f3_68 (fun g19 H locs eg19 hP hD hS => ?_)
      have hP : va_P (dC, dI) vwCl [(a 0, .inl (Y 1, A_m, .inl g19))] H := hP
      have hD : va_D A [(a 0, .inl (Y 1, A_m, .inl g19))] := hD
      have hf := wkl_s hf eg19
      refine lv_goto (tgt := 22) hx hb dJ6_getChars_ba4f3_69 (by decide) ?_
      exact ih (x0 / 100) ((x5 + (-1)) + (-1)) x6 g19 hf H locs hP hD hS ls (lv_sub hl [1, 4, 0, 5] rfl)
set_option maxHeartbeats 4000000 in
set_option maxRecDepth 100000 in
theorem c_J6_getChars_ba4f3 (l : Launch) (dC : Nat → ClassId) (dI : Nat → Nat → Nat) (Y : Nat → ClassId) (g : Nat → Nat → Nat) (a : Nat → Nat) (A_m : Nat) (A_f : Nat → Int32) (x0 : Int32) (x1 : Int32) (sz : Nat) (r : Int32) (zA_f : Nat → Int32) (hf : f_J6_getChars_ba4f3 A_m A_f x0 x1 = some (r, zA_f)) : Met l yJ6_getChars_ba4f3 wsJ6_getChars_ba4f3 ({ frames := 0, cells := 0, slots := 0, locals := 0 } : Room) (va_Pc [.int x0, .int x1, .ref (a 0)] (wk_ET (dC, dI) Y g [(a 0, .inl (Y 1, A_m, .inl A_f))] sz)) (va_Qi (fun r2 (_ : Unit) => r2 = r) (fun _ t => wk_X (dC, dI) Y [(a 0, .inl (Y 1, A_m, .inl zA_f))] (va_A [(a 0, .inl (Y 1, A_m, .inl A_f))] sz) t) (va_A [(a 0, .inl (Y 1, A_m, .inl A_f))] sz)) 0 0 (va_A [(a 0, .inl (Y 1, A_m, .inl A_f))] sz) := by
  refine Met.ofW (cc := cJ6_getChars_ba4f3) (maxL := 7) (ret := (some .int)) (by decide) rfl ?_
  intro p e s m args below meth c s₁ B hml hv
  obtain ⟨rfl, ⟨hsz, hP, hK, hD0⟩, hT⟩ := hv
  have hx := B.exec
  have hb := B.bytes
  have hr := B.returns
  have hts := atoms_spec (ws := wsJ6_getChars_ba4f3) B.pre
  have hown : s.vm.findClass RJ6 = some m.cls := findClass_of_methodNamed B.named
  have hlocks := B.notSynchronized
  have C0 : wk_C p s m _ meth c cJ6_getChars_ba4f3 7 (some .int) wsJ6_getChars_ba4f3 RJ6 := ⟨hx, hb, hml, hr, hlocks, hown, hts⟩
  subst hsz
  have hD := hD0.self (sz := s.heap.size)
  generalize hAe : va_A [(a 0, .inl (Y 1, A_m, .inl A_f))] s.heap.size = A at hD hT ⊢
  have hA : ∀ q : Nat, s.heap.size ≤ q → A q := fun q h => by rw [← hAe]; exact Or.inr h
  have hS : va_S A s.heap s.heap [] := va_S.rf
  obtain ⟨H, hHe⟩ : ∃ H, H = s.heap := ⟨_, rfl⟩
  have hS : va_S A s.heap H [] := by rw [hHe]; exact hS
  have hP : va_P (dC, dI) vwCl [(a 0, .inl (Y 1, A_m, .inl A_f))] H := by rw [hHe]; exact hP
  have hD : va_D A [(a 0, .inl (Y 1, A_m, .inl A_f))] := hD
  obtain ⟨locs, hlo⟩ : ∃ locs : List Loc, locs = [] := ⟨_, rfl⟩
  have hS : va_S A s.heap H locs := by rw [hlo]; exact hS
  have hl := lv_entry ([.int x0, .int x1, .ref (a 0)]) (n := 7) (Nat.le_of_ble_eq_true rfl)
  rw [lg_entry_eq]
  generalize (lg_sl ([.int x0, .int x1, .ref (a 0)]) ++ List.replicate (7 - (lg_sl ([.int x0, .int x1, .ref (a 0)])).length) Slot.unset).toArray = ls at hl ⊢
  have hl : lv_has ls 7 [(0, .int x0), (1, .int x1), (2, .ref (a 0))] := hl
  refine wk_start hHe hlo ?_
  rw [f_J6_getChars_ba4f3] at hf
  refine lv_iload_n hx hb dJ6_getChars_ba4f3_0 rfl (lv_at hl 1 rfl) ?_
  refine lv_istore (lv' := [(5, .int x1), (0, .int x0), (1, .int x1), (2, .ref (a 0))]) hx hb dJ6_getChars_ba4f3_1 hl (by decide) rfl (fun ls hl => ?_)
  refine lv_iload_n hx hb dJ6_getChars_ba4f3_3 rfl (lv_at hl 1 rfl) ?_
  refine lv_if_ge (tgt := 11) hx hb dJ6_getChars_ba4f3_4 (by decide) (fun q1 => ?_) (fun q1 => ?_)
  · have hf := wk_t hf q1
    refine lv_iconst (v := 0) hx hb dJ6_getChars_ba4f3_11 (by decide) ?_
    refine lv_istore (lv' := [(6, .int 0), (5, .int x1), (0, .int x0), (1, .int x1), (2, .ref (a 0))]) hx hb dJ6_getChars_ba4f3_12 hl (by decide) rfl (fun ls hl => ?_)
    refine lv_iload hx hb dJ6_getChars_ba4f3_14 (lv_at hl 0 rfl) ?_
    refine lv_if_ne (tgt := 22) hx hb dJ6_getChars_ba4f3_16 (by decide) (fun q9 => absurd q9 (by decide)) (fun _ => ?_)
    refine lv_iload_n hx hb dJ6_getChars_ba4f3_19 rfl (lv_at hl 2 rfl) ?_
    refine lv_ineg hx hb dJ6_getChars_ba4f3_20 ?_
    refine lv_istore_n (lv' := [(0, .int (-x0)), (6, .int 0), (5, .int x1), (1, .int x1), (2, .ref (a 0))]) hx hb dJ6_getChars_ba4f3_21 rfl hl (by decide) rfl (fun ls hl => ?_)
    exact wl_J6_getChars_ba4f3_L22 C0 hK hA hT FU (-x0) x1 0 A_f hf H locs hP hD hS ls (lv_sub hl [0, 4, 2, 1] rfl)
  · have hf := wk_f hf q1
    refine lv_iconst (v := 1) hx hb dJ6_getChars_ba4f3_7 (by decide) ?_
    refine lv_goto (tgt := 12) hx hb dJ6_getChars_ba4f3_8 (by decide) ?_
    refine lv_istore (lv' := [(6, .int 1), (5, .int x1), (0, .int x0), (1, .int x1), (2, .ref (a 0))]) hx hb dJ6_getChars_ba4f3_12 hl (by decide) rfl (fun ls hl => ?_)
    refine lv_iload hx hb dJ6_getChars_ba4f3_14 (lv_at hl 0 rfl) ?_
    refine lv_if_ne (tgt := 22) hx hb dJ6_getChars_ba4f3_16 (by decide) (fun _ => ?_) (fun q9 => absurd q9 (by decide))
    exact wl_J6_getChars_ba4f3_L22 C0 hK hA hT FU x0 x1 1 A_f hf H locs hP hD hS ls (lv_sub hl [2, 4, 1, 0] rfl)
theorem lk_J5_append_c97b9_RJ5_15 : Cond.fieldLink RJ5 15 "java/lang/AbstractStringBuilder" "value" "[B" ∈ wsJ5_append_c97b9 := by decide +kernel
theorem lk_J5_append_c97b9_RJ5_79 : Cond.fieldLink RJ5 79 "java/lang/AbstractStringBuilder" "count" "I" ∈ wsJ5_append_c97b9 := by decide +kernel
theorem in_J5_append_c97b9_J4 : ∀ w ∈ u_ws RJ4 TJ4 4, w ∈ wsJ5_append_c97b9 := by decide +kernel
def f_J5_append_c97b9 (Z_m : Nat) (Z_n : Int32) (Z_f : Nat → Int32) (x1 : Int32) : Option (Nat × Int32 × (Nat → Int32)) :=
  wkb1 (f_J6_stringSize_0f7a4 x1) (fun r1 =>
  wkb2 (f_J5_ensureCapacityInternal_d00df Z_m Z_f (Z_n + r1)) (fun w3 w4 =>
  wkb1 (f_J5_isLatin1_aae02) (fun r7 =>
  if r7 = 0 then
    (none)
  else
    (wkb2 (f_J6_getChars_ba4f3 w3 w4 x1 (Z_n + r1)) (fun r10 w11 =>
    wkl ((Z_n + r1)) (fun v14 =>
    some (w3, v14, w11)))))))
set_option maxHeartbeats 4000000 in
set_option maxRecDepth 100000 in
theorem c_J5_append_c97b9 (l : Launch) (dC : Nat → ClassId) (dI : Nat → Nat → Nat) (Y : Nat → ClassId) (g : Nat → Nat → Nat) (a : Nat → Nat) (Z_v : Nat) (Z_m : Nat) (Z_ml : Int32) (Z_n : Int32) (Z_f : Nat → Int32) (x1 : Int32) (sz : Nat) (zZ_m : Nat) (zZ_n : Int32) (zZ_f : Nat → Int32) (hf : f_J5_append_c97b9 Z_m Z_n Z_f x1 = some (zZ_m, zZ_n, zZ_f)) : Met l yJ5_append_c97b9 wsJ5_append_c97b9 ({ frames := 4, cells := 1, slots := 142, locals := 244 } : Room) (va_Pc [.ref (a 0), .int x1] (wk_ET (dC, dI) Y g (wJ4 Y a Z_v Z_m Z_ml Z_n Z_f) sz)) (va_Qr (fun (_ : Nat) => True) (fun u9 ra t => ra = a 0 ∧ wk_X (dC, dI) Y (wJ4 Y a u9 zZ_m Z_ml zZ_n zZ_f) (va_A (wJ4 Y a Z_v Z_m Z_ml Z_n Z_f) sz) t) (va_A (wJ4 Y a Z_v Z_m Z_ml Z_n Z_f) sz)) 1 142 (va_A (wJ4 Y a Z_v Z_m Z_ml Z_n Z_f) sz) := by
  refine Met.ofW (cc := cJ5_append_c97b9) (maxL := 4) (ret := (some (.object "java/lang/AbstractStringBuilder"))) (by decide) rfl ?_
  intro p e s m args below meth c s₁ B hml hv
  obtain ⟨rfl, ⟨hsz, hP, hK, hD0⟩, hT⟩ := hv
  have hx := B.exec
  have hb := B.bytes
  have hr := B.returns
  have hts := atoms_spec (ws := wsJ5_append_c97b9) B.pre
  have hown : s.vm.findClass RJ5 = some m.cls := findClass_of_methodNamed B.named
  have hlocks := B.notSynchronized
  have C0 : wk_C p s m _ meth c cJ5_append_c97b9 4 (some (.object "java/lang/AbstractStringBuilder")) wsJ5_append_c97b9 RJ5 := ⟨hx, hb, hml, hr, hlocks, hown, hts⟩
  subst hsz
  have hD := hD0.self (sz := s.heap.size)
  generalize hAe : va_A (wJ4 Y a Z_v Z_m Z_ml Z_n Z_f) s.heap.size = A at hD hT ⊢
  have hA : ∀ q : Nat, s.heap.size ≤ q → A q := fun q h => by rw [← hAe]; exact Or.inr h
  have hS : va_S A s.heap s.heap [] := va_S.rf
  obtain ⟨H, hHe⟩ : ∃ H, H = s.heap := ⟨_, rfl⟩
  have hS : va_S A s.heap H [] := by rw [hHe]; exact hS
  have hP : va_P (dC, dI) vwCl [(a 0, .inr (1, [.ref Z_v, .int 0, .int Z_ml, .int Z_n])), (Z_v, .inl (Y 1, Z_m, .inl Z_f))] H := by rw [hHe]; exact hP
  have hD : va_D A [(a 0, .inr (1, [.ref Z_v, .int 0, .int Z_ml, .int Z_n])), (Z_v, .inl (Y 1, Z_m, .inl Z_f))] := hD
  obtain ⟨locs, hlo⟩ : ∃ locs : List Loc, locs = [] := ⟨_, rfl⟩
  have hS : va_S A s.heap H locs := by rw [hlo]; exact hS
  have hl := lv_entry ([.ref (a 0), .int x1]) (n := 4) (Nat.le_of_ble_eq_true rfl)
  rw [lg_entry_eq]
  generalize (lg_sl ([.ref (a 0), .int x1]) ++ List.replicate (4 - (lg_sl ([.ref (a 0), .int x1])).length) Slot.unset).toArray = ls at hl ⊢
  have hl : lv_has ls 4 [(0, .ref (a 0)), (1, .int x1)] := hl
  refine wk_start hHe hlo ?_
  rw [f_J5_append_c97b9] at hf
  refine lv_aload_n hx hb dJ5_append_c97b9_0 rfl (lv_at hl 0 rfl) ?_
  refine va_get (D := (dC, dI)) (ci := 1) (v := .int Z_n) (C := RJ4) (T := TJ4) (N := 4) hx hb hts in_J5_append_c97b9_J4 hown hK hP 0 rfl rfl 3 (by decide) (hts _ lk_J5_append_c97b9_RJ5_79) (fun _ h9 => h9) rfl dJ5_append_c97b9_1 ?_
  refine lv_istore_n (lv' := [(2, .int Z_n), (0, .ref (a 0)), (1, .int x1)]) hx hb dJ5_append_c97b9_4 rfl hl (by decide) rfl (fun ls hl => ?_)
  refine lv_iload_n hx hb dJ5_append_c97b9_5 rfl (lv_at hl 0 rfl) ?_
  refine lv_iload_n hx hb dJ5_append_c97b9_6 rfl (lv_at hl 2 rfl) ?_
  obtain ⟨r1, hr2, hf⟩ := wkb1_s hf
  have hPc := hP.sub (ws' := ([] : va_W)) [] rfl
  refine wk_si (As := [.int x1]) (rest := [.int Z_n]) ⟨hx, hb, hml, hown, hts⟩ (c_J6_stringSize_0f7a4 l dC dI Y x1 r1 hr2) (va_cwS 1 hts gJ5_append_c97b9_J6_stringSize_0f7a4 rfl rfl rfl (by decide +kernel) ⟨Nat.le_of_ble_eq_true rfl, Nat.le_of_ble_eq_true rfl⟩) hK hPc rfl hl.1 rfl (Nat.le_of_ble_eq_true rfl) dJ5_append_c97b9_7 ⟨Nat.le_of_ble_eq_true rfl, Nat.le_of_ble_eq_true rfl⟩ ?_
  refine lv_iadd hx hb dJ5_append_c97b9_10 ?_
  refine lv_istore_n (lv' := [(3, .int (Z_n + r1)), (2, .int Z_n), (0, .ref (a 0)), (1, .int x1)]) hx hb dJ5_append_c97b9_11 rfl hl (by decide) rfl (fun ls hl => ?_)
  refine lv_aload_n hx hb dJ5_append_c97b9_12 rfl (lv_at hl 2 rfl) ?_
  refine lv_iload_n hx hb dJ5_append_c97b9_13 rfl (lv_at hl 0 rfl) ?_
  obtain ⟨w3, w4, hr5, hf⟩ := wkb2_s hf
  have hPc := hP.sub (ws' := (wJ4 Y a Z_v Z_m Z_ml Z_n Z_f)) [0, 1] rfl
  have hDc := hD.sub (ws' := (wJ4 Y a Z_v Z_m Z_ml Z_n Z_f)) [0, 1] (by decide) rfl
  have hFc := va_free (wc := (wJ4 Y a Z_v Z_m Z_ml Z_n Z_f)) hD hS hA [0, 1] rfl
  refine wg_ev (wc := (wJ4 Y a Z_v Z_m Z_ml Z_n Z_f)) (w1 := fun (u6 : Nat) => (wJ4 Y a u6 w3 Z_ml Z_n w4)) (wr := []) (va_runU (As := [.int (Z_n + r1)]) (rest := []) ⟨hx, hb, hml, hown, hts⟩ (c_J5_ensureCapacityInternal_d00df l dC dI Y a Z_v Z_m Z_ml Z_n Z_f (Z_n + r1) H.size w3 w4 hr5) (va_cwU (C := RJ4) 1 hts gJ5_append_c97b9_J5_ensureCapacityInternal_d00df_u100J4 rfl rfl rfl rfl (by decide +kernel) ⟨Nat.le_of_ble_eq_true rfl, Nat.le_of_ble_eq_true rfl⟩) ⟨wk_Eb, (va_recv hK hP (ci := 1) (q0 := 0) rfl rfl), wk_Ep hK hPc hDc⟩ rfl rfl hl.1 rfl (lv_room (Nat.le_of_ble_eq_true rfl)) dJ5_append_c97b9_14 ⟨Nat.le_of_ble_eq_true rfl, Nat.le_of_ble_eq_true rfl⟩) hP hD hS [0, 1] [] rfl rfl (by decide) (by decide) (by decide) hFc (fun u6 H locs hP hD hS => ?_)
  have hP : va_P (dC, dI) vwCl [(a 0, .inr (1, [.ref u6, .int 0, .int Z_ml, .int Z_n])), (u6, .inl (Y 1, w3, .inl w4))] H := hP
  have hD : va_D A [(a 0, .inr (1, [.ref u6, .int 0, .int Z_ml, .int Z_n])), (u6, .inl (Y 1, w3, .inl w4))] := hD
  refine lv_aload_n hx hb dJ5_append_c97b9_17 rfl (lv_at hl 2 rfl) ?_
  obtain ⟨r7, hr8, hf⟩ := wkb1_s hf
  have hPc := hP.sub (ws' := (wJ4 Y a u6 w3 Z_ml Z_n w4)) [0, 1] rfl
  refine wg_pi (va_Run.run (va_runU (As := []) (rest := []) ⟨hx, hb, hml, hown, hts⟩ (c_J5_isLatin1_aae02 l dC dI Y g a u6 w3 Z_ml Z_n w4 r7 hr8) (va_cwU (C := RJ4) 0 hts gJ5_append_c97b9_J5_isLatin1_aae02_u83J4 rfl rfl rfl rfl (by decide +kernel) ⟨Nat.le_of_ble_eq_true rfl, Nat.le_of_ble_eq_true rfl⟩) ⟨wk_BTb, (va_recv hK hP (ci := 1) (q0 := 0) rfl rfl), wk_BTp hK hPc hT hS⟩ rfl rfl hl.1 rfl (lv_room (Nat.le_of_ble_eq_true rfl)) dJ5_append_c97b9_18 ⟨Nat.le_of_ble_eq_true rfl, Nat.le_of_ble_eq_true rfl⟩)) ?_
  refine lv_if_eq (tgt := 37) hx hb dJ5_append_c97b9_21 (by decide) (fun q9 => ?_) (fun q9 => ?_)
  · have hf := wk_t hf q9
    cases hf
  · have hf := wk_f hf q9
    refine lv_iload_n hx hb dJ5_append_c97b9_24 rfl (lv_at hl 3 rfl) ?_
    refine lv_iload_n hx hb dJ5_append_c97b9_25 rfl (lv_at hl 0 rfl) ?_
    refine lv_aload_n hx hb dJ5_append_c97b9_26 rfl (lv_at hl 2 rfl) ?_
    refine va_get (D := (dC, dI)) (ci := 1) (v := .ref u6) (C := RJ4) (T := TJ4) (N := 4) hx hb hts in_J5_append_c97b9_J4 hown hK hP 0 rfl rfl 0 (by decide) (hts _ lk_J5_append_c97b9_RJ5_15) (fun _ h9 => h9) rfl dJ5_append_c97b9_27 ?_
    obtain ⟨r10, w11, hr12, hf⟩ := wkb2_s hf
    refine wk_esiT (As := [.int x1, .int (Z_n + r1), .ref u6]) (rest := []) (wc := [(u6, .inl (Y 1, w3, .inl w4))]) (w1 := [(u6, .inl (Y 1, w3, .inl w11))]) (wr := [(a 0, .inr (1, [.ref u6, .int 0, .int Z_ml, .int Z_n]))]) ⟨hx, hb, hml, hown, hts⟩ (c_J6_getChars_ba4f3 l dC dI Y g (fun _ => u6) w3 w4 x1 (Z_n + r1) H.size r10 w11 hr12) (va_cwS 3 hts gJ5_append_c97b9_J6_getChars_ba4f3 rfl rfl rfl (by decide +kernel) ⟨Nat.le_of_ble_eq_true rfl, Nat.le_of_ble_eq_true rfl⟩) hK hP hD hS hA hT [1] [0] rfl rfl (by decide) (by decide) (by decide) rfl hl.1 rfl (Nat.le_of_ble_eq_true rfl) dJ5_append_c97b9_30 ⟨Nat.le_of_ble_eq_true rfl, Nat.le_of_ble_eq_true rfl⟩ (fun H locs hP hD hS => ?_)
    have hP : va_P (dC, dI) vwCl [(a 0, .inr (1, [.ref u6, .int 0, .int Z_ml, .int Z_n])), (u6, .inl (Y 1, w3, .inl w11))] H := hP
    have hD : va_D A [(a 0, .inr (1, [.ref u6, .int 0, .int Z_ml, .int Z_n])), (u6, .inl (Y 1, w3, .inl w11))] := hD
    refine lv_pop hx hb dJ5_append_c97b9_33 rfl ?_
    refine lv_goto (tgt := 48) hx hb dJ5_append_c97b9_34 (by decide) ?_
    refine lv_aload_n hx hb dJ5_append_c97b9_48 rfl (lv_at hl 2 rfl) ?_
    refine lv_iload_n hx hb dJ5_append_c97b9_49 rfl (lv_at hl 0 rfl) ?_
    refine lv_topi (fun v14 ev14 => ?_)
    have hf := wkl_s hf ev14
    refine va_put (D := (dC, dI)) (ci := 1) (v := .int v14) (ty := .int) (C := RJ4) (T := TJ4) (N := 4) hx hb hts in_J5_append_c97b9_J4 tyJ4 tyJ4_ok nmJ4 hown hK hP hD hS 0 rfl rfl 3 (by decide) (hts _ lk_J5_append_c97b9_RJ5_79) (fun _ h9 => h9) rfl (by decide +kernel) rfl rfl (Nat.le_of_ble_eq_true rfl) dJ5_append_c97b9_50 (fun H locs hP hD hS => ?_)
    have hP : va_P (dC, dI) vwCl [(a 0, .inr (1, [.ref u6, .int 0, .int Z_ml, .int v14])), (u6, .inl (Y 1, w3, .inl w11))] H := hP
    have hD : va_D A [(a 0, .inr (1, [.ref u6, .int 0, .int Z_ml, .int v14])), (u6, .inl (Y 1, w3, .inl w11))] := hD
    refine lv_aload_n hx hb dJ5_append_c97b9_53 rfl (lv_at hl 2 rfl) ?_
    obtain ⟨e0, e1, e2⟩ := wke3 hf
    subst e0
    subst e1
    subst e2
    have hP9 := hP.sub (ws' := (wJ4 Y a u6 w3 Z_ml v14 w11)) [0, 1] rfl
    have hD9 := hD.sub (ws' := (wJ4 Y a u6 w3 Z_ml v14 w11)) [0, 1] (by decide) rfl
    refine W.widen (k := 1) (n := 142) (Nat.le_of_ble_eq_true rfl) (Nat.le_of_ble_eq_true rfl) ?_
    exact W.aret (v := .ref (a 0)) hx hb hr (Or.inl ⟨_, rfl⟩) (Or.inr ⟨_, rfl⟩) (fun t ht hW => ⟨⟨u6, a 0, rfl, trivial, rfl, by rw [ht]; exact hP9, va_K.moved hW.alike hK, hD9⟩, hS.F ht⟩) hS.2.2 dJ5_append_c97b9_54
def f_J4_append_bf812 (Z_m : Nat) (Z_n : Int32) (Z_f : Nat → Int32) (x1 : Int32) : Option (Nat × Int32 × (Nat → Int32)) :=
  wkb3 (f_J5_append_c97b9 Z_m Z_n Z_f x1) (fun w2 w3 w4 =>
  some (w2, w3, w4))
set_option maxHeartbeats 4000000 in
set_option maxRecDepth 100000 in
theorem c_J4_append_bf812 (l : Launch) (dC : Nat → ClassId) (dI : Nat → Nat → Nat) (Y : Nat → ClassId) (g : Nat → Nat → Nat) (a : Nat → Nat) (Z_v : Nat) (Z_m : Nat) (Z_ml : Int32) (Z_n : Int32) (Z_f : Nat → Int32) (x1 : Int32) (sz : Nat) (zZ_m : Nat) (zZ_n : Int32) (zZ_f : Nat → Int32) (hf : f_J4_append_bf812 Z_m Z_n Z_f x1 = some (zZ_m, zZ_n, zZ_f)) : Met l yJ4_append_bf812 wsJ4_append_bf812 ({ frames := 5, cells := 1, slots := 142, locals := 267 } : Room) (va_Pc [.ref (a 0), .int x1] (wk_ET (dC, dI) Y g (wJ4 Y a Z_v Z_m Z_ml Z_n Z_f) sz)) (va_Qr (fun (_ : Nat) => True) (fun u9 ra t => ra = a 0 ∧ wk_X (dC, dI) Y (wJ4 Y a u9 zZ_m Z_ml zZ_n zZ_f) (va_A (wJ4 Y a Z_v Z_m Z_ml Z_n Z_f) sz) t) (va_A (wJ4 Y a Z_v Z_m Z_ml Z_n Z_f) sz)) 1 142 (va_A (wJ4 Y a Z_v Z_m Z_ml Z_n Z_f) sz) := by
  refine Met.ofW (cc := cJ4_append_bf812) (maxL := 2) (ret := (some (.object "java/lang/StringBuilder"))) (by decide) rfl ?_
  intro p e s m args below meth c s₁ B hml hv
  obtain ⟨rfl, ⟨hsz, hP, hK, hD0⟩, hT⟩ := hv
  have hx := B.exec
  have hb := B.bytes
  have hr := B.returns
  have hts := atoms_spec (ws := wsJ4_append_bf812) B.pre
  have hown : s.vm.findClass RJ4 = some m.cls := findClass_of_methodNamed B.named
  have hlocks := B.notSynchronized
  have C0 : wk_C p s m _ meth c cJ4_append_bf812 2 (some (.object "java/lang/StringBuilder")) wsJ4_append_bf812 RJ4 := ⟨hx, hb, hml, hr, hlocks, hown, hts⟩
  subst hsz
  have hD := hD0.self (sz := s.heap.size)
  generalize hAe : va_A (wJ4 Y a Z_v Z_m Z_ml Z_n Z_f) s.heap.size = A at hD hT ⊢
  have hA : ∀ q : Nat, s.heap.size ≤ q → A q := fun q h => by rw [← hAe]; exact Or.inr h
  have hS : va_S A s.heap s.heap [] := va_S.rf
  obtain ⟨H, hHe⟩ : ∃ H, H = s.heap := ⟨_, rfl⟩
  have hS : va_S A s.heap H [] := by rw [hHe]; exact hS
  have hP : va_P (dC, dI) vwCl [(a 0, .inr (1, [.ref Z_v, .int 0, .int Z_ml, .int Z_n])), (Z_v, .inl (Y 1, Z_m, .inl Z_f))] H := by rw [hHe]; exact hP
  have hD : va_D A [(a 0, .inr (1, [.ref Z_v, .int 0, .int Z_ml, .int Z_n])), (Z_v, .inl (Y 1, Z_m, .inl Z_f))] := hD
  obtain ⟨locs, hlo⟩ : ∃ locs : List Loc, locs = [] := ⟨_, rfl⟩
  have hS : va_S A s.heap H locs := by rw [hlo]; exact hS
  have hl := lv_entry ([.ref (a 0), .int x1]) (n := 2) (Nat.le_of_ble_eq_true rfl)
  rw [lg_entry_eq]
  generalize (lg_sl ([.ref (a 0), .int x1]) ++ List.replicate (2 - (lg_sl ([.ref (a 0), .int x1])).length) Slot.unset).toArray = ls at hl ⊢
  have hl : lv_has ls 2 [(0, .ref (a 0)), (1, .int x1)] := hl
  refine wk_start hHe hlo ?_
  rw [f_J4_append_bf812] at hf
  refine lv_aload_n hx hb dJ4_append_bf812_0 rfl (lv_at hl 0 rfl) ?_
  refine lv_iload_n hx hb dJ4_append_bf812_1 rfl (lv_at hl 1 rfl) ?_
  obtain ⟨w2, w3, w4, hr5, hf⟩ := wkb3_s hf
  have hPc := hP.sub (ws' := (wJ4 Y a Z_v Z_m Z_ml Z_n Z_f)) [0, 1] rfl
  have hDc := hD.sub (ws' := (wJ4 Y a Z_v Z_m Z_ml Z_n Z_f)) [0, 1] (by decide) rfl
  have hFc := va_free (wc := (wJ4 Y a Z_v Z_m Z_ml Z_n Z_f)) hD hS hA [0, 1] rfl
  refine wg_er (wc := (wJ4 Y a Z_v Z_m Z_ml Z_n Z_f)) (w1 := fun (u6 : Nat) => (wJ4 Y a u6 w2 Z_ml w3 w4)) (wr := []) (va_runSU (hK.1 1 _ rfl).2 (As := [.int x1]) (rest := []) ⟨hx, hb, hml, hown, hts⟩ (c_J5_append_c97b9 l dC dI Y g a Z_v Z_m Z_ml Z_n Z_f x1 H.size w2 w3 w4 hr5) (va_cwSU 1 hts gJ4_append_bf812_J5_append_c97b9_s53 rfl rfl rfl (by decide +kernel) ⟨Nat.le_of_ble_eq_true rfl, Nat.le_of_ble_eq_true rfl⟩) ⟨wk_ETb, (va_recv hK hP (ci := 1) (q0 := 0) rfl rfl), wk_ETp hK hPc hDc hT hS hFc⟩ rfl rfl hl.1 rfl (lv_room (Nat.le_of_ble_eq_true rfl)) dJ4_append_bf812_2 ⟨Nat.le_of_ble_eq_true rfl, Nat.le_of_ble_eq_true rfl⟩) hP hD hS [0, 1] [] rfl rfl (by decide) (by decide) (by decide) hFc (fun u6 H locs hP hD hS => ?_)
  have hP : va_P (dC, dI) vwCl [(a 0, .inr (1, [.ref u6, .int 0, .int Z_ml, .int w3])), (u6, .inl (Y 1, w2, .inl w4))] H := hP
  have hD : va_D A [(a 0, .inr (1, [.ref u6, .int 0, .int Z_ml, .int w3])), (u6, .inl (Y 1, w2, .inl w4))] := hD
  refine lv_pop hx hb dJ4_append_bf812_5 rfl ?_
  refine lv_aload_n hx hb dJ4_append_bf812_6 rfl (lv_at hl 0 rfl) ?_
  obtain ⟨e0, e1, e2⟩ := wke3 hf
  subst e0
  subst e1
  subst e2
  have hP9 := hP.sub (ws' := (wJ4 Y a u6 w2 Z_ml w3 w4)) [0, 1] rfl
  have hD9 := hD.sub (ws' := (wJ4 Y a u6 w2 Z_ml w3 w4)) [0, 1] (by decide) rfl
  refine W.widen (k := 1) (n := 142) (Nat.le_of_ble_eq_true rfl) (Nat.le_of_ble_eq_true rfl) ?_
  exact W.aret (v := .ref (a 0)) hx hb hr (Or.inl ⟨_, rfl⟩) (Or.inr ⟨_, rfl⟩) (fun t ht hW => ⟨⟨u6, a 0, rfl, trivial, rfl, by rw [ht]; exact hP9, va_K.moved hW.alike hK, hD9⟩, hS.F ht⟩) hS.2.2 dJ4_append_bf812_7
theorem lk_J5_length_8abf5_RJ5_79 : Cond.fieldLink RJ5 79 "java/lang/AbstractStringBuilder" "count" "I" ∈ wsJ5_length_8abf5 := by decide +kernel
theorem in_J5_length_8abf5_J4 : ∀ w ∈ u_ws RJ4 TJ4 4, w ∈ wsJ5_length_8abf5 := by decide +kernel
def f_J5_length_8abf5 (Z_n : Int32) : Option (Int32) :=
  some (Z_n)
set_option maxHeartbeats 4000000 in
set_option maxRecDepth 100000 in
theorem c_J5_length_8abf5 (l : Launch) (dC : Nat → ClassId) (dI : Nat → Nat → Nat) (Y : Nat → ClassId) (a : Nat → Nat) (Z_v : Nat) (Z_m : Nat) (Z_ml : Int32) (Z_n : Int32) (Z_f : Nat → Int32)  (r : Int32) (hf : f_J5_length_8abf5 Z_n = some (r)) : Met l yJ5_length_8abf5 wsJ5_length_8abf5 ({ frames := 0, cells := 0, slots := 0, locals := 0 } : Room) (va_Pc [.ref (a 0)] (wk_B (dC, dI) Y (wJ4 Y a Z_v Z_m Z_ml Z_n Z_f))) (vp_Si (fun r2 => r2 = r)) 0 0 (fun _ => False) := by
  refine Met.ofW (cc := cJ5_length_8abf5) (maxL := 1) (ret := (some .int)) (by decide) rfl ?_
  intro p e s m args below meth c s₁ B hml hv
  obtain ⟨rfl, hP, hK⟩ := hv
  have hx := B.exec
  have hb := B.bytes
  have hr := B.returns
  have hts := atoms_spec (ws := wsJ5_length_8abf5) B.pre
  have hown : s.vm.findClass RJ5 = some m.cls := findClass_of_methodNamed B.named
  have hlocks := B.notSynchronized
  have C0 : wk_C p s m _ meth c cJ5_length_8abf5 1 (some .int) wsJ5_length_8abf5 RJ5 := ⟨hx, hb, hml, hr, hlocks, hown, hts⟩
  have hP : va_P (dC, dI) vwCl [(a 0, .inr (1, [.ref Z_v, .int 0, .int Z_ml, .int Z_n])), (Z_v, .inl (Y 1, Z_m, .inl Z_f))] s.heap := hP
  have hl := lv_entry ([.ref (a 0)]) (n := 1) (Nat.le_of_ble_eq_true rfl)
  rw [lg_entry_eq]
  generalize (lg_sl ([.ref (a 0)]) ++ List.replicate (1 - (lg_sl ([.ref (a 0)])).length) Slot.unset).toArray = ls at hl ⊢
  have hl : lv_has ls 1 [(0, .ref (a 0))] := hl
  rw [f_J5_length_8abf5] at hf
  refine lv_aload_n hx hb dJ5_length_8abf5_0 rfl (lv_at hl 0 rfl) ?_
  refine va_get (D := (dC, dI)) (ci := 1) (v := .int Z_n) (C := RJ4) (T := TJ4) (N := 4) hx hb hts in_J5_length_8abf5_J4 hown hK hP 0 rfl rfl 3 (by decide) (hts _ lk_J5_length_8abf5_RJ5_79) (fun _ h9 => h9) rfl dJ5_length_8abf5_1 ?_
  have e0 := wke1 hf
  subst e0
  exact W.iret (v := Z_n) hx hb hr (fun t ht hW => ⟨Z_n, rfl, rfl, ht⟩) (fun q h => absurd h List.not_mem_nil) dJ5_length_8abf5_4
def f_J4_length_8abf5 (Z_n : Int32) : Option (Int32) :=
  wkb1 (f_J5_length_8abf5 Z_n) (fun r1 =>
  some (r1))
set_option maxHeartbeats 4000000 in
set_option maxRecDepth 100000 in
theorem c_J4_length_8abf5 (l : Launch) (dC : Nat → ClassId) (dI : Nat → Nat → Nat) (Y : Nat → ClassId) (a : Nat → Nat) (Z_v : Nat) (Z_m : Nat) (Z_ml : Int32) (Z_n : Int32) (Z_f : Nat → Int32)  (r : Int32) (hf : f_J4_length_8abf5 Z_n = some (r)) : Met l yJ4_length_8abf5 wsJ4_length_8abf5 ({ frames := 1, cells := 0, slots := 0, locals := 20 } : Room) (va_Pc [.ref (a 0)] (wk_B (dC, dI) Y (wJ4 Y a Z_v Z_m Z_ml Z_n Z_f))) (vp_Si (fun r2 => r2 = r)) 0 0 (fun _ => False) := by
  refine Met.ofW (cc := cJ4_length_8abf5) (maxL := 1) (ret := (some .int)) (by decide) rfl ?_
  intro p e s m args below meth c s₁ B hml hv
  obtain ⟨rfl, hP, hK⟩ := hv
  have hx := B.exec
  have hb := B.bytes
  have hr := B.returns
  have hts := atoms_spec (ws := wsJ4_length_8abf5) B.pre
  have hown : s.vm.findClass RJ4 = some m.cls := findClass_of_methodNamed B.named
  have hlocks := B.notSynchronized
  have C0 : wk_C p s m _ meth c cJ4_length_8abf5 1 (some .int) wsJ4_length_8abf5 RJ4 := ⟨hx, hb, hml, hr, hlocks, hown, hts⟩
  have hP : va_P (dC, dI) vwCl [(a 0, .inr (1, [.ref Z_v, .int 0, .int Z_ml, .int Z_n])), (Z_v, .inl (Y 1, Z_m, .inl Z_f))] s.heap := hP
  have hl := lv_entry ([.ref (a 0)]) (n := 1) (Nat.le_of_ble_eq_true rfl)
  rw [lg_entry_eq]
  generalize (lg_sl ([.ref (a 0)]) ++ List.replicate (1 - (lg_sl ([.ref (a 0)])).length) Slot.unset).toArray = ls at hl ⊢
  have hl : lv_has ls 1 [(0, .ref (a 0))] := hl
  rw [f_J4_length_8abf5] at hf
  refine lv_aload_n hx hb dJ4_length_8abf5_0 rfl (lv_at hl 0 rfl) ?_
  obtain ⟨r1, hr2, hf⟩ := wkb1_s hf
  have hPc := hP.sub (ws' := (wJ4 Y a Z_v Z_m Z_ml Z_n Z_f)) [0, 1] rfl
  refine wg_pi (va_Run.run (va_runSU (hK.1 1 _ rfl).2 (As := []) (rest := []) ⟨hx, hb, hml, hown, hts⟩ (c_J5_length_8abf5 l dC dI Y a Z_v Z_m Z_ml Z_n Z_f r1 hr2) (va_cwSU 0 hts gJ4_length_8abf5_J5_length_8abf5_s343 rfl rfl rfl (by decide +kernel) ⟨Nat.le_of_ble_eq_true rfl, Nat.le_of_ble_eq_true rfl⟩) ⟨wk_Bb, (va_recv hK hP (ci := 1) (q0 := 0) rfl rfl), wk_Bp hK hPc⟩ rfl rfl hl.1 rfl (lv_room (Nat.le_of_ble_eq_true rfl)) dJ4_length_8abf5_1 ⟨Nat.le_of_ble_eq_true rfl, Nat.le_of_ble_eq_true rfl⟩)) ?_
  have e0 := wke1 hf
  subst e0
  exact W.iret (v := r1) hx hb hr (fun t ht hW => ⟨r1, rfl, rfl, ht⟩) (fun q h => absurd h List.not_mem_nil) dJ4_length_8abf5_4
def f_J3_checkIndex_8e157_ref (x0 : Int32) (x1 : Int32) : Option (Int32) :=
  if x0 < 0 then
    (none)
  else
    (if x0 < x1 then
      (some (x0))
    else
      (none))
set_option maxHeartbeats 4000000 in
set_option maxRecDepth 100000 in
theorem c_J3_checkIndex_8e157_ref (l : Launch) (dC : Nat → ClassId) (dI : Nat → Nat → Nat) (Y : Nat → ClassId)  (q9 : Nat)  (x0 : Int32) (x1 : Int32) (r : Int32) (hf : f_J3_checkIndex_8e157_ref x0 x1 = some (r)) : Met l yJ3_checkIndex_8e157 wsJ3_checkIndex_8e157 ({ frames := 0, cells := 0, slots := 0, locals := 0 } : Room) (va_Pc [.int x0, .int x1, .ref q9] (wk_B (dC, dI) Y ([] : va_W))) (vp_Si (fun r2 => r2 = r)) 0 0 (fun _ => False) := by
  refine Met.ofW (cc := cJ3_checkIndex_8e157) (maxL := 3) (ret := (some .int)) (by decide) rfl ?_
  intro p e s m args below meth c s₁ B hml hv
  obtain ⟨rfl, hP, hK⟩ := hv
  have hx := B.exec
  have hb := B.bytes
  have hr := B.returns
  have hts := atoms_spec (ws := wsJ3_checkIndex_8e157) B.pre
  have hown : s.vm.findClass RJ3 = some m.cls := findClass_of_methodNamed B.named
  have hlocks := B.notSynchronized
  have C0 : wk_C p s m _ meth c cJ3_checkIndex_8e157 3 (some .int) wsJ3_checkIndex_8e157 RJ3 := ⟨hx, hb, hml, hr, hlocks, hown, hts⟩
  have hP : va_P (dC, dI) vwCl [] s.heap := hP
  have hl := lv_entry ([.int x0, .int x1, .ref q9]) (n := 3) (Nat.le_of_ble_eq_true rfl)
  rw [lg_entry_eq]
  generalize (lg_sl ([.int x0, .int x1, .ref q9]) ++ List.replicate (3 - (lg_sl ([.int x0, .int x1, .ref q9])).length) Slot.unset).toArray = ls at hl ⊢
  have hl : lv_has ls 3 [(0, .int x0), (1, .int x1), (2, .ref q9)] := hl
  rw [f_J3_checkIndex_8e157_ref] at hf
  refine lv_iload_n hx hb dJ3_checkIndex_8e157_0 rfl (lv_at hl 0 rfl) ?_
  refine lv_if_lt (tgt := 9) hx hb dJ3_checkIndex_8e157_1 (by decide) (fun q1 => ?_) (fun q1 => ?_)
  · have hf := wk_t hf q1
    cases hf
  · have hf := wk_f hf q1
    refine lv_iload_n hx hb dJ3_checkIndex_8e157_4 rfl (lv_at hl 0 rfl) ?_
    refine lv_iload_n hx hb dJ3_checkIndex_8e157_5 rfl (lv_at hl 1 rfl) ?_
    refine lv_icmp_lt (tgt := 16) hx hb dJ3_checkIndex_8e157_6 (by decide) (fun q2 => ?_) (fun q2 => ?_)
    · have hf := wk_t hf q2
      refine lv_iload_n hx hb dJ3_checkIndex_8e157_16 rfl (lv_at hl 0 rfl) ?_
      have e0 := wke1 hf
      subst e0
      exact W.iret (v := x0) hx hb hr (fun t ht hW => ⟨x0, rfl, rfl, ht⟩) (fun q h => absurd h List.not_mem_nil) dJ3_checkIndex_8e157_17
    · have hf := wk_f hf q2
      cases hf
set_option maxHeartbeats 4000000 in
set_option maxRecDepth 100000 in
theorem c_J3_checkIndex_8e157_null (l : Launch) (dC : Nat → ClassId) (dI : Nat → Nat → Nat) (Y : Nat → ClassId)   (x0 : Int32) (x1 : Int32) (r : Int32) (hf : f_J3_checkIndex_8e157_ref x0 x1 = some (r)) : Met l yJ3_checkIndex_8e157 wsJ3_checkIndex_8e157 ({ frames := 0, cells := 0, slots := 0, locals := 0 } : Room) (va_Pc [.int x0, .int x1, .null] (wk_B (dC, dI) Y ([] : va_W))) (vp_Si (fun r2 => r2 = r)) 0 0 (fun _ => False) := by
  refine Met.ofW (cc := cJ3_checkIndex_8e157) (maxL := 3) (ret := (some .int)) (by decide) rfl ?_
  intro p e s m args below meth c s₁ B hml hv
  obtain ⟨rfl, hP, hK⟩ := hv
  have hx := B.exec
  have hb := B.bytes
  have hr := B.returns
  have hts := atoms_spec (ws := wsJ3_checkIndex_8e157) B.pre
  have hown : s.vm.findClass RJ3 = some m.cls := findClass_of_methodNamed B.named
  have hlocks := B.notSynchronized
  have C0 : wk_C p s m _ meth c cJ3_checkIndex_8e157 3 (some .int) wsJ3_checkIndex_8e157 RJ3 := ⟨hx, hb, hml, hr, hlocks, hown, hts⟩
  have hP : va_P (dC, dI) vwCl [] s.heap := hP
  have hl := lv_entry ([.int x0, .int x1, .null]) (n := 3) (Nat.le_of_ble_eq_true rfl)
  rw [lg_entry_eq]
  generalize (lg_sl ([.int x0, .int x1, .null]) ++ List.replicate (3 - (lg_sl ([.int x0, .int x1, .null])).length) Slot.unset).toArray = ls at hl ⊢
  have hl : lv_has ls 3 [(0, .int x0), (1, .int x1), (2, .null)] := hl
  rw [f_J3_checkIndex_8e157_ref] at hf
  refine lv_iload_n hx hb dJ3_checkIndex_8e157_0 rfl (lv_at hl 0 rfl) ?_
  refine lv_if_lt (tgt := 9) hx hb dJ3_checkIndex_8e157_1 (by decide) (fun q1 => ?_) (fun q1 => ?_)
  · have hf := wk_t hf q1
    cases hf
  · have hf := wk_f hf q1
    refine lv_iload_n hx hb dJ3_checkIndex_8e157_4 rfl (lv_at hl 0 rfl) ?_
    refine lv_iload_n hx hb dJ3_checkIndex_8e157_5 rfl (lv_at hl 1 rfl) ?_
    refine lv_icmp_lt (tgt := 16) hx hb dJ3_checkIndex_8e157_6 (by decide) (fun q2 => ?_) (fun q2 => ?_)
    · have hf := wk_t hf q2
      refine lv_iload_n hx hb dJ3_checkIndex_8e157_16 rfl (lv_at hl 0 rfl) ?_
      have e0 := wke1 hf
      subst e0
      exact W.iret (v := x0) hx hb hr (fun t ht hW => ⟨x0, rfl, rfl, ht⟩) (fun q h => absurd h List.not_mem_nil) dJ3_checkIndex_8e157_17
    · have hf := wk_f hf q2
      cases hf
theorem lk_J0_checkIndex_df160_RJ0_1053 : Cond.fieldLink RJ0 1053 "jdk/internal/util/Preconditions" "SIOOBE_FORMATTER" "Ljava/util/function/BiFunction;" ∈ wsJ0_checkIndex_df160 := by decide +kernel
def f_J0_checkIndex_df160 (x0 : Int32) (x1 : Int32) : Option (Unit) :=
  wkb1 (f_J3_checkIndex_8e157_ref x0 x1) (fun r1 =>
  some ())
set_option maxHeartbeats 4000000 in
set_option maxRecDepth 100000 in
theorem c_J0_checkIndex_df160 (l : Launch) (dC : Nat → ClassId) (dI : Nat → Nat → Nat) (Y : Nat → ClassId) (g : Nat → Nat → Nat)   (x0 : Int32) (x1 : Int32)  (hf : f_J0_checkIndex_df160 x0 x1 = some ()) : Met l yJ0_checkIndex_df160 wsJ0_checkIndex_df160 ({ frames := 1, cells := 0, slots := 0, locals := 22 } : Room) (va_Pc [.int x0, .int x1] (wk_BT (dC, dI) Y g ([] : va_W))) (va_Sv (fun _ => True)) 0 0 (fun _ => False) := by
  refine Met.ofW (cc := cJ0_checkIndex_df160) (maxL := 2) (ret := none) (by decide) rfl ?_
  intro p e s m args below meth c s₁ B hml hv
  obtain ⟨rfl, ⟨hP, hK⟩, hT⟩ := hv
  have hx := B.exec
  have hb := B.bytes
  have hr := B.returns
  have hts := atoms_spec (ws := wsJ0_checkIndex_df160) B.pre
  have hown : s.vm.findClass RJ0 = some m.cls := findClass_of_methodNamed B.named
  have hlocks := B.notSynchronized
  have C0 : wk_C p s m _ meth c cJ0_checkIndex_df160 2 none wsJ0_checkIndex_df160 RJ0 := ⟨hx, hb, hml, hr, hlocks, hown, hts⟩
  have hP : va_P (dC, dI) vwCl [] s.heap := hP
  have hS : va_S (fun _ : Nat => False) s.heap s.heap [] := va_S.rf
  have hl := lv_entry ([.int x0, .int x1]) (n := 2) (Nat.le_of_ble_eq_true rfl)
  rw [lg_entry_eq]
  generalize (lg_sl ([.int x0, .int x1]) ++ List.replicate (2 - (lg_sl ([.int x0, .int x1])).length) Slot.unset).toArray = ls at hl ⊢
  have hl : lv_has ls 2 [(0, .int x0), (1, .int x1)] := hl
  rw [f_J0_checkIndex_df160] at hf
  refine lv_iload_n hx hb dJ0_checkIndex_df160_0 rfl (lv_at hl 0 rfl) ?_
  refine lv_iload_n hx hb dJ0_checkIndex_df160_1 rfl (lv_at hl 1 rfl) ?_
  rcases (wk_T.thr hT).2.2.2.2.2 with hz | ⟨q9, hz⟩
  · refine va_gets (v := .null) hx hb hz hS hown (hts _ lk_J0_checkIndex_df160_RJ0_1053) (fun _ h9 => h9) dJ0_checkIndex_df160_2 ?_
    obtain ⟨r1, hr2, hf⟩ := wkb1_s hf
    have hPc := hP.sub (ws' := ([] : va_W)) [] rfl
    refine wk_si (As := [.int x0, .int x1, .null]) (rest := []) ⟨hx, hb, hml, hown, hts⟩ (c_J3_checkIndex_8e157_null l dC dI Y x0 x1 r1 hr2) (va_cwS 3 hts gJ0_checkIndex_df160_J3_checkIndex_8e157 rfl rfl rfl (by decide +kernel) ⟨Nat.le_of_ble_eq_true rfl, Nat.le_of_ble_eq_true rfl⟩) hK hPc rfl hl.1 rfl (Nat.le_of_ble_eq_true rfl) dJ0_checkIndex_df160_5 ⟨Nat.le_of_ble_eq_true rfl, Nat.le_of_ble_eq_true rfl⟩ ?_
    refine lv_pop hx hb dJ0_checkIndex_df160_8 rfl ?_
    exact W.vret hx hb hr (fun t ht hW => ⟨rfl, trivial, ht⟩) (fun q h => absurd h List.not_mem_nil) dJ0_checkIndex_df160_9
  · refine va_gets (v := .ref q9) hx hb hz hS hown (hts _ lk_J0_checkIndex_df160_RJ0_1053) (fun _ h9 => h9) dJ0_checkIndex_df160_2 ?_
    obtain ⟨r1, hr2, hf⟩ := wkb1_s hf
    have hPc := hP.sub (ws' := ([] : va_W)) [] rfl
    refine wk_si (As := [.int x0, .int x1, .ref q9]) (rest := []) ⟨hx, hb, hml, hown, hts⟩ (c_J3_checkIndex_8e157_ref l dC dI Y q9 x0 x1 r1 hr2) (va_cwS 3 hts gJ0_checkIndex_df160_J3_checkIndex_8e157 rfl rfl rfl (by decide +kernel) ⟨Nat.le_of_ble_eq_true rfl, Nat.le_of_ble_eq_true rfl⟩) hK hPc rfl hl.1 rfl (Nat.le_of_ble_eq_true rfl) dJ0_checkIndex_df160_5 ⟨Nat.le_of_ble_eq_true rfl, Nat.le_of_ble_eq_true rfl⟩ ?_
    refine lv_pop hx hb dJ0_checkIndex_df160_8 rfl ?_
    exact W.vret hx hb hr (fun t ht hW => ⟨rfl, trivial, ht⟩) (fun q h => absurd h List.not_mem_nil) dJ0_checkIndex_df160_9
theorem lk_J5_charAt_5068e_RJ5_15 : Cond.fieldLink RJ5 15 "java/lang/AbstractStringBuilder" "value" "[B" ∈ wsJ5_charAt_5068e := by decide +kernel
theorem lk_J5_charAt_5068e_RJ5_22 : Cond.fieldLink RJ5 22 "java/lang/AbstractStringBuilder" "coder" "B" ∈ wsJ5_charAt_5068e := by decide +kernel
theorem lk_J5_charAt_5068e_RJ5_79 : Cond.fieldLink RJ5 79 "java/lang/AbstractStringBuilder" "count" "I" ∈ wsJ5_charAt_5068e := by decide +kernel
theorem mx_J5_charAt_5068e_RJ5_138 : Cond.methodLink RJ5 138 Lib.Math.min.name ∈ wsJ5_charAt_5068e ∧ Cond.static Lib.Math.min.name ∈ wsJ5_charAt_5068e ∧ Cond.initialized "java/lang/Math" ∈ wsJ5_charAt_5068e ∧ Cond.code Lib.Math.min.name Lib.Math.min.code 2 (some .int) ∈ wsJ5_charAt_5068e := ⟨by decide +kernel, by decide +kernel, by decide +kernel, by decide +kernel⟩
theorem in_J5_charAt_5068e_J4 : ∀ w ∈ u_ws RJ4 TJ4 4, w ∈ wsJ5_charAt_5068e := by decide +kernel
def f_J5_charAt_5068e (Z_m : Nat) (Z_n : Int32) (Z_f : Nat → Int32) (x1 : Int32) : Option (Int32) :=
  wkl ((if (Int32.ofNat Z_m >>> (0 &&& 31)) < Z_n then (Int32.ofNat Z_m >>> (0 &&& 31)) else Z_n)) (fun v1 =>
  wkb1 (f_J0_checkIndex_df160 x1 v1) (fun _ =>
  gin x1 Z_m (gok ((((((Z_f x1.toNatClampNeg) &&& 255)).toUInt32 % 65536).toInt32).toUInt32.toUInt16.toUInt32.toInt32 = ((((Z_f x1.toNatClampNeg) &&& 255)).toUInt32 % 65536).toInt32) (some (((((Z_f x1.toNatClampNeg) &&& 255)).toUInt32 % 65536).toInt32)))))
set_option maxHeartbeats 4000000 in
set_option maxRecDepth 100000 in
theorem c_J5_charAt_5068e (l : Launch) (dC : Nat → ClassId) (dI : Nat → Nat → Nat) (Y : Nat → ClassId) (g : Nat → Nat → Nat) (a : Nat → Nat) (Z_v : Nat) (Z_m : Nat) (Z_ml : Int32) (Z_n : Int32) (Z_f : Nat → Int32) (x1 : Int32) (r : Int32) (hf : f_J5_charAt_5068e Z_m Z_n Z_f x1 = some (r)) : Met l yJ5_charAt_5068e wsJ5_charAt_5068e ({ frames := 2, cells := 0, slots := 0, locals := 43 } : Room) (va_Pc [.ref (a 0), .int x1] (wk_BT (dC, dI) Y g (wJ4 Y a Z_v Z_m Z_ml Z_n Z_f))) (vp_Si (fun r2 => r2 = r)) 0 0 (fun _ => False) := by
  refine Met.ofW (cc := cJ5_charAt_5068e) (maxL := 5) (ret := (some .char)) (by decide) rfl ?_
  intro p e s m args below meth c s₁ B hml hv
  obtain ⟨rfl, ⟨hP, hK⟩, hT⟩ := hv
  have hx := B.exec
  have hb := B.bytes
  have hr := B.returns
  have hts := atoms_spec (ws := wsJ5_charAt_5068e) B.pre
  have hown : s.vm.findClass RJ5 = some m.cls := findClass_of_methodNamed B.named
  have hlocks := B.notSynchronized
  have C0 : wk_C p s m _ meth c cJ5_charAt_5068e 5 (some .char) wsJ5_charAt_5068e RJ5 := ⟨hx, hb, hml, hr, hlocks, hown, hts⟩
  have hP : va_P (dC, dI) vwCl [(a 0, .inr (1, [.ref Z_v, .int 0, .int Z_ml, .int Z_n])), (Z_v, .inl (Y 1, Z_m, .inl Z_f))] s.heap := hP
  have hS : va_S (fun _ : Nat => False) s.heap s.heap [] := va_S.rf
  have hl := lv_entry ([.ref (a 0), .int x1]) (n := 5) (Nat.le_of_ble_eq_true rfl)
  rw [lg_entry_eq]
  generalize (lg_sl ([.ref (a 0), .int x1]) ++ List.replicate (5 - (lg_sl ([.ref (a 0), .int x1])).length) Slot.unset).toArray = ls at hl ⊢
  have hl : lv_has ls 5 [(0, .ref (a 0)), (1, .int x1)] := hl
  rw [f_J5_charAt_5068e] at hf
  refine lv_aload_n hx hb dJ5_charAt_5068e_0 rfl (lv_at hl 0 rfl) ?_
  refine va_get (D := (dC, dI)) (ci := 1) (v := .int 0) (C := RJ4) (T := TJ4) (N := 4) hx hb hts in_J5_charAt_5068e_J4 hown hK hP 0 rfl rfl 1 (by decide) (hts _ lk_J5_charAt_5068e_RJ5_22) (fun _ h9 => h9) rfl dJ5_charAt_5068e_1 ?_
  refine lv_istore_n (lv' := [(2, .int 0), (0, .ref (a 0)), (1, .int x1)]) hx hb dJ5_charAt_5068e_4 rfl hl (by decide) rfl (fun ls hl => ?_)
  refine lv_aload_n hx hb dJ5_charAt_5068e_5 rfl (lv_at hl 1 rfl) ?_
  refine va_get (D := (dC, dI)) (ci := 1) (v := .ref Z_v) (C := RJ4) (T := TJ4) (N := 4) hx hb hts in_J5_charAt_5068e_J4 hown hK hP 0 rfl rfl 0 (by decide) (hts _ lk_J5_charAt_5068e_RJ5_15) (fun _ h9 => h9) rfl dJ5_charAt_5068e_6 ?_
  refine lv_astore_n (lv' := [(3, .ref Z_v), (2, .int 0), (0, .ref (a 0)), (1, .int x1)]) hx hb dJ5_charAt_5068e_9 rfl hl (by decide) rfl (fun ls hl => ?_)
  refine lv_aload_n hx hb dJ5_charAt_5068e_10 rfl (lv_at hl 2 rfl) ?_
  refine va_get (D := (dC, dI)) (ci := 1) (v := .int Z_n) (C := RJ4) (T := TJ4) (N := 4) hx hb hts in_J5_charAt_5068e_J4 hown hK hP 0 rfl rfl 3 (by decide) (hts _ lk_J5_charAt_5068e_RJ5_79) (fun _ h9 => h9) rfl dJ5_charAt_5068e_11 ?_
  refine lv_aload_n hx hb dJ5_charAt_5068e_14 rfl (lv_at hl 0 rfl) ?_
  refine va_alen (D := (dC, dI)) (v := Int32.ofNat Z_m) hx hb hK hP 1 1 rfl rfl rfl dJ5_charAt_5068e_15 ?_
  refine lv_iload_n hx hb dJ5_charAt_5068e_16 rfl (lv_at hl 1 rfl) ?_
  refine lv_ishr hx hb dJ5_charAt_5068e_17 ?_
  refine va_mmin hx hb (hml.trans hl.1.symm) hown (hts _ mx_J5_charAt_5068e_RJ5_138.1) (hts _ mx_J5_charAt_5068e_RJ5_138.2.1) (hts _ mx_J5_charAt_5068e_RJ5_138.2.2.1) (hts _ mx_J5_charAt_5068e_RJ5_138.2.2.2) (Nat.le_of_ble_eq_true rfl) (Nat.le_of_ble_eq_true rfl) (Nat.le_of_ble_eq_true rfl) (Nat.le_of_ble_eq_true rfl) dJ5_charAt_5068e_18 ?_
  refine lv_topi (fun v1 ev1 => ?_)
  have hf := wkl_s hf ev1
  refine lv_istore (lv' := [(4, .int v1), (3, .ref Z_v), (2, .int 0), (0, .ref (a 0)), (1, .int x1)]) hx hb dJ5_charAt_5068e_21 hl (by decide) rfl (fun ls hl => ?_)
  refine lv_iload_n hx hb dJ5_charAt_5068e_23 rfl (lv_at hl 4 rfl) ?_
  refine lv_iload hx hb dJ5_charAt_5068e_24 (lv_at hl 0 rfl) ?_
  obtain ⟨_, hr2, hf⟩ := wkb1_s hf
  have hPc := hP.sub (ws' := ([] : va_W)) [] rfl
  refine wk_svT (As := [.int x1, .int v1]) (rest := []) ⟨hx, hb, hml, hown, hts⟩ (c_J0_checkIndex_df160 l dC dI Y g x1 v1  hr2) (va_cwS 2 hts gJ5_charAt_5068e_J0_checkIndex_df160 rfl rfl rfl (by decide +kernel) ⟨Nat.le_of_ble_eq_true rfl, Nat.le_of_ble_eq_true rfl⟩) hK hPc hT hS rfl hl.1 rfl (Nat.le_of_ble_eq_true rfl) dJ5_charAt_5068e_26 ⟨Nat.le_of_ble_eq_true rfl, Nat.le_of_ble_eq_true rfl⟩ ?_
  refine lv_iload_n hx hb dJ5_charAt_5068e_29 rfl (lv_at hl 2 rfl) ?_
  refine lv_if_ne (tgt := 42) hx hb dJ5_charAt_5068e_30 (by decide) (fun q9 => absurd q9 (by decide)) (fun _ => ?_)
  refine lv_aload_n hx hb dJ5_charAt_5068e_33 rfl (lv_at hl 1 rfl) ?_
  refine lv_iload_n hx hb dJ5_charAt_5068e_34 rfl (lv_at hl 4 rfl) ?_
  obtain ⟨h3, hf⟩ := gin_s hf
  refine va_bald hx hb hK hP 1 1 rfl rfl h3 dJ5_charAt_5068e_35 ?_
  refine lv_sipush (v := 255) hx hb dJ5_charAt_5068e_36 (by decide) ?_
  refine lv_iand hx hb dJ5_charAt_5068e_39 ?_
  refine lv_i2c hx hb dJ5_charAt_5068e_40 rfl ?_
  obtain ⟨h01, hf⟩ := gok_s hf
  have e0 := wke1 hf
  subst e0
  exact W.zret (v := ((((Z_f x1.toNatClampNeg) &&& 255)).toUInt32 % 65536).toInt32) (ty := .char) hx hb hr (gch_n h01) (fun t ht hW => ⟨((((Z_f x1.toNatClampNeg) &&& 255)).toUInt32 % 65536).toInt32, rfl, rfl, ht⟩) (fun q h => absurd h List.not_mem_nil) dJ5_charAt_5068e_41
def f_J4_charAt_5068e (Z_m : Nat) (Z_n : Int32) (Z_f : Nat → Int32) (x1 : Int32) : Option (Int32) :=
  wkb1 (f_J5_charAt_5068e Z_m Z_n Z_f x1) (fun r1 =>
  gok (r1.toUInt32.toUInt16.toUInt32.toInt32 = r1) (some (r1)))
set_option maxHeartbeats 4000000 in
set_option maxRecDepth 100000 in
theorem c_J4_charAt_5068e (l : Launch) (dC : Nat → ClassId) (dI : Nat → Nat → Nat) (Y : Nat → ClassId) (g : Nat → Nat → Nat) (a : Nat → Nat) (Z_v : Nat) (Z_m : Nat) (Z_ml : Int32) (Z_n : Int32) (Z_f : Nat → Int32) (x1 : Int32) (r : Int32) (hf : f_J4_charAt_5068e Z_m Z_n Z_f x1 = some (r)) : Met l yJ4_charAt_5068e wsJ4_charAt_5068e ({ frames := 3, cells := 0, slots := 0, locals := 67 } : Room) (va_Pc [.ref (a 0), .int x1] (wk_BT (dC, dI) Y g (wJ4 Y a Z_v Z_m Z_ml Z_n Z_f))) (vp_Si (fun r2 => r2 = r)) 0 0 (fun _ => False) := by
  refine Met.ofW (cc := cJ4_charAt_5068e) (maxL := 2) (ret := (some .char)) (by decide) rfl ?_
  intro p e s m args below meth c s₁ B hml hv
  obtain ⟨rfl, ⟨hP, hK⟩, hT⟩ := hv
  have hx := B.exec
  have hb := B.bytes
  have hr := B.returns
  have hts := atoms_spec (ws := wsJ4_charAt_5068e) B.pre
  have hown : s.vm.findClass RJ4 = some m.cls := findClass_of_methodNamed B.named
  have hlocks := B.notSynchronized
  have C0 : wk_C p s m _ meth c cJ4_charAt_5068e 2 (some .char) wsJ4_charAt_5068e RJ4 := ⟨hx, hb, hml, hr, hlocks, hown, hts⟩
  have hP : va_P (dC, dI) vwCl [(a 0, .inr (1, [.ref Z_v, .int 0, .int Z_ml, .int Z_n])), (Z_v, .inl (Y 1, Z_m, .inl Z_f))] s.heap := hP
  have hS : va_S (fun _ : Nat => False) s.heap s.heap [] := va_S.rf
  have hl := lv_entry ([.ref (a 0), .int x1]) (n := 2) (Nat.le_of_ble_eq_true rfl)
  rw [lg_entry_eq]
  generalize (lg_sl ([.ref (a 0), .int x1]) ++ List.replicate (2 - (lg_sl ([.ref (a 0), .int x1])).length) Slot.unset).toArray = ls at hl ⊢
  have hl : lv_has ls 2 [(0, .ref (a 0)), (1, .int x1)] := hl
  rw [f_J4_charAt_5068e] at hf
  refine lv_aload_n hx hb dJ4_charAt_5068e_0 rfl (lv_at hl 0 rfl) ?_
  refine lv_iload_n hx hb dJ4_charAt_5068e_1 rfl (lv_at hl 1 rfl) ?_
  obtain ⟨r1, hr2, hf⟩ := wkb1_s hf
  have hPc := hP.sub (ws' := (wJ4 Y a Z_v Z_m Z_ml Z_n Z_f)) [0, 1] rfl
  refine wg_pi (va_Run.run (va_runSU (hK.1 1 _ rfl).2 (As := [.int x1]) (rest := []) ⟨hx, hb, hml, hown, hts⟩ (c_J5_charAt_5068e l dC dI Y g a Z_v Z_m Z_ml Z_n Z_f x1 r1 hr2) (va_cwSU 1 hts gJ4_charAt_5068e_J5_charAt_5068e_s329 rfl rfl rfl (by decide +kernel) ⟨Nat.le_of_ble_eq_true rfl, Nat.le_of_ble_eq_true rfl⟩) ⟨wk_BTb, (va_recv hK hP (ci := 1) (q0 := 0) rfl rfl), wk_BTp hK hPc hT hS⟩ rfl rfl hl.1 rfl (lv_room (Nat.le_of_ble_eq_true rfl)) dJ4_charAt_5068e_2 ⟨Nat.le_of_ble_eq_true rfl, Nat.le_of_ble_eq_true rfl⟩)) ?_
  obtain ⟨h01, hf⟩ := gok_s hf
  have e0 := wke1 hf
  subst e0
  exact W.zret (v := r1) (ty := .char) hx hb hr (gch_n h01) (fun t ht hW => ⟨r1, rfl, rfl, ht⟩) (fun q h => absurd h List.not_mem_nil) dJ4_charAt_5068e_5
theorem lk_J5_setLength_d00df_RJ5_73 : Cond.fieldLink RJ5 73 "java/lang/AbstractStringBuilder" "maybeLatin1" "Z" ∈ wsJ5_setLength_d00df := by decide +kernel
theorem lk_J5_setLength_d00df_RJ5_79 : Cond.fieldLink RJ5 79 "java/lang/AbstractStringBuilder" "count" "I" ∈ wsJ5_setLength_d00df := by decide +kernel
theorem in_J5_setLength_d00df_J4 : ∀ w ∈ u_ws RJ4 TJ4 4, w ∈ wsJ5_setLength_d00df := by decide +kernel
def f_J5_setLength_d00df (Z_m : Nat) (Z_ml : Int32) (Z_n : Int32) (Z_f : Nat → Int32) (x1 : Int32) : Option (Nat × Int32 × Int32 × (Nat → Int32)) :=
  if (0 : Int32) ≤ x1 then
    (wkb2 (f_J5_ensureCapacityInternal_d00df Z_m Z_f x1) (fun w2 w3 =>
    if x1 ≤ Z_n then
      (if Z_n ≤ x1 then
        (some (w2, Z_ml, x1, w3))
      else
        (some (w2, 1, x1, w3)))
    else
      (none)))
  else
    (none)
set_option maxHeartbeats 4000000 in
set_option maxRecDepth 100000 in
theorem c_J5_setLength_d00df (l : Launch) (dC : Nat → ClassId) (dI : Nat → Nat → Nat) (Y : Nat → ClassId) (a : Nat → Nat) (Z_v : Nat) (Z_m : Nat) (Z_ml : Int32) (Z_n : Int32) (Z_f : Nat → Int32) (x1 : Int32) (sz : Nat) (zZ_m : Nat) (zZ_ml : Int32) (zZ_n : Int32) (zZ_f : Nat → Int32) (hf : f_J5_setLength_d00df Z_m Z_ml Z_n Z_f x1 = some (zZ_m, zZ_ml, zZ_n, zZ_f)) : Met l yJ5_setLength_d00df wsJ5_setLength_d00df ({ frames := 4, cells := 1, slots := 142, locals := 244 } : Room) (va_Pc [.ref (a 0), .int x1] (wk_E (dC, dI) Y (wJ4 Y a Z_v Z_m Z_ml Z_n Z_f) sz)) (va_Qv (fun (_ : Nat) => True) (fun u9 t => wk_X (dC, dI) Y (wJ4 Y a u9 zZ_m zZ_ml zZ_n zZ_f) (va_A (wJ4 Y a Z_v Z_m Z_ml Z_n Z_f) sz) t) (va_A (wJ4 Y a Z_v Z_m Z_ml Z_n Z_f) sz)) 1 142 (va_A (wJ4 Y a Z_v Z_m Z_ml Z_n Z_f) sz) := by
  refine Met.ofW (cc := cJ5_setLength_d00df) (maxL := 2) (ret := none) (by decide) rfl ?_
  intro p e s m args below meth c s₁ B hml hv
  obtain ⟨rfl, hsz, hP, hK, hD0⟩ := hv
  have hx := B.exec
  have hb := B.bytes
  have hr := B.returns
  have hts := atoms_spec (ws := wsJ5_setLength_d00df) B.pre
  have hown : s.vm.findClass RJ5 = some m.cls := findClass_of_methodNamed B.named
  have hlocks := B.notSynchronized
  have C0 : wk_C p s m _ meth c cJ5_setLength_d00df 2 none wsJ5_setLength_d00df RJ5 := ⟨hx, hb, hml, hr, hlocks, hown, hts⟩
  subst hsz
  have hD := hD0.self (sz := s.heap.size)
  generalize hAe : va_A (wJ4 Y a Z_v Z_m Z_ml Z_n Z_f) s.heap.size = A at hD ⊢
  have hA : ∀ q : Nat, s.heap.size ≤ q → A q := fun q h => by rw [← hAe]; exact Or.inr h
  have hS : va_S A s.heap s.heap [] := va_S.rf
  obtain ⟨H, hHe⟩ : ∃ H, H = s.heap := ⟨_, rfl⟩
  have hS : va_S A s.heap H [] := by rw [hHe]; exact hS
  have hP : va_P (dC, dI) vwCl [(a 0, .inr (1, [.ref Z_v, .int 0, .int Z_ml, .int Z_n])), (Z_v, .inl (Y 1, Z_m, .inl Z_f))] H := by rw [hHe]; exact hP
  have hD : va_D A [(a 0, .inr (1, [.ref Z_v, .int 0, .int Z_ml, .int Z_n])), (Z_v, .inl (Y 1, Z_m, .inl Z_f))] := hD
  obtain ⟨locs, hlo⟩ : ∃ locs : List Loc, locs = [] := ⟨_, rfl⟩
  have hS : va_S A s.heap H locs := by rw [hlo]; exact hS
  have hl := lv_entry ([.ref (a 0), .int x1]) (n := 2) (Nat.le_of_ble_eq_true rfl)
  rw [lg_entry_eq]
  generalize (lg_sl ([.ref (a 0), .int x1]) ++ List.replicate (2 - (lg_sl ([.ref (a 0), .int x1])).length) Slot.unset).toArray = ls at hl ⊢
  have hl : lv_has ls 2 [(0, .ref (a 0)), (1, .int x1)] := hl
  refine wk_start hHe hlo ?_
  rw [f_J5_setLength_d00df] at hf
  refine lv_iload_n hx hb dJ5_setLength_d00df_0 rfl (lv_at hl 1 rfl) ?_
  refine lv_if_ge (tgt := 13) hx hb dJ5_setLength_d00df_1 (by decide) (fun q1 => ?_) (fun q1 => ?_)
  · have hf := wk_t hf q1
    refine lv_aload_n hx hb dJ5_setLength_d00df_13 rfl (lv_at hl 0 rfl) ?_
    refine lv_iload_n hx hb dJ5_setLength_d00df_14 rfl (lv_at hl 1 rfl) ?_
    obtain ⟨w2, w3, hr4, hf⟩ := wkb2_s hf
    have hPc := hP.sub (ws' := (wJ4 Y a Z_v Z_m Z_ml Z_n Z_f)) [0, 1] rfl
    have hDc := hD.sub (ws' := (wJ4 Y a Z_v Z_m Z_ml Z_n Z_f)) [0, 1] (by decide) rfl
    have hFc := va_free (wc := (wJ4 Y a Z_v Z_m Z_ml Z_n Z_f)) hD hS hA [0, 1] rfl
    refine wg_ev (wc := (wJ4 Y a Z_v Z_m Z_ml Z_n Z_f)) (w1 := fun (u5 : Nat) => (wJ4 Y a u5 w2 Z_ml Z_n w3)) (wr := []) (va_runU (As := [.int x1]) (rest := []) ⟨hx, hb, hml, hown, hts⟩ (c_J5_ensureCapacityInternal_d00df l dC dI Y a Z_v Z_m Z_ml Z_n Z_f x1 H.size w2 w3 hr4) (va_cwU (C := RJ4) 1 hts gJ5_setLength_d00df_J5_ensureCapacityInternal_d00df_u100J4 rfl rfl rfl rfl (by decide +kernel) ⟨Nat.le_of_ble_eq_true rfl, Nat.le_of_ble_eq_true rfl⟩) ⟨wk_Eb, (va_recv hK hP (ci := 1) (q0 := 0) rfl rfl), wk_Ep hK hPc hDc⟩ rfl rfl hl.1 rfl (lv_room (Nat.le_of_ble_eq_true rfl)) dJ5_setLength_d00df_15 ⟨Nat.le_of_ble_eq_true rfl, Nat.le_of_ble_eq_true rfl⟩) hP hD hS [0, 1] [] rfl rfl (by decide) (by decide) (by decide) hFc (fun u5 H locs hP hD hS => ?_)
    have hP : va_P (dC, dI) vwCl [(a 0, .inr (1, [.ref u5, .int 0, .int Z_ml, .int Z_n])), (u5, .inl (Y 1, w2, .inl w3))] H := hP
    have hD : va_D A [(a 0, .inr (1, [.ref u5, .int 0, .int Z_ml, .int Z_n])), (u5, .inl (Y 1, w2, .inl w3))] := hD
    refine lv_aload_n hx hb dJ5_setLength_d00df_18 rfl (lv_at hl 0 rfl) ?_
    refine va_get (D := (dC, dI)) (ci := 1) (v := .int Z_n) (C := RJ4) (T := TJ4) (N := 4) hx hb hts in_J5_setLength_d00df_J4 hown hK hP 0 rfl rfl 3 (by decide) (hts _ lk_J5_setLength_d00df_RJ5_79) (fun _ h9 => h9) rfl dJ5_setLength_d00df_19 ?_
    refine lv_iload_n hx hb dJ5_setLength_d00df_22 rfl (lv_at hl 1 rfl) ?_
    refine lv_icmp_ge (tgt := 63) hx hb dJ5_setLength_d00df_23 (by decide) (fun q6 => ?_) (fun q6 => ?_)
    · have hf := wk_t hf q6
      refine lv_aload_n hx hb dJ5_setLength_d00df_63 rfl (lv_at hl 0 rfl) ?_
      refine va_get (D := (dC, dI)) (ci := 1) (v := .int Z_n) (C := RJ4) (T := TJ4) (N := 4) hx hb hts in_J5_setLength_d00df_J4 hown hK hP 0 rfl rfl 3 (by decide) (hts _ lk_J5_setLength_d00df_RJ5_79) (fun _ h9 => h9) rfl dJ5_setLength_d00df_64 ?_
      refine lv_iload_n hx hb dJ5_setLength_d00df_67 rfl (lv_at hl 1 rfl) ?_
      refine lv_icmp_le (tgt := 76) hx hb dJ5_setLength_d00df_68 (by decide) (fun q7 => ?_) (fun q7 => ?_)
      · have hf := wk_t hf q7
        refine lv_aload_n hx hb dJ5_setLength_d00df_76 rfl (lv_at hl 0 rfl) ?_
        refine lv_iload_n hx hb dJ5_setLength_d00df_77 rfl (lv_at hl 1 rfl) ?_
        refine va_put (D := (dC, dI)) (ci := 1) (v := .int x1) (ty := .int) (C := RJ4) (T := TJ4) (N := 4) hx hb hts in_J5_setLength_d00df_J4 tyJ4 tyJ4_ok nmJ4 hown hK hP hD hS 0 rfl rfl 3 (by decide) (hts _ lk_J5_setLength_d00df_RJ5_79) (fun _ h9 => h9) rfl (by decide +kernel) rfl rfl (Nat.le_of_ble_eq_true rfl) dJ5_setLength_d00df_78 (fun H locs hP hD hS => ?_)
        have hP : va_P (dC, dI) vwCl [(a 0, .inr (1, [.ref u5, .int 0, .int Z_ml, .int x1])), (u5, .inl (Y 1, w2, .inl w3))] H := hP
        have hD : va_D A [(a 0, .inr (1, [.ref u5, .int 0, .int Z_ml, .int x1])), (u5, .inl (Y 1, w2, .inl w3))] := hD
        obtain ⟨e0, e1, e2, e3⟩ := wke4 hf
        subst e0
        subst e1
        subst e2
        subst e3
        have hP9 := hP.sub (ws' := (wJ4 Y a u5 w2 Z_ml x1 w3)) [0, 1] rfl
        have hD9 := hD.sub (ws' := (wJ4 Y a u5 w2 Z_ml x1 w3)) [0, 1] (by decide) rfl
        refine W.widen (k := 1) (n := 142) (Nat.le_of_ble_eq_true rfl) (Nat.le_of_ble_eq_true rfl) ?_
        exact W.vret hx hb hr (fun t ht hW => ⟨⟨u5, rfl, trivial, by rw [ht]; exact hP9, va_K.moved hW.alike hK, hD9⟩, hS.F ht⟩) hS.2.2 dJ5_setLength_d00df_81
      · have hf := wk_f hf q7
        refine lv_aload_n hx hb dJ5_setLength_d00df_71 rfl (lv_at hl 0 rfl) ?_
        refine lv_iconst (v := 1) hx hb dJ5_setLength_d00df_72 (by decide) ?_
        refine va_put (D := (dC, dI)) (ci := 1) (v := .int 1) (ty := .boolean) (C := RJ4) (T := TJ4) (N := 4) hx hb hts in_J5_setLength_d00df_J4 tyJ4 tyJ4_ok nmJ4 hown hK hP hD hS 0 rfl rfl 2 (by decide) (hts _ lk_J5_setLength_d00df_RJ5_73) (fun _ h9 => h9) rfl (by decide +kernel) rfl rfl (Nat.le_of_ble_eq_true rfl) dJ5_setLength_d00df_73 (fun H locs hP hD hS => ?_)
        have hP : va_P (dC, dI) vwCl [(a 0, .inr (1, [.ref u5, .int 0, .int 1, .int Z_n])), (u5, .inl (Y 1, w2, .inl w3))] H := hP
        have hD : va_D A [(a 0, .inr (1, [.ref u5, .int 0, .int 1, .int Z_n])), (u5, .inl (Y 1, w2, .inl w3))] := hD
        refine lv_aload_n hx hb dJ5_setLength_d00df_76 rfl (lv_at hl 0 rfl) ?_
        refine lv_iload_n hx hb dJ5_setLength_d00df_77 rfl (lv_at hl 1 rfl) ?_
        refine va_put (D := (dC, dI)) (ci := 1) (v := .int x1) (ty := .int) (C := RJ4) (T := TJ4) (N := 4) hx hb hts in_J5_setLength_d00df_J4 tyJ4 tyJ4_ok nmJ4 hown hK hP hD hS 0 rfl rfl 3 (by decide) (hts _ lk_J5_setLength_d00df_RJ5_79) (fun _ h9 => h9) rfl (by decide +kernel) rfl rfl (Nat.le_of_ble_eq_true rfl) dJ5_setLength_d00df_78 (fun H locs hP hD hS => ?_)
        have hP : va_P (dC, dI) vwCl [(a 0, .inr (1, [.ref u5, .int 0, .int 1, .int x1])), (u5, .inl (Y 1, w2, .inl w3))] H := hP
        have hD : va_D A [(a 0, .inr (1, [.ref u5, .int 0, .int 1, .int x1])), (u5, .inl (Y 1, w2, .inl w3))] := hD
        obtain ⟨e0, e1, e2, e3⟩ := wke4 hf
        subst e0
        subst e1
        subst e2
        subst e3
        have hP9 := hP.sub (ws' := (wJ4 Y a u5 w2 1 x1 w3)) [0, 1] rfl
        have hD9 := hD.sub (ws' := (wJ4 Y a u5 w2 1 x1 w3)) [0, 1] (by decide) rfl
        refine W.widen (k := 1) (n := 142) (Nat.le_of_ble_eq_true rfl) (Nat.le_of_ble_eq_true rfl) ?_
        exact W.vret hx hb hr (fun t ht hW => ⟨⟨u5, rfl, trivial, by rw [ht]; exact hP9, va_K.moved hW.alike hK, hD9⟩, hS.F ht⟩) hS.2.2 dJ5_setLength_d00df_81
    · have hf := wk_f hf q6
      cases hf
  · have hf := wk_f hf q1
    cases hf
def f_J4_setLength_d00df (Z_m : Nat) (Z_ml : Int32) (Z_n : Int32) (Z_f : Nat → Int32) (x1 : Int32) : Option (Nat × Int32 × Int32 × (Nat → Int32)) :=
  wkb4 (f_J5_setLength_d00df Z_m Z_ml Z_n Z_f x1) (fun w1 w2 w3 w4 =>
  some (w1, w2, w3, w4))
set_option maxHeartbeats 4000000 in
set_option maxRecDepth 100000 in
theorem c_J4_setLength_d00df (l : Launch) (dC : Nat → ClassId) (dI : Nat → Nat → Nat) (Y : Nat → ClassId) (a : Nat → Nat) (Z_v : Nat) (Z_m : Nat) (Z_ml : Int32) (Z_n : Int32) (Z_f : Nat → Int32) (x1 : Int32) (sz : Nat) (zZ_m : Nat) (zZ_ml : Int32) (zZ_n : Int32) (zZ_f : Nat → Int32) (hf : f_J4_setLength_d00df Z_m Z_ml Z_n Z_f x1 = some (zZ_m, zZ_ml, zZ_n, zZ_f)) : Met l yJ4_setLength_d00df wsJ4_setLength_d00df ({ frames := 5, cells := 1, slots := 142, locals := 265 } : Room) (va_Pc [.ref (a 0), .int x1] (wk_E (dC, dI) Y (wJ4 Y a Z_v Z_m Z_ml Z_n Z_f) sz)) (va_Qv (fun (_ : Nat) => True) (fun u9 t => wk_X (dC, dI) Y (wJ4 Y a u9 zZ_m zZ_ml zZ_n zZ_f) (va_A (wJ4 Y a Z_v Z_m Z_ml Z_n Z_f) sz) t) (va_A (wJ4 Y a Z_v Z_m Z_ml Z_n Z_f) sz)) 1 142 (va_A (wJ4 Y a Z_v Z_m Z_ml Z_n Z_f) sz) := by
  refine Met.ofW (cc := cJ4_setLength_d00df) (maxL := 2) (ret := none) (by decide) rfl ?_
  intro p e s m args below meth c s₁ B hml hv
  obtain ⟨rfl, hsz, hP, hK, hD0⟩ := hv
  have hx := B.exec
  have hb := B.bytes
  have hr := B.returns
  have hts := atoms_spec (ws := wsJ4_setLength_d00df) B.pre
  have hown : s.vm.findClass RJ4 = some m.cls := findClass_of_methodNamed B.named
  have hlocks := B.notSynchronized
  have C0 : wk_C p s m _ meth c cJ4_setLength_d00df 2 none wsJ4_setLength_d00df RJ4 := ⟨hx, hb, hml, hr, hlocks, hown, hts⟩
  subst hsz
  have hD := hD0.self (sz := s.heap.size)
  generalize hAe : va_A (wJ4 Y a Z_v Z_m Z_ml Z_n Z_f) s.heap.size = A at hD ⊢
  have hA : ∀ q : Nat, s.heap.size ≤ q → A q := fun q h => by rw [← hAe]; exact Or.inr h
  have hS : va_S A s.heap s.heap [] := va_S.rf
  obtain ⟨H, hHe⟩ : ∃ H, H = s.heap := ⟨_, rfl⟩
  have hS : va_S A s.heap H [] := by rw [hHe]; exact hS
  have hP : va_P (dC, dI) vwCl [(a 0, .inr (1, [.ref Z_v, .int 0, .int Z_ml, .int Z_n])), (Z_v, .inl (Y 1, Z_m, .inl Z_f))] H := by rw [hHe]; exact hP
  have hD : va_D A [(a 0, .inr (1, [.ref Z_v, .int 0, .int Z_ml, .int Z_n])), (Z_v, .inl (Y 1, Z_m, .inl Z_f))] := hD
  obtain ⟨locs, hlo⟩ : ∃ locs : List Loc, locs = [] := ⟨_, rfl⟩
  have hS : va_S A s.heap H locs := by rw [hlo]; exact hS
  have hl := lv_entry ([.ref (a 0), .int x1]) (n := 2) (Nat.le_of_ble_eq_true rfl)
  rw [lg_entry_eq]
  generalize (lg_sl ([.ref (a 0), .int x1]) ++ List.replicate (2 - (lg_sl ([.ref (a 0), .int x1])).length) Slot.unset).toArray = ls at hl ⊢
  have hl : lv_has ls 2 [(0, .ref (a 0)), (1, .int x1)] := hl
  refine wk_start hHe hlo ?_
  rw [f_J4_setLength_d00df] at hf
  refine lv_aload_n hx hb dJ4_setLength_d00df_0 rfl (lv_at hl 0 rfl) ?_
  refine lv_iload_n hx hb dJ4_setLength_d00df_1 rfl (lv_at hl 1 rfl) ?_
  obtain ⟨w1, w2, w3, w4, hr5, hf⟩ := wkb4_s hf
  have hPc := hP.sub (ws' := (wJ4 Y a Z_v Z_m Z_ml Z_n Z_f)) [0, 1] rfl
  have hDc := hD.sub (ws' := (wJ4 Y a Z_v Z_m Z_ml Z_n Z_f)) [0, 1] (by decide) rfl
  have hFc := va_free (wc := (wJ4 Y a Z_v Z_m Z_ml Z_n Z_f)) hD hS hA [0, 1] rfl
  refine wg_ev (wc := (wJ4 Y a Z_v Z_m Z_ml Z_n Z_f)) (w1 := fun (u6 : Nat) => (wJ4 Y a u6 w1 w2 w3 w4)) (wr := []) (va_runSU (hK.1 1 _ rfl).2 (As := [.int x1]) (rest := []) ⟨hx, hb, hml, hown, hts⟩ (c_J5_setLength_d00df l dC dI Y a Z_v Z_m Z_ml Z_n Z_f x1 H.size w1 w2 w3 w4 hr5) (va_cwSU 1 hts gJ4_setLength_d00df_J5_setLength_d00df_s333 rfl rfl rfl (by decide +kernel) ⟨Nat.le_of_ble_eq_true rfl, Nat.le_of_ble_eq_true rfl⟩) ⟨wk_Eb, (va_recv hK hP (ci := 1) (q0 := 0) rfl rfl), wk_Ep hK hPc hDc⟩ rfl rfl hl.1 rfl (lv_room (Nat.le_of_ble_eq_true rfl)) dJ4_setLength_d00df_2 ⟨Nat.le_of_ble_eq_true rfl, Nat.le_of_ble_eq_true rfl⟩) hP hD hS [0, 1] [] rfl rfl (by decide) (by decide) (by decide) hFc (fun u6 H locs hP hD hS => ?_)
  have hP : va_P (dC, dI) vwCl [(a 0, .inr (1, [.ref u6, .int 0, .int w2, .int w3])), (u6, .inl (Y 1, w1, .inl w4))] H := hP
  have hD : va_D A [(a 0, .inr (1, [.ref u6, .int 0, .int w2, .int w3])), (u6, .inl (Y 1, w1, .inl w4))] := hD
  obtain ⟨e0, e1, e2, e3⟩ := wke4 hf
  subst e0
  subst e1
  subst e2
  subst e3
  have hP9 := hP.sub (ws' := (wJ4 Y a u6 w1 w2 w3 w4)) [0, 1] rfl
  have hD9 := hD.sub (ws' := (wJ4 Y a u6 w1 w2 w3 w4)) [0, 1] (by decide) rfl
  refine W.widen (k := 1) (n := 142) (Nat.le_of_ble_eq_true rfl) (Nat.le_of_ble_eq_true rfl) ?_
  exact W.vret hx hb hr (fun t ht hW => ⟨⟨u6, rfl, trivial, by rw [ht]; exact hP9, va_K.moved hW.alike hK, hD9⟩, hS.F ht⟩) hS.2.2 dJ4_setLength_d00df_5
