/-! what nobody writes: enum constants, their texts, the static rows -/
abbrev sRef : List String := ["NONE", "INDEX", "ARGUMENT", "STATE", "UNSUPPORTED"]
abbrev sCmd : List String := ["ACROBAT", "POST", "PAY", "SHOW", "NET", "NIGHT", "CLOSE", "CANCEL"]
/-- the texts: the forms of the commands, then the words of the reference -/
abbrev sTxt : List (List Nat) := [[97,99,114,111,98,97,116,32,35,32,35,32,35,32,35], [112,111,115,116,32,35,62,35,32,35], [112,97,121,32,63,32,35], [115,104,111,119,32,42], [110,101,116,32,63], [110,105,103,104,116,126], [99,108,111,115,101], [99,97,110,99,101,108,32,35,32,35],
  [116], [105,103,104,116], [99,114,111,98,97,116], [104,111,119], [111,115,101], [97,110,99,101,108], [115,116], [97,121]]
def sLen (i : Nat) : Nat := (sTxt.getD i []).length
def sByt (i j : Nat) : Int32 := nI ((sTxt.getD i []).getD j 0)
/-- a text: k its object, v its bytes -/
abbrev wk_Str (k v n : Nat) (f : Nat → Int32) (A : Nat → Prop) (U : State) (H : Heap) : Prop := va_O "java/lang/String" k A U H ∧ va_OF "java/lang/String" "coder" "B" (.int 0) k A U H ∧ va_OF "java/lang/String" "value" "[B" (.ref v) k A U H ∧ va_T .byte v n (fun j => .int (f j)) A U H
def sSw (j : Nat) : Int32 := nI ([1, 2, 3, 4, 5, 6, 8, 7].getD j 0)
def sTen (j : Nat) : Int32 := nI (48 + j / 10)
def sOne (j : Nat) : Int32 := nI (48 + j % 10)
/-- the texts of the class's throws, and the reference's words, where they stand in the pools -/
abbrev sMsg : List (Nat × String) := [(169, "the acrobat is not in the set"), (295, "the output text has no such index"), (304, "the character is not printable"), (310, "the script buffer is full"), (322, "the script does not have the required form"), (341, "a command of the script failed"), (351, "there is nothing to undo"), (364, "there is no snapshot"), (373, "there is no such acrobat"), (378, "the set is empty or has others than the acrobats that exist"), (381, "there is no such account"), (383, "there is no such entry in the journal"), (390, "no balance is positive"), (393, "the column has only one acrobat"), (395, "there is no such thing"), (400, "there is no such acrobat or account"), (405, "an argument is not allowed"), (410, "the state does not allow this change"), (417, "the circus cannot do this now")]
abbrev sWrd : List (Nat × String) := [(224, "t"), (233, "ight"), (235, "crobat"), (237, "how"), (245, "ose"), (247, "ancel"), (249, "st"), (251, "ay")]
abbrev sExc : List String := ["java/lang/IndexOutOfBoundsException", "java/lang/IllegalArgumentException", "java/lang/IllegalStateException", "java/lang/ArithmeticException", "java/lang/UnsupportedOperationException", "java/util/NoSuchElementException"]
abbrev sThr : List String := ["java/lang/RuntimeException", "java/lang/Exception", "java/lang/Throwable"]
/-- the commands: objects with their ordinals (nobody asks for their statics) -/
def wk_Cm (ad : Nat → Nat) (A : Nat → Prop) (U : State) (H : Heap) : Prop := ∀ i : Nat, i < 8 → va_O "CircusLedger$Command" (ad i) A U H ∧ va_OF "java/lang/Enum" "ordinal" "I" (.int (([0, 1, 2, 3, 4, 5, 6, 7] : List Int32).getD i 0)) (ad i) A U H
theorem wk_Cm.moved {ad : Nat → Nat} {A : Nat → Prop} {u U : State} {H : Heap} (hvm : u.vm.Alike U.vm) (h : wk_Cm ad A u H) : wk_Cm ad A U H := fun i hi => ⟨va_O.moved hvm (h i hi).1, va_OF.moved hvm (h i hi).2⟩
theorem wk_Cm.kept {ad : Nat → Nat} {A : Nat → Prop} {U : State} {H H1 : Heap} (h : wk_Cm ad A U H) (hq : ∀ a : Nat, a < H.size → ¬ A a → H1[a]? = H[a]?) : wk_Cm ad A U H1 := fun i hi => ⟨(h i hi).1.kept hq, (h i hi).2.kept hq⟩
theorem wk_Cm.narrow {ad : Nat → Nat} {A B : Nat → Prop} {U : State} {H : Heap} (h : wk_Cm ad A U H) (hAB : ∀ q, B q → A q) : wk_Cm ad B U H := fun i hi => ⟨(h i hi).1.narrow hAB, (h i hi).2.narrow hAB⟩
def wk_T (g : Nat → Nat → Nat) (A : Nat → Prop) (U : State) (H : Heap) : Prop :=
  va_En "CircusLedger$Refusal" "LCircusLedger$Refusal;" sRef [] (g 0) A U H ∧
  wk_Cm (g 1) A U H ∧
  (∀ i : Nat, i < 8 → va_OF "CircusLedger$Command" "form" "Ljava/lang/String;" (.ref (g 2 i)) (g 1 i) A U H) ∧
  (∀ i : Nat, i < 16 → wk_Str (g 2 i) (g 3 i) (sLen i) (sByt i) A U H) ∧
  va_Z "CircusLedger$1" "$SwitchMap$CircusLedger$Command" "[I" (.ref (g 4 0)) A U H ∧ va_T .int (g 4 0) 8 (fun j => .int (sSw j)) A U H ∧
  va_Z "CircusLedger$Script" "ALL" "[LCircusLedger$Command;" (.ref (g 4 1)) A U H ∧ va_T (.object "CircusLedger$Command") (g 4 1) 8 (fun j => .ref (g 1 j)) A U H ∧
  va_Z "java/lang/String" "COMPACT_STRINGS" "Z" (.int 1) A U H ∧
  va_Z "java/lang/Integer" "DigitTens" "[B" (.ref (g 4 2)) A U H ∧ va_T .byte (g 4 2) 100 (fun j => .int (sTen j)) A U H ∧
  va_Z "java/lang/Integer" "DigitOnes" "[B" (.ref (g 4 3)) A U H ∧ va_T .byte (g 4 3) 100 (fun j => .int (sOne j)) A U H ∧
  vx_Zq Bundle.tN "UNASSIGNED_STACK" Bundle.steD A U H ∧ vx_Zq Bundle.tN "SUPPRESSED_SENTINEL" Bundle.listD A U H ∧
  (∀ i : Nat, i < 19 → vk_R "CircusLedger" (sMsg.getD i (0, "")).1 (sMsg.getD i (0, "")).2 (g 5 i) U) ∧ (∀ i : Nat, i < 8 → vk_R "CircusLedgerModel" (sWrd.getD i (0, "")).1 (sWrd.getD i (0, "")).2 (g 2 (8 + i)) U) ∧ (∀ i : Nat, i < 6 → va_Nw (.castable (sExc.getD i "") (sExc.getD i "")) U) ∧
  va_Zq "jdk/internal/util/Preconditions" "SIOOBE_FORMATTER" "Ljava/util/function/BiFunction;" A U H ∧ (∀ i : Nat, i < 3 → va_Nw (.declares ⟨sThr.getD i "", "<init>", "(Ljava/lang/String;)V"⟩) U)
theorem wk_Str.moved {k v n : Nat} {f : Nat → Int32} {A : Nat → Prop} {u U : State} {H : Heap} (hvm : u.vm.Alike U.vm) (h : wk_Str k v n f A u H) : wk_Str k v n f A U H := ⟨va_O.moved hvm h.1, va_OF.moved hvm h.2.1, va_OF.moved hvm h.2.2.1, va_T.moved hvm h.2.2.2⟩
theorem wk_Str.kept {k v n : Nat} {f : Nat → Int32} {A : Nat → Prop} {U : State} {H H1 : Heap} (h : wk_Str k v n f A U H) (hq : ∀ a : Nat, a < H.size → ¬ A a → H1[a]? = H[a]?) : wk_Str k v n f A U H1 := ⟨h.1.kept hq, h.2.1.kept hq, h.2.2.1.kept hq, h.2.2.2.kept hq⟩
theorem wk_Str.narrow {k v n : Nat} {f : Nat → Int32} {A B : Nat → Prop} {U : State} {H : Heap} (h : wk_Str k v n f A U H) (hAB : ∀ q, B q → A q) : wk_Str k v n f B U H := ⟨h.1.narrow hAB, h.2.1.narrow hAB, h.2.2.1.narrow hAB, h.2.2.2.narrow hAB⟩
theorem wk_T.same {g : Nat → Nat → Nat} {A : Nat → Prop} {u U : State} {H : Heap} (hv : U.vm = u.vm) (h : wk_T g A u H) : wk_T g A U H := by
  have hvm : u.vm.Alike U.vm := by rw [hv]; exact Vm.Alike.refl _
  obtain ⟨h1, h2, h3, h4, h5, h6, h7, h8, h9, h10, h11, h12, h13, h14, h15, h16, h17, h18, h19, h20⟩ := h
  exact ⟨va_En.moved hvm h1, wk_Cm.moved hvm h2, fun i hi => va_OF.moved hvm (h3 i hi), fun i hi => wk_Str.moved hvm (h4 i hi), va_Z.moved hvm h5, va_T.moved hvm h6, va_Z.moved hvm h7, va_T.moved hvm h8, va_Z.moved hvm h9, va_Z.moved hvm h10, va_T.moved hvm h11, va_Z.moved hvm h12, va_T.moved hvm h13, vx_Zq.moved hvm h14, vx_Zq.moved hvm h15, fun i hi => vk_R.same hv (h16 i hi), fun i hi => vk_R.same hv (h17 i hi), fun i hi => va_Nw.same rfl hv.symm (h18 i hi), va_Zq.moved hvm h19, fun i hi => va_Nw.same rfl hv.symm (h20 i hi)⟩
theorem wk_T.warm {g : Nat → Nat → Nat} {A : Nat → Prop} {s U : State} {H : Heap} (hW : s.WarmedH U.vm) (h : wk_T g A s H) : wk_T g A U H := by
  have hvm : s.vm.Alike U.vm := hW.alike
  obtain ⟨h1, h2, h3, h4, h5, h6, h7, h8, h9, h10, h11, h12, h13, h14, h15, h16, h17, h18, h19, h20⟩ := h
  exact ⟨va_En.moved hvm h1, wk_Cm.moved hvm h2, fun i hi => va_OF.moved hvm (h3 i hi), fun i hi => wk_Str.moved hvm (h4 i hi), va_Z.moved hvm h5, va_T.moved hvm h6, va_Z.moved hvm h7, va_T.moved hvm h8, va_Z.moved hvm h9, va_Z.moved hvm h10, va_T.moved hvm h11, va_Z.moved hvm h12, va_T.moved hvm h13, vx_Zq.moved hvm h14, vx_Zq.moved hvm h15, fun i hi => vk_R.warm hW (h16 i hi), fun i hi => vk_R.warm hW (h17 i hi), fun i hi => va_Nw.warmC hW (h18 i hi), va_Zq.moved hvm h19, fun i hi => va_Nw.warmD hW (h20 i hi)⟩
theorem wk_T.kept {g : Nat → Nat → Nat} {A : Nat → Prop} {U : State} {H H1 : Heap} (h : wk_T g A U H) (hq : ∀ a : Nat, a < H.size → ¬ A a → H1[a]? = H[a]?) : wk_T g A U H1 := by
  obtain ⟨h1, h2, h3, h4, h5, h6, h7, h8, h9, h10, h11, h12, h13, h14, h15, h16, h17, h18, h19, h20⟩ := h
  exact ⟨h1.kept hq, h2.kept hq, fun i hi => (h3 i hi).kept hq, fun i hi => wk_Str.kept (h4 i hi) hq, h5.kept hq, h6.kept hq, h7.kept hq, h8.kept hq, h9.kept hq, h10.kept hq, h11.kept hq, h12.kept hq, h13.kept hq, vx_Zq.kept h14 hq, vx_Zq.kept h15 hq, h16, h17, h18, va_Zq.kept h19 hq, h20⟩
theorem wk_T.narrow {g : Nat → Nat → Nat} {A B : Nat → Prop} {U : State} {H : Heap} (h : wk_T g A U H) (hAB : ∀ q, B q → A q) : wk_T g B U H := by
  obtain ⟨h1, h2, h3, h4, h5, h6, h7, h8, h9, h10, h11, h12, h13, h14, h15, h16, h17, h18, h19, h20⟩ := h
  exact ⟨h1.narrow hAB, h2.narrow hAB, fun i hi => (h3 i hi).narrow hAB, fun i hi => wk_Str.narrow (h4 i hi) hAB, h5.narrow hAB, h6.narrow hAB, h7.narrow hAB, h8.narrow hAB, h9.narrow hAB, h10.narrow hAB, h11.narrow hAB, h12.narrow hAB, h13.narrow hAB, vx_Zq.narrow h14 hAB, vx_Zq.narrow h15 hAB, h16, h17, h18, va_Zq.narrow h19 hAB, h20⟩
abbrev wk_BT (D : va_G) (Y : Nat → ClassId) (g : Nat → Nat → Nat) (ws : va_W) (U : State) : Prop := wk_B D Y ws U ∧ wk_T g (fun _ => False) U U.heap
abbrev wk_ET (D : va_G) (Y : Nat → ClassId) (g : Nat → Nat → Nat) (ws : va_W) (sz : Nat) (U : State) : Prop := wk_E D Y ws sz U ∧ wk_T g (va_A ws sz) U U.heap
theorem wk_BTb {D : va_G} {Y : Nat → ClassId} {g : Nat → Nat → Nat} {ws : va_W} {av : List Value} : FrameBlind (va_Pc av (wk_BT D Y g ws)) := fun a U k mk q => ⟨q.1, ⟨q.2.1.1, va_K.moved (u := U) (U := U.calling k mk a) (Vm.Alike.refl U.vm) q.2.1.2⟩, wk_T.same (u := U) (U := U.calling k mk a) rfl q.2.2⟩
theorem wk_ETb {D : va_G} {Y : Nat → ClassId} {g : Nat → Nat → Nat} {ws : va_W} {sz : Nat} {av : List Value} : FrameBlind (va_Pc av (wk_ET D Y g ws sz)) := fun a U k mk q => ⟨q.1, ⟨q.2.1.1, q.2.1.2.1, va_K.moved (u := U) (U := U.calling k mk a) (Vm.Alike.refl U.vm) q.2.1.2.2.1, q.2.1.2.2.2⟩, wk_T.same (u := U) (U := U.calling k mk a) rfl q.2.2⟩
theorem wk_BTp {D : va_G} {Y : Nat → ClassId} {g : Nat → Nat → Nat} {ws : va_W} {s : State} {H : Heap} {A : Nat → Prop} {locs : List Loc} (hK : va_K D vwCl (vTy Y) s) (hP : va_P D vwCl ws H) (hT : wk_T g A s s.heap) (hS : va_S A s.heap H locs) {av : List Value} : ∀ U : State, U.heap = H → s.WarmedH U.vm → va_Pc av (wk_BT D Y g ws) av.toArray U := fun U hU hW =>
  ⟨rfl, ⟨by rw [hU]; exact hP, va_K.moved hW.alike hK⟩, by rw [hU]; exact wk_T.warm hW ((hT.kept hS.2.1).narrow (fun _ h => h.elim))⟩
theorem wk_ETp {D : va_G} {Y : Nat → ClassId} {g : Nat → Nat → Nat} {ws : va_W} {s : State} {H : Heap} {A A1 : Nat → Prop} {locs : List Loc} (hK : va_K D vwCl (vTy Y) s) (hP : va_P D vwCl ws H) (hD : va_D A1 ws) (hT : wk_T g A s s.heap) (hS : va_S A s.heap H locs) (hF : ∀ q, va_A ws H.size q → A q) {av : List Value} : ∀ U : State, U.heap = H → s.WarmedH U.vm → va_Pc av (wk_ET D Y g ws H.size) av.toArray U := fun U hU hW =>
  ⟨rfl, ⟨by rw [hU], by rw [hU]; exact hP, va_K.moved hW.alike hK, hD.weaken (fun _ _ _ _ => trivial)⟩, by rw [hU]; exact wk_T.warm hW ((hT.kept hS.2.1).narrow hF)⟩
section WKT
variable {p : Program} {l : Launch} {e : Env} {R : Room} {s : State} {m : MethodId} {args : Array Value} {below : List Frame} {meth : Method} {c : Code} {H : Heap} {locs : List Loc} {cells slots : Nat} {Q : State → Prop}
variable {pc : Nat} {ls : Array Slot} {rest st0 : List Value} {D : va_G} {Y : Nat → ClassId} {cc bytes : ByteArray} {own C : String} {index maxL nL mc ms n : Nat} {y : MethodName} {ret : Option FieldType} {ws Ts : List Cond} {rm : Room} {As : List Value} {b : Addr} {wc wr w1 wall : va_W} {A0 : Nat → Prop} {g : Nat → Nat → Nat}
theorem wk_viT {r : Int32} (S : CallFix p m c cc nL s args Ts own) (hM : Met l y ws rm (va_Pc (.ref b :: As) (wk_BT D Y g wc)) (vp_Si (fun r2 => r2 = r)) 0 0 (fun _ => False)) (cw : CallW R s args own C index y bytes maxL ret ws rm 0 0 n)
    (hK : va_K D vwCl (vTy Y) s) (hP : va_P D vwCl wc H) (hT : wk_T g A0 s s.heap) (hS : va_S A0 s.heap H locs) (hrv : ∃ cell : Cell, H[b]? = some cell ∧ cell.vm.isStatics = false ∧ s.vm.findClass C = some cell.cls) (hn : As.length = n) (hsize : ls.size = nL) (hst : st0 = As.reverse ++ .ref b :: rest) (hw : (rest.map fun v => v.category).sum ≤ 8) (hdg : decode cc pc = .ok (.invokevirtual index, 3)) (hf : cells ≤ R.cells ∧ slots ≤ R.slots)
    (kk : W p l e R s m args below meth c H locs cells slots Q (F0 m (pc + 3) ls (.int r :: rest))) : W p l e R s m args below meth c H locs cells slots Q (F0 m pc ls st0) :=
  vp_callSi (W.runV S hM cw ⟨wk_BTb, hrv, wk_BTp hK hP hT hS⟩ rfl hn hsize hst (lv_room hw) hdg hf) (fun r2 e2 => by subst e2; exact kk)
theorem wk_veT {r : Nat} (S : CallFix p m c cc nL s args Ts own) (hM : Met l y ws rm (va_Pc (.ref b :: As) (wk_BT D Y g wc)) (va_Se (g 0) (fun r2 => r2 = some r)) 0 0 (fun _ => False)) (cw : CallW R s args own C index y bytes maxL ret ws rm 0 0 n)
    (hK : va_K D vwCl (vTy Y) s) (hP : va_P D vwCl wc H) (hT : wk_T g A0 s s.heap) (hS : va_S A0 s.heap H locs) (hrv : ∃ cell : Cell, H[b]? = some cell ∧ cell.vm.isStatics = false ∧ s.vm.findClass C = some cell.cls) (hn : As.length = n) (hsize : ls.size = nL) (hst : st0 = As.reverse ++ .ref b :: rest) (hw : (rest.map fun v => v.category).sum ≤ 8) (hdg : decode cc pc = .ok (.invokevirtual index, 3)) (hf : cells ≤ R.cells ∧ slots ≤ R.slots)
    (kk : W p l e R s m args below meth c H locs cells slots Q (F0 m (pc + 3) ls (.ref (g 0 r) :: rest))) : W p l e R s m args below meth c H locs cells slots Q (F0 m pc ls st0) :=
  va_cse (W.runV S hM cw ⟨wk_BTb, hrv, wk_BTp hK hP hT hS⟩ rfl hn hsize hst (lv_room hw) hdg hf) (fun r2 e2 => by subst e2; exact kk)
theorem wk_eviT {r : Int32} (S : CallFix p m c cc nL s args Ts own) (hM : Met l y ws rm (va_Pc (.ref b :: As) (wk_ET D Y g wc H.size)) (va_Qi (fun r2 (_ : Unit) => r2 = r) (fun _ t => wk_X D Y w1 (va_A wc H.size) t) (va_A wc H.size)) mc ms (va_A wc H.size)) (cw : CallW R s args own C index y bytes maxL ret ws rm mc ms n)
    (hK : va_K D vwCl (vTy Y) s) (hP : va_P D vwCl wall H) (hD : va_D A0 wall) (hS : va_S A0 s.heap H locs) (hA : ∀ q, s.heap.size ≤ q → A0 q) (hT : wk_T g A0 s s.heap) (isC isR : List Nat) (hC : isC.map (fun i => wall[i]?) = wc.map some) (hR : isR.map (fun i => wall[i]?) = wr.map some) (hnC : va_nd isC = true) (hnR : va_nd isR = true) (hdis : ∀ i ∈ isR, i ∉ isC)
    (hrv : ∃ cell : Cell, H[b]? = some cell ∧ cell.vm.isStatics = false ∧ s.vm.findClass C = some cell.cls) (hn : As.length = n) (hsize : ls.size = nL) (hst : st0 = As.reverse ++ .ref b :: rest) (hw : (rest.map fun v => v.category).sum ≤ 8) (hdg : decode cc pc = .ok (.invokevirtual index, 3)) (hf : cells + mc ≤ R.cells ∧ slots + ms ≤ R.slots)
    (kk : ∀ (H1 : Heap) (locs1 : List Loc), va_P D vwCl (wr ++ w1) H1 → va_D A0 (wr ++ w1) → va_S A0 s.heap H1 locs1 → W p l e R s m args below meth c H1 locs1 (cells + mc) (slots + ms) Q (F0 m (pc + 3) ls (.int r :: rest))) : W p l e R s m args below meth c H locs cells slots Q (F0 m pc ls st0) := by
  have hPc := hP.sub isC (wk_fm hC)
  have hDc := hD.sub isC hnC hC
  have hFc := va_free (wc := wc) hD hS hA isC hC
  refine va_calli (va_runV (rest := rest) S hM cw ⟨wk_ETb, hrv, wk_ETp hK hPc hDc hT hS hFc⟩ rfl hn hsize hst (lv_room hw) hdg hf) hS (fun q _ h => hFc q h) hFc (fun r2 u t H1 locs1 ht hvm hw2 hB hz1 hk1 hS1 => ?_)
  subst hw2
  obtain ⟨hP1, hK1, hD1⟩ := hB
  rw [ht] at hP1
  obtain ⟨hP2, hD2⟩ := va_join (wr := wr) (w1 := w1) hP hD isC isR hC hR hnR hdis hk1 hFc hP1 hD1
  exact kk H1 locs1 hP2 hD2 hS1
theorem wk_evvT (S : CallFix p m c cc nL s args Ts own) (hM : Met l y ws rm (va_Pc (.ref b :: As) (wk_ET D Y g wc H.size)) (va_Qv (fun (_ : Unit) => True) (fun _ t => wk_X D Y w1 (va_A wc H.size) t) (va_A wc H.size)) mc ms (va_A wc H.size)) (cw : CallW R s args own C index y bytes maxL ret ws rm mc ms n)
    (hK : va_K D vwCl (vTy Y) s) (hP : va_P D vwCl wall H) (hD : va_D A0 wall) (hS : va_S A0 s.heap H locs) (hA : ∀ q, s.heap.size ≤ q → A0 q) (hT : wk_T g A0 s s.heap) (isC isR : List Nat) (hC : isC.map (fun i => wall[i]?) = wc.map some) (hR : isR.map (fun i => wall[i]?) = wr.map some) (hnC : va_nd isC = true) (hnR : va_nd isR = true) (hdis : ∀ i ∈ isR, i ∉ isC)
    (hrv : ∃ cell : Cell, H[b]? = some cell ∧ cell.vm.isStatics = false ∧ s.vm.findClass C = some cell.cls) (hn : As.length = n) (hsize : ls.size = nL) (hst : st0 = As.reverse ++ .ref b :: rest) (hw : (rest.map fun v => v.category).sum ≤ 8) (hdg : decode cc pc = .ok (.invokevirtual index, 3)) (hf : cells + mc ≤ R.cells ∧ slots + ms ≤ R.slots)
    (kk : ∀ (H1 : Heap) (locs1 : List Loc), va_P D vwCl (wr ++ w1) H1 → va_D A0 (wr ++ w1) → va_S A0 s.heap H1 locs1 → W p l e R s m args below meth c H1 locs1 (cells + mc) (slots + ms) Q (F0 m (pc + 3) ls rest)) : W p l e R s m args below meth c H locs cells slots Q (F0 m pc ls st0) := by
  have hPc := hP.sub isC (wk_fm hC)
  have hDc := hD.sub isC hnC hC
  have hFc := va_free (wc := wc) hD hS hA isC hC
  refine va_callv (va_runV (rest := rest) S hM cw ⟨wk_ETb, hrv, wk_ETp hK hPc hDc hT hS hFc⟩ rfl hn hsize hst (lv_room hw) hdg hf) hS (fun q _ h => hFc q h) hFc (fun u t H1 locs1 ht hvm hw2 hB hz1 hk1 hS1 => ?_)
  obtain ⟨hP1, hK1, hD1⟩ := hB
  rw [ht] at hP1
  obtain ⟨hP2, hD2⟩ := va_join (wr := wr) (w1 := w1) hP hD isC isR hC hR hnR hdis hk1 hFc hP1 hD1
  exact kk H1 locs1 hP2 hD2 hS1
end WKT
/-- links between nest mates, and rows of references that can be made -/
def wk_N (U : State) : Prop := va_Nw (.methodLinkNest RX3 11 yX9_init "CircusLedger") U ∧ va_Nw (.methodLinkNest RX3 20 yX2_init "CircusLedger") U ∧ va_Nw (.methodLinkNest RX5 17 yX3_init "CircusLedger") U ∧ va_Nw (.methodLinkNest RX10 11 yX3_init "CircusLedger") U ∧ va_Nw (.methodLinkNest RX10 28 yX8_init "CircusLedger") U ∧ va_Nw (.methodLinkNest RX10 35 yX7_init "CircusLedger") U ∧ va_AO RX3 U ∧ va_AO RX4 U
theorem wk_N.warm {s U : State} (hW : s.WarmedH U.vm) (h : wk_N s) : wk_N U := ⟨va_Nw.warmM hW h.1, va_Nw.warmM hW h.2.1, va_Nw.warmM hW h.2.2.1, va_Nw.warmM hW h.2.2.2.1, va_Nw.warmM hW h.2.2.2.2.1, va_Nw.warmM hW h.2.2.2.2.2.1, va_AO.moved hW.alike h.2.2.2.2.2.2.1, va_AO.moved hW.alike h.2.2.2.2.2.2.2⟩
theorem wk_N.same {u U : State} (hv : u.vm = U.vm) (h : wk_N u) : wk_N U := ⟨va_Nw.same rfl hv h.1, va_Nw.same rfl hv h.2.1, va_Nw.same rfl hv h.2.2.1, va_Nw.same rfl hv h.2.2.2.1, va_Nw.same rfl hv h.2.2.2.2.1, va_Nw.same rfl hv h.2.2.2.2.2.1, va_AO.moved (by rw [hv]; exact Vm.Alike.refl _) h.2.2.2.2.2.2.1, va_AO.moved (by rw [hv]; exact Vm.Alike.refl _) h.2.2.2.2.2.2.2⟩
abbrev wk_EN (D : va_G) (Y : Nat → ClassId) (ws : va_W) (sz : Nat) (U : State) : Prop := wk_E D Y ws sz U ∧ wk_N U
theorem wk_ENb {D : va_G} {Y : Nat → ClassId} {ws : va_W} {sz : Nat} {av : List Value} : FrameBlind (va_Pc av (wk_EN D Y ws sz)) := fun a U k mk q => ⟨q.1, ⟨q.2.1.1, q.2.1.2.1, va_K.moved (u := U) (U := U.calling k mk a) (Vm.Alike.refl U.vm) q.2.1.2.2.1, q.2.1.2.2.2⟩, wk_N.same (u := U) (U := U.calling k mk a) rfl q.2.2⟩
theorem wk_ENp {D : va_G} {Y : Nat → ClassId} {ws : va_W} {s : State} {H : Heap} {A : Nat → Prop} (hK : va_K D vwCl (vTy Y) s) (hP : va_P D vwCl ws H) (hD : va_D A ws) (hN : wk_N s) {av : List Value} : ∀ U : State, U.heap = H → s.WarmedH U.vm → va_Pc av (wk_EN D Y ws H.size) av.toArray U := fun U hU hW => ⟨rfl, ⟨by rw [hU], by rw [hU]; exact hP, va_K.moved hW.alike hK, hD.weaken (fun _ _ _ _ => trivial)⟩, wk_N.warm hW hN⟩
