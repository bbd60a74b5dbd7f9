/-! the row of commands: by their numbers -/
def sOrd (k : Nat) : Int32 := ([0, 1, 2, 3, 4, 5, 6, 7] : List Int32).getD k 0
def wk_cm (g : Nat → Nat → Nat) (f : Nat → Option Nat) : Nat → Option Nat := fun j => (f j).map (g 1)
theorem wk_cm_s {g : Nat → Nat → Nat} {f : Nat → Option Nat} {j k : Nat} (h : f j = some k) : wk_cm g f j = some (g 1 k) := by
  unfold wk_cm
  rw [h]
  rfl
theorem wk_cm_up {g : Nat → Nat → Nat} {f : Nat → Option Nat} {i k : Nat} : va_up (wk_cm g f) i (some (g 1 k)) = wk_cm g (va_up f i (some k)) := by
  funext j
  unfold wk_cm va_up
  by_cases h : j = i
  · simp [h]
  · simp [h]
section WKSC
variable {p : Program} {l : Launch} {e : Env} {R : Room} {s : State} {m : MethodId} {args : Array Value} {below : List Frame} {meth : Method} {c : Code} {H : Heap} {locs : List Loc} {cells slots : Nat} {Q : State → Prop}
variable {pc : Nat} {ls : Array Slot} {rest : List Value} {D : va_G} {Y : Nat → ClassId} {cc : ByteArray} {A0 : Nat → Prop} {wc : va_W} {g : Nat → Nat → Nat}
theorem wk_aastc (hexec : p.tables.exec = Jvm.exec) (hb : c.code = cc) (hT : wk_T g A0 s s.heap) {K : Nat} (h8 : K < 8) {a : Nat} (hK : va_K D vwCl (vTy Y) s) (hP : va_P D vwCl wc H) (hD : va_D A0 wc) (hS : va_S A0 s.heap H locs) (q0 : Nat) {f : Nat → Option Nat} {i : Int32} (ha : wc[q0]? = some (a, .inl (Y 4, 12, .inr (.inr (.inr (.inr (wk_cm g f))))))) (hin : vp_in i 12) (hdg : decode cc pc = .ok (.aastore, 1))
    (kk : ∀ (f1 : Nat → Option Nat) (H1 : Heap) (locs1 : List Loc), f1 = va_up f i.toNatClampNeg (some K) → va_P D vwCl (wc.set q0 (a, .inl (Y 4, 12, .inr (.inr (.inr (.inr (wk_cm g f1))))))) H1 → va_D A0 (wc.set q0 (a, .inl (Y 4, 12, .inr (.inr (.inr (.inr (wk_cm g f1))))))) → va_S A0 s.heap H1 locs1 → W p l e R s m args below meth c H1 locs1 cells slots Q (F0 m (pc + 1) ls rest)) : W p l e R s m args below meth c H locs cells slots Q (F0 m pc ls (.ref (g 1 K) :: .int i :: .ref a :: rest)) := by
  have hr : va_Any RX4 s H (g 1 K) := by
    obtain ⟨cell, h1, h2, h3, -⟩ := (hT.2.1 K h8).1.kept hS.2.1
    obtain ⟨kC, hkC, -⟩ := Vm.findClass_spec h3
    refine ⟨cell, h1, h2, ⟨kC, hkC⟩, fun comp hcomp => ?_⟩
    have e9 := Option.some.inj (h3.symm.trans (show s.vm.findClass "CircusLedger$Command" = some comp from hcomp))
    subst e9
    unfold Vm.assignable
    rw [Vm.assignableAux]
    simp only [beq_self_eq_true, Bool.true_or]
  refine va_astqM hexec hb hK hP hD hS q0 4 ha rfl hr hin hdg (fun H1 locs1 p1 p2 p3 => ?_)
  rw [wk_cm_up] at p1 p2
  exact kk _ H1 locs1 rfl p1 p2 p3
end WKSC
theorem wk_T.wrd {g : Nat → Nat → Nat} {A : Nat → Prop} {U : State} {H : Heap} (h : wk_T g A U H) : ∀ i : Nat, i < 8 → vk_R "CircusLedgerModel" (sWrd.getD i (0, "")).1 (sWrd.getD i (0, "")).2 (g 2 (8 + i)) U := by
  obtain ⟨h1, h2, h3, h4, h5, h6, h7, h8, h9, h10, h11, h12, h13, h14, h15, h16, h17, h18, h19, h20⟩ := h
  exact h17

abbrev wX7 (Y : Nat → ClassId) (a : Nat → Nat) (g : Nat → Nat → Nat) (Z_v : Nat) (Z_m : Nat) (Z_ml : Int32) (Z_n : Int32) (Z_f : Nat → Int32) (S_position : Int32) (S_count : Int32) (S_cm : Nat → Option Nat) (S_arguments : Nat → Int32) (S_argumentCount : Int32) : va_W := [(a 0, .inr (7, [.ref (a 1), .int S_position, .int S_count, .ref (a 2), .ref (a 3), .int S_argumentCount])), (a 1, .inr (1, [.ref Z_v, .int 0, .int Z_ml, .int Z_n])), (Z_v, .inl (Y 1, Z_m, .inl Z_f)), (a 2, .inl (Y 4, 12, .inr (.inr (.inr (.inr (wk_cm g S_cm)))))), (a 3, .inl (Y 0, 48, .inl S_arguments))]
theorem lk_J0_coder_7d493_RJ0_15 : Cond.fieldLink RJ0 15 "java/lang/String" "coder" "B" ∈ wsJ0_coder_7d493 := by decide +kernel
theorem lk_J0_coder_7d493_RJ0_38 : Cond.fieldLink RJ0 38 "java/lang/String" "COMPACT_STRINGS" "Z" ∈ wsJ0_coder_7d493 := by decide +kernel
def f_J0_coder_7d493 (x0 : Nat) : Option (Int32) :=
  gok (x0 < 16) (some (0))
set_option maxHeartbeats 4000000 in
set_option maxRecDepth 100000 in
theorem c_J0_coder_7d493 (l : Launch) (dC : Nat → ClassId) (dI : Nat → Nat → Nat) (Y : Nat → ClassId) (g : Nat → Nat → Nat)   (x0 : Nat) (r : Int32) (hf : f_J0_coder_7d493 x0 = some (r)) : Met l yJ0_coder_7d493 wsJ0_coder_7d493 ({ frames := 0, cells := 0, slots := 0, locals := 0 } : Room) (va_Pc [.ref (g 2 x0)] (wk_BT (dC, dI) Y g ([] : va_W))) (vp_Si (fun r2 => r2 = r)) 0 0 (fun _ => False) := by
  refine Met.ofW (cc := cJ0_coder_7d493) (maxL := 1) (ret := (some .byte)) (by decide) rfl ?_
  intro p e s m args below meth c s₁ B hml hv
  obtain ⟨rfl, ⟨hP, hK⟩, hT⟩ := hv
  have hx := B.exec
  have hb := B.bytes
  have hr := B.returns
  have hts := atoms_spec (ws := wsJ0_coder_7d493) B.pre
  have hown : s.vm.findClass RJ0 = some m.cls := findClass_of_methodNamed B.named
  have hlocks := B.notSynchronized
  have C0 : wk_C p s m _ meth c cJ0_coder_7d493 1 (some .byte) wsJ0_coder_7d493 RJ0 := ⟨hx, hb, hml, hr, hlocks, hown, hts⟩
  have hP : va_P (dC, dI) vwCl [] s.heap := hP
  have hS : va_S (fun _ : Nat => False) s.heap s.heap [] := va_S.rf
  have hl := lv_entry ([.ref (g 2 x0)]) (n := 1) (Nat.le_of_ble_eq_true rfl)
  rw [lg_entry_eq]
  generalize (lg_sl ([.ref (g 2 x0)]) ++ List.replicate (1 - (lg_sl ([.ref (g 2 x0)])).length) Slot.unset).toArray = ls at hl ⊢
  have hl : lv_has ls 1 [(0, .ref (g 2 x0))] := hl
  rw [f_J0_coder_7d493] at hf
  refine va_gets (v := .int 1) hx hb hT.2.2.2.2.2.2.2.2.1 hS hown (hts _ lk_J0_coder_7d493_RJ0_38) (fun _ h9 => h9) dJ0_coder_7d493_0 ?_
  refine lv_if_eq (tgt := 13) hx hb dJ0_coder_7d493_3 (by decide) (fun q9 => absurd q9 (by decide)) (fun _ => ?_)
  refine lv_aload_n hx hb dJ0_coder_7d493_6 rfl (lv_at hl 0 rfl) ?_
  obtain ⟨h1, hf⟩ := gok_s hf
  refine vk_getf hx hb (hT.2.2.2.1 x0 h1).2.1 hS hown (hts _ lk_J0_coder_7d493_RJ0_15) (fun _ h9 => h9) dJ0_coder_7d493_7 ?_
  refine lv_goto (tgt := 14) hx hb dJ0_coder_7d493_10 (by decide) ?_
  have e0 := wke1 hf
  subst e0
  exact W.zret (v := 0) (ty := .byte) hx hb hr rfl (fun t ht hW => ⟨0, rfl, rfl, ht⟩) (fun q h => absurd h List.not_mem_nil) dJ0_coder_7d493_14
theorem lk_J0_length_8abf5_RJ0_9 : Cond.fieldLink RJ0 9 "java/lang/String" "value" "[B" ∈ wsJ0_length_8abf5 := by decide +kernel
def f_J0_length_8abf5 (x0 : Nat) : Option (Int32) :=
  gok (x0 < 16) (gok (x0 < 16) (gok (x0 < 16) (wkb1 (f_J0_coder_7d493 x0) (fun r4 =>
  some ((Int32.ofNat (sLen x0) >>> (r4 &&& 31)))))))
set_option maxHeartbeats 4000000 in
set_option maxRecDepth 100000 in
theorem c_J0_length_8abf5 (l : Launch) (dC : Nat → ClassId) (dI : Nat → Nat → Nat) (Y : Nat → ClassId) (g : Nat → Nat → Nat)   (x0 : Nat) (r : Int32) (hf : f_J0_length_8abf5 x0 = some (r)) : Met l yJ0_length_8abf5 wsJ0_length_8abf5 ({ frames := 1, cells := 0, slots := 0, locals := 20 } : Room) (va_Pc [.ref (g 2 x0)] (wk_BT (dC, dI) Y g ([] : va_W))) (vp_Si (fun r2 => r2 = r)) 0 0 (fun _ => False) := by
  refine Met.ofW (cc := cJ0_length_8abf5) (maxL := 1) (ret := (some .int)) (by decide) rfl ?_
  intro p e s m args below meth c s₁ B hml hv
  obtain ⟨rfl, ⟨hP, hK⟩, hT⟩ := hv
  have hx := B.exec
  have hb := B.bytes
  have hr := B.returns
  have hts := atoms_spec (ws := wsJ0_length_8abf5) B.pre
  have hown : s.vm.findClass RJ0 = some m.cls := findClass_of_methodNamed B.named
  have hlocks := B.notSynchronized
  have C0 : wk_C p s m _ meth c cJ0_length_8abf5 1 (some .int) wsJ0_length_8abf5 RJ0 := ⟨hx, hb, hml, hr, hlocks, hown, hts⟩
  have hP : va_P (dC, dI) vwCl [] s.heap := hP
  have hS : va_S (fun _ : Nat => False) s.heap s.heap [] := va_S.rf
  have hl := lv_entry ([.ref (g 2 x0)]) (n := 1) (Nat.le_of_ble_eq_true rfl)
  rw [lg_entry_eq]
  generalize (lg_sl ([.ref (g 2 x0)]) ++ List.replicate (1 - (lg_sl ([.ref (g 2 x0)])).length) Slot.unset).toArray = ls at hl ⊢
  have hl : lv_has ls 1 [(0, .ref (g 2 x0))] := hl
  rw [f_J0_length_8abf5] at hf
  refine lv_aload_n hx hb dJ0_length_8abf5_0 rfl (lv_at hl 0 rfl) ?_
  obtain ⟨h1, hf⟩ := gok_s hf
  refine vk_getf hx hb (hT.2.2.2.1 x0 h1).2.2.1 hS hown (hts _ lk_J0_length_8abf5_RJ0_9) (fun _ h9 => h9) dJ0_length_8abf5_1 ?_
  obtain ⟨h2, hf⟩ := gok_s hf
  refine va_tlen hx hb (hT.2.2.2.1 x0 h2).2.2.2 hS rfl dJ0_length_8abf5_4 ?_
  refine lv_aload_n hx hb dJ0_length_8abf5_5 rfl (lv_at hl 0 rfl) ?_
  obtain ⟨h3, hf⟩ := gok_s hf
  obtain ⟨r4, hr5, hf⟩ := wkb1_s hf
  have hPc := hP.sub (ws' := ([] : va_W)) [] rfl
  refine wk_viT (As := []) (rest := [.int (Int32.ofNat (sLen x0))]) ⟨hx, hb, hml, hown, hts⟩ (c_J0_coder_7d493 l dC dI Y g x0 r4 hr5) (cwV 0 hts gJ0_length_8abf5_J0_coder_7d493 rfl rfl rfl (by decide +kernel) ⟨Nat.le_of_ble_eq_true rfl, Nat.le_of_ble_eq_true rfl⟩) hK hPc hT hS (va_Orecv (hT.2.2.2.1 x0 h3).1 hS) rfl hl.1 rfl (Nat.le_of_ble_eq_true rfl) dJ0_length_8abf5_6 ⟨Nat.le_of_ble_eq_true rfl, Nat.le_of_ble_eq_true rfl⟩ ?_
  refine lv_ishr hx hb dJ0_length_8abf5_9 ?_
  have e0 := wke1 hf
  subst e0
  exact W.iret (v := (Int32.ofNat (sLen x0) >>> (r4 &&& 31))) hx hb hr (fun t ht hW => ⟨(Int32.ofNat (sLen x0) >>> (r4 &&& 31)), rfl, rfl, ht⟩) (fun q h => absurd h List.not_mem_nil) dJ0_length_8abf5_10
theorem lk_J0_isLatin1_aae02_RJ0_15 : Cond.fieldLink RJ0 15 "java/lang/String" "coder" "B" ∈ wsJ0_isLatin1_aae02 := by decide +kernel
theorem lk_J0_isLatin1_aae02_RJ0_38 : Cond.fieldLink RJ0 38 "java/lang/String" "COMPACT_STRINGS" "Z" ∈ wsJ0_isLatin1_aae02 := by decide +kernel
def f_J0_isLatin1_aae02 (x0 : Nat) : Option (Int32) :=
  gok (x0 < 16) (some (1))
set_option maxHeartbeats 4000000 in
set_option maxRecDepth 100000 in
theorem c_J0_isLatin1_aae02 (l : Launch) (dC : Nat → ClassId) (dI : Nat → Nat → Nat) (Y : Nat → ClassId) (g : Nat → Nat → Nat)   (x0 : Nat) (r : Int32) (hf : f_J0_isLatin1_aae02 x0 = some (r)) : Met l yJ0_isLatin1_aae02 wsJ0_isLatin1_aae02 ({ frames := 0, cells := 0, slots := 0, locals := 0 } : Room) (va_Pc [.ref (g 2 x0)] (wk_BT (dC, dI) Y g ([] : va_W))) (vp_Si (fun r2 => r2 = r)) 0 0 (fun _ => False) := by
  refine Met.ofW (cc := cJ0_isLatin1_aae02) (maxL := 1) (ret := (some .boolean)) (by decide) rfl ?_
  intro p e s m args below meth c s₁ B hml hv
  obtain ⟨rfl, ⟨hP, hK⟩, hT⟩ := hv
  have hx := B.exec
  have hb := B.bytes
  have hr := B.returns
  have hts := atoms_spec (ws := wsJ0_isLatin1_aae02) B.pre
  have hown : s.vm.findClass RJ0 = some m.cls := findClass_of_methodNamed B.named
  have hlocks := B.notSynchronized
  have C0 : wk_C p s m _ meth c cJ0_isLatin1_aae02 1 (some .boolean) wsJ0_isLatin1_aae02 RJ0 := ⟨hx, hb, hml, hr, hlocks, hown, hts⟩
  have hP : va_P (dC, dI) vwCl [] s.heap := hP
  have hS : va_S (fun _ : Nat => False) s.heap s.heap [] := va_S.rf
  have hl := lv_entry ([.ref (g 2 x0)]) (n := 1) (Nat.le_of_ble_eq_true rfl)
  rw [lg_entry_eq]
  generalize (lg_sl ([.ref (g 2 x0)]) ++ List.replicate (1 - (lg_sl ([.ref (g 2 x0)])).length) Slot.unset).toArray = ls at hl ⊢
  have hl : lv_has ls 1 [(0, .ref (g 2 x0))] := hl
  rw [f_J0_isLatin1_aae02] at hf
  refine va_gets (v := .int 1) hx hb hT.2.2.2.2.2.2.2.2.1 hS hown (hts _ lk_J0_isLatin1_aae02_RJ0_38) (fun _ h9 => h9) dJ0_isLatin1_aae02_0 ?_
  refine lv_if_eq (tgt := 17) hx hb dJ0_isLatin1_aae02_3 (by decide) (fun q9 => absurd q9 (by decide)) (fun _ => ?_)
  refine lv_aload_n hx hb dJ0_isLatin1_aae02_6 rfl (lv_at hl 0 rfl) ?_
  obtain ⟨h1, hf⟩ := gok_s hf
  refine vk_getf hx hb (hT.2.2.2.1 x0 h1).2.1 hS hown (hts _ lk_J0_isLatin1_aae02_RJ0_15) (fun _ h9 => h9) dJ0_isLatin1_aae02_7 ?_
  refine lv_if_ne (tgt := 17) hx hb dJ0_isLatin1_aae02_10 (by decide) (fun q9 => absurd q9 (by decide)) (fun _ => ?_)
  refine lv_iconst (v := 1) hx hb dJ0_isLatin1_aae02_13 (by decide) ?_
  refine lv_goto (tgt := 18) hx hb dJ0_isLatin1_aae02_14 (by decide) ?_
  have e0 := wke1 hf
  subst e0
  exact W.zret (v := 1) (ty := .boolean) hx hb hr rfl (fun t ht hW => ⟨1, rfl, rfl, ht⟩) (fun q h => absurd h List.not_mem_nil) dJ0_isLatin1_aae02_18
def f_J1_charAt_3b067 (x0 : Nat) (x1 : Int32) : Option (Int32) :=
  gok (x0 < 16) (wkb1 (f_J0_checkIndex_df160 x1 (Int32.ofNat (sLen x0))) (fun _ =>
  gok (x0 < 16) (gin x1 (sLen x0) (gok ((((((sByt x0 x1.toNatClampNeg) &&& 255)).toUInt32 % 65536).toInt32).toUInt32.toUInt16.toUInt32.toInt32 = ((((sByt x0 x1.toNatClampNeg) &&& 255)).toUInt32 % 65536).toInt32) (some (((((sByt x0 x1.toNatClampNeg) &&& 255)).toUInt32 % 65536).toInt32))))))
set_option maxHeartbeats 4000000 in
set_option maxRecDepth 100000 in
theorem c_J1_charAt_3b067 (l : Launch) (dC : Nat → ClassId) (dI : Nat → Nat → Nat) (Y : Nat → ClassId) (g : Nat → Nat → Nat)   (x0 : Nat) (x1 : Int32) (r : Int32) (hf : f_J1_charAt_3b067 x0 x1 = some (r)) : Met l yJ1_charAt_3b067 wsJ1_charAt_3b067 ({ frames := 2, cells := 0, slots := 0, locals := 43 } : Room) (va_Pc [.ref (g 3 x0), .int x1] (wk_BT (dC, dI) Y g ([] : va_W))) (vp_Si (fun r2 => r2 = r)) 0 0 (fun _ => False) := by
  refine Met.ofW (cc := cJ1_charAt_3b067) (maxL := 2) (ret := (some .char)) (by decide) rfl ?_
  intro p e s m args below meth c s₁ B hml hv
  obtain ⟨rfl, ⟨hP, hK⟩, hT⟩ := hv
  have hx := B.exec
  have hb := B.bytes
  have hr := B.returns
  have hts := atoms_spec (ws := wsJ1_charAt_3b067) B.pre
  have hown : s.vm.findClass RJ1 = some m.cls := findClass_of_methodNamed B.named
  have hlocks := B.notSynchronized
  have C0 : wk_C p s m _ meth c cJ1_charAt_3b067 2 (some .char) wsJ1_charAt_3b067 RJ1 := ⟨hx, hb, hml, hr, hlocks, hown, hts⟩
  have hP : va_P (dC, dI) vwCl [] s.heap := hP
  have hS : va_S (fun _ : Nat => False) s.heap s.heap [] := va_S.rf
  have hl := lv_entry ([.ref (g 3 x0), .int x1]) (n := 2) (Nat.le_of_ble_eq_true rfl)
  rw [lg_entry_eq]
  generalize (lg_sl ([.ref (g 3 x0), .int x1]) ++ List.replicate (2 - (lg_sl ([.ref (g 3 x0), .int x1])).length) Slot.unset).toArray = ls at hl ⊢
  have hl : lv_has ls 2 [(0, .ref (g 3 x0)), (1, .int x1)] := hl
  rw [f_J1_charAt_3b067] at hf
  refine lv_iload_n hx hb dJ1_charAt_3b067_0 rfl (lv_at hl 1 rfl) ?_
  refine lv_aload_n hx hb dJ1_charAt_3b067_1 rfl (lv_at hl 0 rfl) ?_
  obtain ⟨h1, hf⟩ := gok_s hf
  refine va_tlen hx hb (hT.2.2.2.1 x0 h1).2.2.2 hS rfl dJ1_charAt_3b067_2 ?_
  obtain ⟨_, hr2, hf⟩ := wkb1_s hf
  have hPc := hP.sub (ws' := ([] : va_W)) [] rfl
  refine wk_svT (As := [.int x1, .int (Int32.ofNat (sLen x0))]) (rest := []) ⟨hx, hb, hml, hown, hts⟩ (c_J0_checkIndex_df160 l dC dI Y g x1 (Int32.ofNat (sLen x0))  hr2) (va_cwS 2 hts gJ1_charAt_3b067_J0_checkIndex_df160 rfl rfl rfl (by decide +kernel) ⟨Nat.le_of_ble_eq_true rfl, Nat.le_of_ble_eq_true rfl⟩) hK hPc hT hS rfl hl.1 rfl (Nat.le_of_ble_eq_true rfl) dJ1_charAt_3b067_3 ⟨Nat.le_of_ble_eq_true rfl, Nat.le_of_ble_eq_true rfl⟩ ?_
  refine lv_aload_n hx hb dJ1_charAt_3b067_6 rfl (lv_at hl 0 rfl) ?_
  refine lv_iload_n hx hb dJ1_charAt_3b067_7 rfl (lv_at hl 1 rfl) ?_
  obtain ⟨h3, hf⟩ := gok_s hf
  obtain ⟨h4, hf⟩ := gin_s hf
  refine va_tb hx hb (hT.2.2.2.1 x0 h3).2.2.2 hS h4 rfl dJ1_charAt_3b067_8 ?_
  refine lv_sipush (v := 255) hx hb dJ1_charAt_3b067_9 (by decide) ?_
  refine lv_iand hx hb dJ1_charAt_3b067_12 ?_
  refine lv_i2c hx hb dJ1_charAt_3b067_13 rfl ?_
  obtain ⟨h01, hf⟩ := gok_s hf
  have e0 := wke1 hf
  subst e0
  exact W.zret (v := ((((sByt x0 x1.toNatClampNeg) &&& 255)).toUInt32 % 65536).toInt32) (ty := .char) hx hb hr (gch_n h01) (fun t ht hW => ⟨((((sByt x0 x1.toNatClampNeg) &&& 255)).toUInt32 % 65536).toInt32, rfl, rfl, ht⟩) (fun q h => absurd h List.not_mem_nil) dJ1_charAt_3b067_14
theorem lk_J0_charAt_5068e_RJ0_9 : Cond.fieldLink RJ0 9 "java/lang/String" "value" "[B" ∈ wsJ0_charAt_5068e := by decide +kernel
def f_J0_charAt_5068e (x0 : Nat) (x1 : Int32) : Option (Int32) :=
  gok (x0 < 16) (wkb1 (f_J0_isLatin1_aae02 x0) (fun r2 =>
  if r2 = 0 then
    (none)
  else
    (gok (x0 < 16) (wkb1 (f_J1_charAt_3b067 x0 x1) (fun r6 =>
    gok (r6.toUInt32.toUInt16.toUInt32.toInt32 = r6) (some (r6)))))))
set_option maxHeartbeats 4000000 in
set_option maxRecDepth 100000 in
theorem c_J0_charAt_5068e (l : Launch) (dC : Nat → ClassId) (dI : Nat → Nat → Nat) (Y : Nat → ClassId) (g : Nat → Nat → Nat)   (x0 : Nat) (x1 : Int32) (r : Int32) (hf : f_J0_charAt_5068e x0 x1 = some (r)) : Met l yJ0_charAt_5068e wsJ0_charAt_5068e ({ frames := 3, cells := 0, slots := 0, locals := 64 } : Room) (va_Pc [.ref (g 2 x0), .int x1] (wk_BT (dC, dI) Y g ([] : va_W))) (vp_Si (fun r2 => r2 = r)) 0 0 (fun _ => False) := by
  refine Met.ofW (cc := cJ0_charAt_5068e) (maxL := 2) (ret := (some .char)) (by decide) rfl ?_
  intro p e s m args below meth c s₁ B hml hv
  obtain ⟨rfl, ⟨hP, hK⟩, hT⟩ := hv
  have hx := B.exec
  have hb := B.bytes
  have hr := B.returns
  have hts := atoms_spec (ws := wsJ0_charAt_5068e) B.pre
  have hown : s.vm.findClass RJ0 = some m.cls := findClass_of_methodNamed B.named
  have hlocks := B.notSynchronized
  have C0 : wk_C p s m _ meth c cJ0_charAt_5068e 2 (some .char) wsJ0_charAt_5068e RJ0 := ⟨hx, hb, hml, hr, hlocks, hown, hts⟩
  have hP : va_P (dC, dI) vwCl [] s.heap := hP
  have hS : va_S (fun _ : Nat => False) s.heap s.heap [] := va_S.rf
  have hl := lv_entry ([.ref (g 2 x0), .int x1]) (n := 2) (Nat.le_of_ble_eq_true rfl)
  rw [lg_entry_eq]
  generalize (lg_sl ([.ref (g 2 x0), .int x1]) ++ List.replicate (2 - (lg_sl ([.ref (g 2 x0), .int x1])).length) Slot.unset).toArray = ls at hl ⊢
  have hl : lv_has ls 2 [(0, .ref (g 2 x0)), (1, .int x1)] := hl
  rw [f_J0_charAt_5068e] at hf
  refine lv_aload_n hx hb dJ0_charAt_5068e_0 rfl (lv_at hl 0 rfl) ?_
  obtain ⟨h1, hf⟩ := gok_s hf
  obtain ⟨r2, hr3, hf⟩ := wkb1_s hf
  have hPc := hP.sub (ws' := ([] : va_W)) [] rfl
  refine wk_viT (As := []) (rest := []) ⟨hx, hb, hml, hown, hts⟩ (c_J0_isLatin1_aae02 l dC dI Y g x0 r2 hr3) (cwV 0 hts gJ0_charAt_5068e_J0_isLatin1_aae02 rfl rfl rfl (by decide +kernel) ⟨Nat.le_of_ble_eq_true rfl, Nat.le_of_ble_eq_true rfl⟩) hK hPc hT hS (va_Orecv (hT.2.2.2.1 x0 h1).1 hS) rfl hl.1 rfl (Nat.le_of_ble_eq_true rfl) dJ0_charAt_5068e_1 ⟨Nat.le_of_ble_eq_true rfl, Nat.le_of_ble_eq_true rfl⟩ ?_
  refine lv_if_eq (tgt := 16) hx hb dJ0_charAt_5068e_4 (by decide) (fun q4 => ?_) (fun q4 => ?_)
  · have hf := wk_t hf q4
    cases hf
  · have hf := wk_f hf q4
    refine lv_aload_n hx hb dJ0_charAt_5068e_7 rfl (lv_at hl 0 rfl) ?_
    obtain ⟨h5, hf⟩ := gok_s hf
    refine vk_getf hx hb (hT.2.2.2.1 x0 h5).2.2.1 hS hown (hts _ lk_J0_charAt_5068e_RJ0_9) (fun _ h9 => h9) dJ0_charAt_5068e_8 ?_
    refine lv_iload_n hx hb dJ0_charAt_5068e_11 rfl (lv_at hl 1 rfl) ?_
    obtain ⟨r6, hr7, hf⟩ := wkb1_s hf
    have hPc := hP.sub (ws' := ([] : va_W)) [] rfl
    refine wk_siT (As := [.ref (g 3 x0), .int x1]) (rest := []) ⟨hx, hb, hml, hown, hts⟩ (c_J1_charAt_3b067 l dC dI Y g x0 x1 r6 hr7) (va_cwS 2 hts gJ0_charAt_5068e_J1_charAt_3b067 rfl rfl rfl (by decide +kernel) ⟨Nat.le_of_ble_eq_true rfl, Nat.le_of_ble_eq_true rfl⟩) hK hPc hT hS rfl hl.1 rfl (Nat.le_of_ble_eq_true rfl) dJ0_charAt_5068e_12 ⟨Nat.le_of_ble_eq_true rfl, Nat.le_of_ble_eq_true rfl⟩ ?_
    obtain ⟨h01, hf⟩ := gok_s hf
    have e0 := wke1 hf
    subst e0
    exact W.zret (v := r6) (ty := .char) hx hb hr (gch_n h01) (fun t ht hW => ⟨r6, rfl, rfl, ht⟩) (fun q h => absurd h List.not_mem_nil) dJ0_charAt_5068e_15
theorem lk_Jx29ce0_ordinal_8abf5_RJx29ce0_7 : Cond.fieldLink RJx29ce0 7 "java/lang/Enum" "ordinal" "I" ∈ wsJx29ce0_ordinal_8abf5 := by decide +kernel
def f_Jx29ce0_ordinal_8abf5 (x0 : Nat) : Option (Int32) :=
  gok (x0 < 8) (some ((sOrd x0)))
set_option maxHeartbeats 4000000 in
set_option maxRecDepth 100000 in
theorem c_Jx29ce0_ordinal_8abf5 (l : Launch) (dC : Nat → ClassId) (dI : Nat → Nat → Nat) (Y : Nat → ClassId) (g : Nat → Nat → Nat)   (x0 : Nat) (r : Int32) (hf : f_Jx29ce0_ordinal_8abf5 x0 = some (r)) : Met l yJx29ce0_ordinal_8abf5 wsJx29ce0_ordinal_8abf5 ({ frames := 0, cells := 0, slots := 0, locals := 0 } : Room) (va_Pc [.ref (g 1 x0)] (wk_BT (dC, dI) Y g ([] : va_W))) (vp_Si (fun r2 => r2 = r)) 0 0 (fun _ => False) := by
  refine Met.ofW (cc := cJx29ce0_ordinal_8abf5) (maxL := 1) (ret := (some .int)) (by decide) rfl ?_
  intro p e s m args below meth c s₁ B hml hv
  obtain ⟨rfl, ⟨hP, hK⟩, hT⟩ := hv
  have hx := B.exec
  have hb := B.bytes
  have hr := B.returns
  have hts := atoms_spec (ws := wsJx29ce0_ordinal_8abf5) B.pre
  have hown : s.vm.findClass RJx29ce0 = some m.cls := findClass_of_methodNamed B.named
  have hlocks := B.notSynchronized
  have C0 : wk_C p s m _ meth c cJx29ce0_ordinal_8abf5 1 (some .int) wsJx29ce0_ordinal_8abf5 RJx29ce0 := ⟨hx, hb, hml, hr, hlocks, hown, hts⟩
  have hP : va_P (dC, dI) vwCl [] s.heap := hP
  have hS : va_S (fun _ : Nat => False) s.heap s.heap [] := va_S.rf
  have hl := lv_entry ([.ref (g 1 x0)]) (n := 1) (Nat.le_of_ble_eq_true rfl)
  rw [lg_entry_eq]
  generalize (lg_sl ([.ref (g 1 x0)]) ++ List.replicate (1 - (lg_sl ([.ref (g 1 x0)])).length) Slot.unset).toArray = ls at hl ⊢
  have hl : lv_has ls 1 [(0, .ref (g 1 x0))] := hl
  rw [f_Jx29ce0_ordinal_8abf5] at hf
  refine lv_aload_n hx hb dJx29ce0_ordinal_8abf5_0 rfl (lv_at hl 0 rfl) ?_
  obtain ⟨h1, hf⟩ := gok_s hf
  refine vk_getf hx hb (hT.2.1 _ h1).2 hS hown (hts _ lk_Jx29ce0_ordinal_8abf5_RJx29ce0_7) (fun _ h9 => h9) dJx29ce0_ordinal_8abf5_1 ?_
  have e0 := wke1 hf
  subst e0
  exact W.iret (v := (sOrd x0)) hx hb hr (fun t ht hW => ⟨(sOrd x0), rfl, rfl, ht⟩) (fun q h => absurd h List.not_mem_nil) dJx29ce0_ordinal_8abf5_4
theorem lk_X7_length_RX7_12 : Cond.fieldLink RX7 12 "CircusLedger$Script" "text" "Ljava/lang/StringBuilder;" ∈ wsX7_length := by decide +kernel
theorem in_X7_length_X7 : ∀ w ∈ u_ws RX7 TX7 6, w ∈ wsX7_length := by decide +kernel
def f_X7_length (Z_n : Int32) : Option (Int32) :=
  wkb1 (f_J4_length_8abf5 Z_n) (fun r1 =>
  some (r1))
set_option maxHeartbeats 4000000 in
set_option maxRecDepth 100000 in
theorem c_X7_length (l : Launch) (dC : Nat → ClassId) (dI : Nat → Nat → Nat) (Y : Nat → ClassId) (g : Nat → Nat → Nat) (a : Nat → Nat) (Z_v : Nat) (Z_m : Nat) (Z_ml : Int32) (Z_n : Int32) (Z_f : Nat → Int32) (S_position : Int32) (S_count : Int32) (S_cm : Nat → Option Nat) (S_arguments : Nat → Int32) (S_argumentCount : Int32)  (r : Int32) (hf : f_X7_length Z_n = some (r)) : Met l yX7_length wsX7_length ({ frames := 2, cells := 0, slots := 0, locals := 40 } : Room) (va_Pc [.ref (a 0)] (wk_BT (dC, dI) Y g (wX7 Y a g Z_v Z_m Z_ml Z_n Z_f S_position S_count S_cm S_arguments S_argumentCount))) (vp_Si (fun r2 => r2 = r)) 0 0 (fun _ => False) := by
  refine Met.ofW (cc := cX7_length) (maxL := 1) (ret := (some .int)) (by decide) rfl ?_
  intro p e s m args below meth c s₁ B hml hv
  obtain ⟨rfl, ⟨hP, hK⟩, hT⟩ := hv
  have hx := B.exec
  have hb := B.bytes
  have hr := B.returns
  have hts := atoms_spec (ws := wsX7_length) B.pre
  have hown : s.vm.findClass RX7 = some m.cls := findClass_of_methodNamed B.named
  have hlocks := B.notSynchronized
  have C0 : wk_C p s m _ meth c cX7_length 1 (some .int) wsX7_length RX7 := ⟨hx, hb, hml, hr, hlocks, hown, hts⟩
  have hP : va_P (dC, dI) vwCl [(a 0, .inr (7, [.ref (a 1), .int S_position, .int S_count, .ref (a 2), .ref (a 3), .int S_argumentCount])), (a 1, .inr (1, [.ref Z_v, .int 0, .int Z_ml, .int Z_n])), (Z_v, .inl (Y 1, Z_m, .inl Z_f)), (a 2, .inl (Y 4, 12, .inr (.inr (.inr (.inr (wk_cm g S_cm)))))), (a 3, .inl (Y 0, 48, .inl S_arguments))] s.heap := hP
  have hS : va_S (fun _ : Nat => False) s.heap s.heap [] := va_S.rf
  have hl := lv_entry ([.ref (a 0)]) (n := 1) (Nat.le_of_ble_eq_true rfl)
  rw [lg_entry_eq]
  generalize (lg_sl ([.ref (a 0)]) ++ List.replicate (1 - (lg_sl ([.ref (a 0)])).length) Slot.unset).toArray = ls at hl ⊢
  have hl : lv_has ls 1 [(0, .ref (a 0))] := hl
  rw [f_X7_length] at hf
  refine lv_aload_n hx hb dX7_length_0 rfl (lv_at hl 0 rfl) ?_
  refine va_get (D := (dC, dI)) (ci := 7) (v := .ref (a 1)) (C := RX7) (T := TX7) (N := 6) hx hb hts in_X7_length_X7 hown hK hP 0 rfl rfl 0 (by decide) (hts _ lk_X7_length_RX7_12) (fun _ h9 => h9) rfl dX7_length_1 ?_
  obtain ⟨r1, hr2, hf⟩ := wkb1_s hf
  have hPc := hP.sub (ws' := (wJ4 Y (fun k => a (k + 1)) Z_v Z_m Z_ml Z_n Z_f)) [1, 2] rfl
  refine wk_vi (As := []) (rest := []) ⟨hx, hb, hml, hown, hts⟩ (c_J4_length_8abf5 l dC dI Y (fun k => a (k + 1)) Z_v Z_m Z_ml Z_n Z_f r1 hr2) (cwV 0 hts gX7_length_J4_length_8abf5 rfl rfl rfl (by decide +kernel) ⟨Nat.le_of_ble_eq_true rfl, Nat.le_of_ble_eq_true rfl⟩) hK hPc (va_recv hK hP (ci := 1) (q0 := 1) rfl rfl) rfl hl.1 rfl (Nat.le_of_ble_eq_true rfl) dX7_length_4 ⟨Nat.le_of_ble_eq_true rfl, Nat.le_of_ble_eq_true rfl⟩ ?_
  have e0 := wke1 hf
  subst e0
  exact W.iret (v := r1) hx hb hr (fun t ht hW => ⟨r1, rfl, rfl, ht⟩) (fun q h => absurd h List.not_mem_nil) dX7_length_7
theorem lk_X7_append_RX7_12 : Cond.fieldLink RX7 12 "CircusLedger$Script" "text" "Ljava/lang/StringBuilder;" ∈ wsX7_append := by decide +kernel
theorem in_X7_append_X7 : ∀ w ∈ u_ws RX7 TX7 6, w ∈ wsX7_append := by decide +kernel
def f_X7_append (Z_m : Nat) (Z_n : Int32) (Z_f : Nat → Int32) (x1 : Int32) : Option (Int32 × Nat × Int32 × (Nat → Int32)) :=
  wkb3 (f_J4_append_cf468 Z_m Z_n Z_f x1) (fun w2 w3 w4 =>
  wkb1 (f_J4_length_8abf5 w3) (fun r7 =>
  some (r7, w2, w3, w4)))
set_option maxHeartbeats 4000000 in
set_option maxRecDepth 100000 in
theorem c_X7_append (l : Launch) (dC : Nat → ClassId) (dI : Nat → Nat → Nat) (Y : Nat → ClassId) (g : Nat → Nat → Nat) (a : Nat → Nat) (Z_v : Nat) (Z_m : Nat) (Z_ml : Int32) (Z_n : Int32) (Z_f : Nat → Int32) (S_position : Int32) (S_count : Int32) (S_cm : Nat → Option Nat) (S_arguments : Nat → Int32) (S_argumentCount : Int32) (x1 : Int32) (sz : Nat) (r : Int32) (zZ_m : Nat) (zZ_n : Int32) (zZ_f : Nat → Int32) (hf : f_X7_append Z_m Z_n Z_f x1 = some (r, zZ_m, zZ_n, zZ_f)) : Met l yX7_append wsX7_append ({ frames := 6, cells := 1, slots := 142, locals := 286 } : Room) (va_Pc [.ref (a 0), .int x1] (wk_ET (dC, dI) Y g (wX7 Y a g Z_v Z_m Z_ml Z_n Z_f S_position S_count S_cm S_arguments S_argumentCount) sz)) (va_Qi (fun r2 (_ : Nat) => r2 = r) (fun u9 t => wk_X (dC, dI) Y (wX7 Y a g u9 zZ_m Z_ml zZ_n zZ_f S_position S_count S_cm S_arguments S_argumentCount) (va_A (wX7 Y a g Z_v Z_m Z_ml Z_n Z_f S_position S_count S_cm S_arguments S_argumentCount) sz) t) (va_A (wX7 Y a g Z_v Z_m Z_ml Z_n Z_f S_position S_count S_cm S_arguments S_argumentCount) sz)) 1 142 (va_A (wX7 Y a g Z_v Z_m Z_ml Z_n Z_f S_position S_count S_cm S_arguments S_argumentCount) sz) := by
  refine Met.ofW (cc := cX7_append) (maxL := 2) (ret := (some .int)) (by decide) rfl ?_
  intro p e s m args below meth c s₁ B hml hv
  obtain ⟨rfl, ⟨hsz, hP, hK, hD0⟩, hT⟩ := hv
  have hx := B.exec
  have hb := B.bytes
  have hr := B.returns
  have hts := atoms_spec (ws := wsX7_append) B.pre
  have hown : s.vm.findClass RX7 = some m.cls := findClass_of_methodNamed B.named
  have hlocks := B.notSynchronized
  have C0 : wk_C p s m _ meth c cX7_append 2 (some .int) wsX7_append RX7 := ⟨hx, hb, hml, hr, hlocks, hown, hts⟩
  subst hsz
  have hD := hD0.self (sz := s.heap.size)
  generalize hAe : va_A (wX7 Y a g Z_v Z_m Z_ml Z_n Z_f S_position S_count S_cm S_arguments S_argumentCount) s.heap.size = A at hD hT ⊢
  have hA : ∀ q : Nat, s.heap.size ≤ q → A q := fun q h => by rw [← hAe]; exact Or.inr h
  have hS : va_S A s.heap s.heap [] := va_S.rf
  obtain ⟨H, hHe⟩ : ∃ H, H = s.heap := ⟨_, rfl⟩
  have hS : va_S A s.heap H [] := by rw [hHe]; exact hS
  have hP : va_P (dC, dI) vwCl [(a 0, .inr (7, [.ref (a 1), .int S_position, .int S_count, .ref (a 2), .ref (a 3), .int S_argumentCount])), (a 1, .inr (1, [.ref Z_v, .int 0, .int Z_ml, .int Z_n])), (Z_v, .inl (Y 1, Z_m, .inl Z_f)), (a 2, .inl (Y 4, 12, .inr (.inr (.inr (.inr (wk_cm g S_cm)))))), (a 3, .inl (Y 0, 48, .inl S_arguments))] H := by rw [hHe]; exact hP
  have hD : va_D A [(a 0, .inr (7, [.ref (a 1), .int S_position, .int S_count, .ref (a 2), .ref (a 3), .int S_argumentCount])), (a 1, .inr (1, [.ref Z_v, .int 0, .int Z_ml, .int Z_n])), (Z_v, .inl (Y 1, Z_m, .inl Z_f)), (a 2, .inl (Y 4, 12, .inr (.inr (.inr (.inr (wk_cm g S_cm)))))), (a 3, .inl (Y 0, 48, .inl S_arguments))] := hD
  obtain ⟨locs, hlo⟩ : ∃ locs : List Loc, locs = [] := ⟨_, rfl⟩
  have hS : va_S A s.heap H locs := by rw [hlo]; exact hS
  have hl := lv_entry ([.ref (a 0), .int x1]) (n := 2) (Nat.le_of_ble_eq_true rfl)
  rw [lg_entry_eq]
  generalize (lg_sl ([.ref (a 0), .int x1]) ++ List.replicate (2 - (lg_sl ([.ref (a 0), .int x1])).length) Slot.unset).toArray = ls at hl ⊢
  have hl : lv_has ls 2 [(0, .ref (a 0)), (1, .int x1)] := hl
  refine wk_start hHe hlo ?_
  rw [f_X7_append] at hf
  refine lv_aload_n hx hb dX7_append_0 rfl (lv_at hl 0 rfl) ?_
  refine va_get (D := (dC, dI)) (ci := 7) (v := .ref (a 1)) (C := RX7) (T := TX7) (N := 6) hx hb hts in_X7_append_X7 hown hK hP 0 rfl rfl 0 (by decide) (hts _ lk_X7_append_RX7_12) (fun _ h9 => h9) rfl dX7_append_1 ?_
  refine lv_iload_n hx hb dX7_append_4 rfl (lv_at hl 1 rfl) ?_
  obtain ⟨w2, w3, w4, hr5, hf⟩ := wkb3_s hf
  have hPc := hP.sub (ws' := (wJ4 Y (fun k => a (k + 1)) Z_v Z_m Z_ml Z_n Z_f)) [1, 2] rfl
  have hDc := hD.sub (ws' := (wJ4 Y (fun k => a (k + 1)) Z_v Z_m Z_ml Z_n Z_f)) [1, 2] (by decide) rfl
  have hFc := va_free (wc := (wJ4 Y (fun k => a (k + 1)) Z_v Z_m Z_ml Z_n Z_f)) hD hS hA [1, 2] rfl
  refine wg_er (wc := (wJ4 Y (fun k => a (k + 1)) Z_v Z_m Z_ml Z_n Z_f)) (w1 := fun (u6 : Nat) => (wJ4 Y (fun k => a (k + 1)) u6 w2 Z_ml w3 w4)) (wr := [(a 0, .inr (7, [.ref (a 1), .int S_position, .int S_count, .ref (a 2), .ref (a 3), .int S_argumentCount])), (a 2, .inl (Y 4, 12, .inr (.inr (.inr (.inr (wk_cm g S_cm)))))), (a 3, .inl (Y 0, 48, .inl S_arguments))]) (va_runV (As := [.int x1]) (rest := []) ⟨hx, hb, hml, hown, hts⟩ (c_J4_append_cf468 l dC dI Y g (fun k => a (k + 1)) Z_v Z_m Z_ml Z_n Z_f x1 H.size w2 w3 w4 hr5) (cwV 1 hts gX7_append_J4_append_cf468 rfl rfl rfl (by decide +kernel) ⟨Nat.le_of_ble_eq_true rfl, Nat.le_of_ble_eq_true rfl⟩) ⟨wk_ETb, (va_recv hK hP (ci := 1) (q0 := 1) rfl rfl), wk_ETp hK hPc hDc hT hS hFc⟩ rfl rfl hl.1 rfl (lv_room (Nat.le_of_ble_eq_true rfl)) dX7_append_5 ⟨Nat.le_of_ble_eq_true rfl, Nat.le_of_ble_eq_true rfl⟩) hP hD hS [1, 2] [0, 3, 4] rfl rfl (by decide) (by decide) (by decide) hFc (fun u6 H locs hP hD hS => ?_)
  have hP : va_P (dC, dI) vwCl [(a 0, .inr (7, [.ref (a 1), .int S_position, .int S_count, .ref (a 2), .ref (a 3), .int S_argumentCount])), (a 2, .inl (Y 4, 12, .inr (.inr (.inr (.inr (wk_cm g S_cm)))))), (a 3, .inl (Y 0, 48, .inl S_arguments)), (a 1, .inr (1, [.ref u6, .int 0, .int Z_ml, .int w3])), (u6, .inl (Y 1, w2, .inl w4))] H := hP
  have hD : va_D A [(a 0, .inr (7, [.ref (a 1), .int S_position, .int S_count, .ref (a 2), .ref (a 3), .int S_argumentCount])), (a 2, .inl (Y 4, 12, .inr (.inr (.inr (.inr (wk_cm g S_cm)))))), (a 3, .inl (Y 0, 48, .inl S_arguments)), (a 1, .inr (1, [.ref u6, .int 0, .int Z_ml, .int w3])), (u6, .inl (Y 1, w2, .inl w4))] := hD
  refine lv_pop hx hb dX7_append_8 rfl ?_
  refine lv_aload_n hx hb dX7_append_9 rfl (lv_at hl 0 rfl) ?_
  refine va_get (D := (dC, dI)) (ci := 7) (v := .ref (a 1)) (C := RX7) (T := TX7) (N := 6) hx hb hts in_X7_append_X7 hown hK hP 0 rfl rfl 0 (by decide) (hts _ lk_X7_append_RX7_12) (fun _ h9 => h9) rfl dX7_append_10 ?_
  obtain ⟨r7, hr8, hf⟩ := wkb1_s hf
  have hPc := hP.sub (ws' := (wJ4 Y (fun k => a (k + 1)) u6 w2 Z_ml w3 w4)) [3, 4] rfl
  refine wk_vi (As := []) (rest := []) ⟨hx, hb, hml, hown, hts⟩ (c_J4_length_8abf5 l dC dI Y (fun k => a (k + 1)) u6 w2 Z_ml w3 w4 r7 hr8) (cwV 0 hts gX7_append_J4_length_8abf5 rfl rfl rfl (by decide +kernel) ⟨Nat.le_of_ble_eq_true rfl, Nat.le_of_ble_eq_true rfl⟩) hK hPc (va_recv hK hP (ci := 1) (q0 := 3) rfl rfl) rfl hl.1 rfl (Nat.le_of_ble_eq_true rfl) dX7_append_13 ⟨Nat.le_of_ble_eq_true rfl, Nat.le_of_ble_eq_true rfl⟩ ?_
  obtain ⟨e0, e1, e2, e3⟩ := wke4 hf
  subst e0
  subst e1
  subst e2
  subst e3
  have hP9 := hP.sub (ws' := (wX7 Y a g u6 w2 Z_ml w3 w4 S_position S_count S_cm S_arguments S_argumentCount)) [0, 3, 4, 1, 2] rfl
  have hD9 := hD.sub (ws' := (wX7 Y a g u6 w2 Z_ml w3 w4 S_position S_count S_cm S_arguments S_argumentCount)) [0, 3, 4, 1, 2] (by decide) rfl
  refine W.widen (k := 1) (n := 142) (Nat.le_of_ble_eq_true rfl) (Nat.le_of_ble_eq_true rfl) ?_
  exact W.iret (v := r7) hx hb hr (fun t ht hW => ⟨⟨r7, u6, rfl, rfl, by rw [ht]; exact hP9, va_K.moved hW.alike hK, hD9⟩, hS.F ht⟩) hS.2.2 dX7_append_16
theorem lk_X7_clear_RX7_12 : Cond.fieldLink RX7 12 "CircusLedger$Script" "text" "Ljava/lang/StringBuilder;" ∈ wsX7_clear := by decide +kernel
theorem in_X7_clear_X7 : ∀ w ∈ u_ws RX7 TX7 6, w ∈ wsX7_clear := by decide +kernel
def f_X7_clear (Z_m : Nat) (Z_ml : Int32) (Z_n : Int32) (Z_f : Nat → Int32) : Option (Nat × Int32 × Int32 × (Nat → Int32)) :=
  wkb4 (f_J4_setLength_d00df Z_m Z_ml Z_n Z_f 0) (fun w1 w2 w3 w4 =>
  some (w1, w2, w3, w4))
set_option maxHeartbeats 4000000 in
set_option maxRecDepth 100000 in
theorem c_X7_clear (l : Launch) (dC : Nat → ClassId) (dI : Nat → Nat → Nat) (Y : Nat → ClassId) (g : Nat → Nat → Nat) (a : Nat → Nat) (Z_v : Nat) (Z_m : Nat) (Z_ml : Int32) (Z_n : Int32) (Z_f : Nat → Int32) (S_position : Int32) (S_count : Int32) (S_cm : Nat → Option Nat) (S_arguments : Nat → Int32) (S_argumentCount : Int32)  (sz : Nat) (zZ_m : Nat) (zZ_ml : Int32) (zZ_n : Int32) (zZ_f : Nat → Int32) (hf : f_X7_clear Z_m Z_ml Z_n Z_f = some (zZ_m, zZ_ml, zZ_n, zZ_f)) : Met l yX7_clear wsX7_clear ({ frames := 6, cells := 1, slots := 142, locals := 286 } : Room) (va_Pc [.ref (a 0)] (wk_ET (dC, dI) Y g (wX7 Y a g Z_v Z_m Z_ml Z_n Z_f S_position S_count S_cm S_arguments S_argumentCount) sz)) (va_Qv (fun (_ : Nat) => True) (fun u9 t => wk_X (dC, dI) Y (wX7 Y a g u9 zZ_m zZ_ml zZ_n zZ_f S_position S_count S_cm S_arguments S_argumentCount) (va_A (wX7 Y a g Z_v Z_m Z_ml Z_n Z_f S_position S_count S_cm S_arguments S_argumentCount) sz) t) (va_A (wX7 Y a g Z_v Z_m Z_ml Z_n Z_f S_position S_count S_cm S_arguments S_argumentCount) sz)) 1 142 (va_A (wX7 Y a g Z_v Z_m Z_ml Z_n Z_f S_position S_count S_cm S_arguments S_argumentCount) sz) := by
  refine Met.ofW (cc := cX7_clear) (maxL := 1) (ret := none) (by decide) rfl ?_
  intro p e s m args below meth c s₁ B hml hv
  obtain ⟨rfl, ⟨hsz, hP, hK, hD0⟩, hT⟩ := hv
  have hx := B.exec
  have hb := B.bytes
  have hr := B.returns
  have hts := atoms_spec (ws := wsX7_clear) B.pre
  have hown : s.vm.findClass RX7 = some m.cls := findClass_of_methodNamed B.named
  have hlocks := B.notSynchronized
  have C0 : wk_C p s m _ meth c cX7_clear 1 none wsX7_clear RX7 := ⟨hx, hb, hml, hr, hlocks, hown, hts⟩
  subst hsz
  have hD := hD0.self (sz := s.heap.size)
  generalize hAe : va_A (wX7 Y a g Z_v Z_m Z_ml Z_n Z_f S_position S_count S_cm S_arguments S_argumentCount) s.heap.size = A at hD hT ⊢
  have hA : ∀ q : Nat, s.heap.size ≤ q → A q := fun q h => by rw [← hAe]; exact Or.inr h
  have hS : va_S A s.heap s.heap [] := va_S.rf
  obtain ⟨H, hHe⟩ : ∃ H, H = s.heap := ⟨_, rfl⟩
  have hS : va_S A s.heap H [] := by rw [hHe]; exact hS
  have hP : va_P (dC, dI) vwCl [(a 0, .inr (7, [.ref (a 1), .int S_position, .int S_count, .ref (a 2), .ref (a 3), .int S_argumentCount])), (a 1, .inr (1, [.ref Z_v, .int 0, .int Z_ml, .int Z_n])), (Z_v, .inl (Y 1, Z_m, .inl Z_f)), (a 2, .inl (Y 4, 12, .inr (.inr (.inr (.inr (wk_cm g S_cm)))))), (a 3, .inl (Y 0, 48, .inl S_arguments))] H := by rw [hHe]; exact hP
  have hD : va_D A [(a 0, .inr (7, [.ref (a 1), .int S_position, .int S_count, .ref (a 2), .ref (a 3), .int S_argumentCount])), (a 1, .inr (1, [.ref Z_v, .int 0, .int Z_ml, .int Z_n])), (Z_v, .inl (Y 1, Z_m, .inl Z_f)), (a 2, .inl (Y 4, 12, .inr (.inr (.inr (.inr (wk_cm g S_cm)))))), (a 3, .inl (Y 0, 48, .inl S_arguments))] := hD
  obtain ⟨locs, hlo⟩ : ∃ locs : List Loc, locs = [] := ⟨_, rfl⟩
  have hS : va_S A s.heap H locs := by rw [hlo]; exact hS
  have hl := lv_entry ([.ref (a 0)]) (n := 1) (Nat.le_of_ble_eq_true rfl)
  rw [lg_entry_eq]
  generalize (lg_sl ([.ref (a 0)]) ++ List.replicate (1 - (lg_sl ([.ref (a 0)])).length) Slot.unset).toArray = ls at hl ⊢
  have hl : lv_has ls 1 [(0, .ref (a 0))] := hl
  refine wk_start hHe hlo ?_
  rw [f_X7_clear] at hf
  refine lv_aload_n hx hb dX7_clear_0 rfl (lv_at hl 0 rfl) ?_
  refine va_get (D := (dC, dI)) (ci := 7) (v := .ref (a 1)) (C := RX7) (T := TX7) (N := 6) hx hb hts in_X7_clear_X7 hown hK hP 0 rfl rfl 0 (by decide) (hts _ lk_X7_clear_RX7_12) (fun _ h9 => h9) rfl dX7_clear_1 ?_
  refine lv_iconst (v := 0) hx hb dX7_clear_4 (by decide) ?_
  obtain ⟨w1, w2, w3, w4, hr5, hf⟩ := wkb4_s hf
  have hPc := hP.sub (ws' := (wJ4 Y (fun k => a (k + 1)) Z_v Z_m Z_ml Z_n Z_f)) [1, 2] rfl
  have hDc := hD.sub (ws' := (wJ4 Y (fun k => a (k + 1)) Z_v Z_m Z_ml Z_n Z_f)) [1, 2] (by decide) rfl
  have hFc := va_free (wc := (wJ4 Y (fun k => a (k + 1)) Z_v Z_m Z_ml Z_n Z_f)) hD hS hA [1, 2] rfl
  refine wg_ev (wc := (wJ4 Y (fun k => a (k + 1)) Z_v Z_m Z_ml Z_n Z_f)) (w1 := fun (u6 : Nat) => (wJ4 Y (fun k => a (k + 1)) u6 w1 w2 w3 w4)) (wr := [(a 0, .inr (7, [.ref (a 1), .int S_position, .int S_count, .ref (a 2), .ref (a 3), .int S_argumentCount])), (a 2, .inl (Y 4, 12, .inr (.inr (.inr (.inr (wk_cm g S_cm)))))), (a 3, .inl (Y 0, 48, .inl S_arguments))]) (va_runV (As := [.int 0]) (rest := []) ⟨hx, hb, hml, hown, hts⟩ (c_J4_setLength_d00df l dC dI Y (fun k => a (k + 1)) Z_v Z_m Z_ml Z_n Z_f 0 H.size w1 w2 w3 w4 hr5) (cwV 1 hts gX7_clear_J4_setLength_d00df rfl rfl rfl (by decide +kernel) ⟨Nat.le_of_ble_eq_true rfl, Nat.le_of_ble_eq_true rfl⟩) ⟨wk_Eb, (va_recv hK hP (ci := 1) (q0 := 1) rfl rfl), wk_Ep hK hPc hDc⟩ rfl rfl hl.1 rfl (lv_room (Nat.le_of_ble_eq_true rfl)) dX7_clear_5 ⟨Nat.le_of_ble_eq_true rfl, Nat.le_of_ble_eq_true rfl⟩) hP hD hS [1, 2] [0, 3, 4] rfl rfl (by decide) (by decide) (by decide) hFc (fun u6 H locs hP hD hS => ?_)
  have hP : va_P (dC, dI) vwCl [(a 0, .inr (7, [.ref (a 1), .int S_position, .int S_count, .ref (a 2), .ref (a 3), .int S_argumentCount])), (a 2, .inl (Y 4, 12, .inr (.inr (.inr (.inr (wk_cm g S_cm)))))), (a 3, .inl (Y 0, 48, .inl S_arguments)), (a 1, .inr (1, [.ref u6, .int 0, .int w2, .int w3])), (u6, .inl (Y 1, w1, .inl w4))] H := hP
  have hD : va_D A [(a 0, .inr (7, [.ref (a 1), .int S_position, .int S_count, .ref (a 2), .ref (a 3), .int S_argumentCount])), (a 2, .inl (Y 4, 12, .inr (.inr (.inr (.inr (wk_cm g S_cm)))))), (a 3, .inl (Y 0, 48, .inl S_arguments)), (a 1, .inr (1, [.ref u6, .int 0, .int w2, .int w3])), (u6, .inl (Y 1, w1, .inl w4))] := hD
  obtain ⟨e0, e1, e2, e3⟩ := wke4 hf
  subst e0
  subst e1
  subst e2
  subst e3
  have hP9 := hP.sub (ws' := (wX7 Y a g u6 w1 w2 w3 w4 S_position S_count S_cm S_arguments S_argumentCount)) [0, 3, 4, 1, 2] rfl
  have hD9 := hD.sub (ws' := (wX7 Y a g u6 w1 w2 w3 w4 S_position S_count S_cm S_arguments S_argumentCount)) [0, 3, 4, 1, 2] (by decide) rfl
  refine W.widen (k := 1) (n := 142) (Nat.le_of_ble_eq_true rfl) (Nat.le_of_ble_eq_true rfl) ?_
  exact W.vret hx hb hr (fun t ht hW => ⟨⟨u6, rfl, trivial, by rw [ht]; exact hP9, va_K.moved hW.alike hK, hD9⟩, hS.F ht⟩) hS.2.2 dX7_clear_8
theorem lk_X7_argument_RX7_24 : Cond.fieldLink RX7 24 "CircusLedger$Script" "arguments" "[I" ∈ wsX7_argument := by decide +kernel
theorem in_X7_argument_X7 : ∀ w ∈ u_ws RX7 TX7 6, w ∈ wsX7_argument := by decide +kernel
def f_X7_argument (S_arguments : Nat → Int32) (x1 : Int32) (x2 : Int32) : Option (Int32) :=
  gin ((x1 * 4) + x2) 48 (some ((S_arguments ((x1 * 4) + x2).toNatClampNeg)))
set_option maxHeartbeats 4000000 in
set_option maxRecDepth 100000 in
theorem c_X7_argument (l : Launch) (dC : Nat → ClassId) (dI : Nat → Nat → Nat) (Y : Nat → ClassId) (g : Nat → Nat → Nat) (a : Nat → Nat) (Z_v : Nat) (Z_m : Nat) (Z_ml : Int32) (Z_n : Int32) (Z_f : Nat → Int32) (S_position : Int32) (S_count : Int32) (S_cm : Nat → Option Nat) (S_arguments : Nat → Int32) (S_argumentCount : Int32) (x1 : Int32) (x2 : Int32) (r : Int32) (hf : f_X7_argument S_arguments x1 x2 = some (r)) : Met l yX7_argument wsX7_argument ({ frames := 0, cells := 0, slots := 0, locals := 0 } : Room) (va_Pc [.ref (a 0), .int x1, .int x2] (wk_BT (dC, dI) Y g (wX7 Y a g Z_v Z_m Z_ml Z_n Z_f S_position S_count S_cm S_arguments S_argumentCount))) (vp_Si (fun r2 => r2 = r)) 0 0 (fun _ => False) := by
  refine Met.ofW (cc := cX7_argument) (maxL := 3) (ret := (some .int)) (by decide) rfl ?_
  intro p e s m args below meth c s₁ B hml hv
  obtain ⟨rfl, ⟨hP, hK⟩, hT⟩ := hv
  have hx := B.exec
  have hb := B.bytes
  have hr := B.returns
  have hts := atoms_spec (ws := wsX7_argument) B.pre
  have hown : s.vm.findClass RX7 = some m.cls := findClass_of_methodNamed B.named
  have hlocks := B.notSynchronized
  have C0 : wk_C p s m _ meth c cX7_argument 3 (some .int) wsX7_argument RX7 := ⟨hx, hb, hml, hr, hlocks, hown, hts⟩
  have hP : va_P (dC, dI) vwCl [(a 0, .inr (7, [.ref (a 1), .int S_position, .int S_count, .ref (a 2), .ref (a 3), .int S_argumentCount])), (a 1, .inr (1, [.ref Z_v, .int 0, .int Z_ml, .int Z_n])), (Z_v, .inl (Y 1, Z_m, .inl Z_f)), (a 2, .inl (Y 4, 12, .inr (.inr (.inr (.inr (wk_cm g S_cm)))))), (a 3, .inl (Y 0, 48, .inl S_arguments))] s.heap := hP
  have hS : va_S (fun _ : Nat => False) s.heap s.heap [] := va_S.rf
  have hl := lv_entry ([.ref (a 0), .int x1, .int x2]) (n := 3) (Nat.le_of_ble_eq_true rfl)
  rw [lg_entry_eq]
  generalize (lg_sl ([.ref (a 0), .int x1, .int x2]) ++ List.replicate (3 - (lg_sl ([.ref (a 0), .int x1, .int x2])).length) Slot.unset).toArray = ls at hl ⊢
  have hl : lv_has ls 3 [(0, .ref (a 0)), (1, .int x1), (2, .int x2)] := hl
  rw [f_X7_argument] at hf
  refine lv_aload_n hx hb dX7_argument_0 rfl (lv_at hl 0 rfl) ?_
  refine va_get (D := (dC, dI)) (ci := 7) (v := .ref (a 3)) (C := RX7) (T := TX7) (N := 6) hx hb hts in_X7_argument_X7 hown hK hP 0 rfl rfl 4 (by decide) (hts _ lk_X7_argument_RX7_24) (fun _ h9 => h9) rfl dX7_argument_1 ?_
  refine lv_iload_n hx hb dX7_argument_4 rfl (lv_at hl 1 rfl) ?_
  refine lv_iconst (v := 4) hx hb dX7_argument_5 (by decide) ?_
  refine lv_imul hx hb dX7_argument_6 ?_
  refine lv_iload_n hx hb dX7_argument_7 rfl (lv_at hl 2 rfl) ?_
  refine lv_iadd hx hb dX7_argument_8 ?_
  obtain ⟨h1, hf⟩ := gin_s hf
  refine wk_iald hx hb hK hP 4 0 rfl rfl h1 rfl dX7_argument_9 ?_
  have e0 := wke1 hf
  subst e0
  exact W.iret (v := (S_arguments ((x1 * 4) + x2).toNatClampNeg)) hx hb hr (fun t ht hW => ⟨(S_arguments ((x1 * 4) + x2).toNatClampNeg), rfl, rfl, ht⟩) (fun q h => absurd h List.not_mem_nil) dX7_argument_10
theorem lk_X7_addArgument_RX7_24 : Cond.fieldLink RX7 24 "CircusLedger$Script" "arguments" "[I" ∈ wsX7_addArgument := by decide +kernel
theorem lk_X7_addArgument_RX7_122 : Cond.fieldLink RX7 122 "CircusLedger$Script" "count" "I" ∈ wsX7_addArgument := by decide +kernel
theorem lk_X7_addArgument_RX7_136 : Cond.fieldLink RX7 136 "CircusLedger$Script" "argumentCount" "I" ∈ wsX7_addArgument := by decide +kernel
theorem in_X7_addArgument_X7 : ∀ w ∈ u_ws RX7 TX7 6, w ∈ wsX7_addArgument := by decide +kernel
def f_X7_addArgument (S_count : Int32) (S_arguments : Nat → Int32) (S_argumentCount : Int32) (x1 : Int32) : Option ((Nat → Int32) × Int32) :=
  if (4 : Int32) ≤ S_argumentCount then
    (some (S_arguments, S_argumentCount))
  else
    (gin ((S_count * 4) + S_argumentCount) 48 (wkl (upd S_arguments (((S_count * 4) + S_argumentCount).toNatClampNeg) x1) (fun g2 =>
    wkl ((S_argumentCount + 1)) (fun v4 =>
    some (g2, v4)))))
set_option maxHeartbeats 4000000 in
set_option maxRecDepth 100000 in
theorem c_X7_addArgument (l : Launch) (dC : Nat → ClassId) (dI : Nat → Nat → Nat) (Y : Nat → ClassId) (g : Nat → Nat → Nat) (a : Nat → Nat) (Z_v : Nat) (Z_m : Nat) (Z_ml : Int32) (Z_n : Int32) (Z_f : Nat → Int32) (S_position : Int32) (S_count : Int32) (S_cm : Nat → Option Nat) (S_arguments : Nat → Int32) (S_argumentCount : Int32) (x1 : Int32) (sz : Nat) (zS_arguments : Nat → Int32) (zS_argumentCount : Int32) (hf : f_X7_addArgument S_count S_arguments S_argumentCount x1 = some (zS_arguments, zS_argumentCount)) : Met l yX7_addArgument wsX7_addArgument ({ frames := 0, cells := 0, slots := 0, locals := 0 } : Room) (va_Pc [.ref (a 0), .int x1] (wk_ET (dC, dI) Y g (wX7 Y a g Z_v Z_m Z_ml Z_n Z_f S_position S_count S_cm S_arguments S_argumentCount) sz)) (va_Qv (fun (_ : Nat) => True) (fun u9 t => wk_X (dC, dI) Y (wX7 Y a g Z_v Z_m Z_ml Z_n Z_f S_position S_count S_cm zS_arguments zS_argumentCount) (va_A (wX7 Y a g Z_v Z_m Z_ml Z_n Z_f S_position S_count S_cm S_arguments S_argumentCount) sz) t) (va_A (wX7 Y a g Z_v Z_m Z_ml Z_n Z_f S_position S_count S_cm S_arguments S_argumentCount) sz)) 0 0 (va_A (wX7 Y a g Z_v Z_m Z_ml Z_n Z_f S_position S_count S_cm S_arguments S_argumentCount) sz) := by
  refine Met.ofW (cc := cX7_addArgument) (maxL := 2) (ret := none) (by decide) rfl ?_
  intro p e s m args below meth c s₁ B hml hv
  obtain ⟨rfl, ⟨hsz, hP, hK, hD0⟩, hT⟩ := hv
  have hx := B.exec
  have hb := B.bytes
  have hr := B.returns
  have hts := atoms_spec (ws := wsX7_addArgument) B.pre
  have hown : s.vm.findClass RX7 = some m.cls := findClass_of_methodNamed B.named
  have hlocks := B.notSynchronized
  have C0 : wk_C p s m _ meth c cX7_addArgument 2 none wsX7_addArgument RX7 := ⟨hx, hb, hml, hr, hlocks, hown, hts⟩
  subst hsz
  have hD := hD0.self (sz := s.heap.size)
  generalize hAe : va_A (wX7 Y a g Z_v Z_m Z_ml Z_n Z_f S_position S_count S_cm S_arguments S_argumentCount) s.heap.size = A at hD hT ⊢
  have hA : ∀ q : Nat, s.heap.size ≤ q → A q := fun q h => by rw [← hAe]; exact Or.inr h
  have hS : va_S A s.heap s.heap [] := va_S.rf
  obtain ⟨H, hHe⟩ : ∃ H, H = s.heap := ⟨_, rfl⟩
  have hS : va_S A s.heap H [] := by rw [hHe]; exact hS
  have hP : va_P (dC, dI) vwCl [(a 0, .inr (7, [.ref (a 1), .int S_position, .int S_count, .ref (a 2), .ref (a 3), .int S_argumentCount])), (a 1, .inr (1, [.ref Z_v, .int 0, .int Z_ml, .int Z_n])), (Z_v, .inl (Y 1, Z_m, .inl Z_f)), (a 2, .inl (Y 4, 12, .inr (.inr (.inr (.inr (wk_cm g S_cm)))))), (a 3, .inl (Y 0, 48, .inl S_arguments))] H := by rw [hHe]; exact hP
  have hD : va_D A [(a 0, .inr (7, [.ref (a 1), .int S_position, .int S_count, .ref (a 2), .ref (a 3), .int S_argumentCount])), (a 1, .inr (1, [.ref Z_v, .int 0, .int Z_ml, .int Z_n])), (Z_v, .inl (Y 1, Z_m, .inl Z_f)), (a 2, .inl (Y 4, 12, .inr (.inr (.inr (.inr (wk_cm g S_cm)))))), (a 3, .inl (Y 0, 48, .inl S_arguments))] := hD
  obtain ⟨locs, hlo⟩ : ∃ locs : List Loc, locs = [] := ⟨_, rfl⟩
  have hS : va_S A s.heap H locs := by rw [hlo]; exact hS
  have hl := lv_entry ([.ref (a 0), .int x1]) (n := 2) (Nat.le_of_ble_eq_true rfl)
  rw [lg_entry_eq]
  generalize (lg_sl ([.ref (a 0), .int x1]) ++ List.replicate (2 - (lg_sl ([.ref (a 0), .int x1])).length) Slot.unset).toArray = ls at hl ⊢
  have hl : lv_has ls 2 [(0, .ref (a 0)), (1, .int x1)] := hl
  refine wk_start hHe hlo ?_
  rw [f_X7_addArgument] at hf
  refine lv_aload_n hx hb dX7_addArgument_0 rfl (lv_at hl 0 rfl) ?_
  refine va_get (D := (dC, dI)) (ci := 7) (v := .int S_argumentCount) (C := RX7) (T := TX7) (N := 6) hx hb hts in_X7_addArgument_X7 hown hK hP 0 rfl rfl 5 (by decide) (hts _ lk_X7_addArgument_RX7_136) (fun _ h9 => h9) rfl dX7_addArgument_1 ?_
  refine lv_iconst (v := 4) hx hb dX7_addArgument_4 (by decide) ?_
  refine lv_icmp_ge (tgt := 35) hx hb dX7_addArgument_5 (by decide) (fun q1 => ?_) (fun q1 => ?_)
  · have hf := wk_t hf q1
    obtain ⟨e0, e1⟩ := wke2 hf
    subst e0
    subst e1
    have hP9 := hP.sub (ws' := (wX7 Y a g Z_v Z_m Z_ml Z_n Z_f S_position S_count S_cm S_arguments S_argumentCount)) [0, 1, 2, 3, 4] rfl
    have hD9 := hD.sub (ws' := (wX7 Y a g Z_v Z_m Z_ml Z_n Z_f S_position S_count S_cm S_arguments S_argumentCount)) [0, 1, 2, 3, 4] (by decide) rfl
    exact W.vret hx hb hr (fun t ht hW => ⟨⟨Z_v, rfl, trivial, by rw [ht]; exact hP9, va_K.moved hW.alike hK, hD9⟩, hS.F ht⟩) hS.2.2 dX7_addArgument_35
  · have hf := wk_f hf q1
    refine lv_aload_n hx hb dX7_addArgument_8 rfl (lv_at hl 0 rfl) ?_
    refine va_get (D := (dC, dI)) (ci := 7) (v := .ref (a 3)) (C := RX7) (T := TX7) (N := 6) hx hb hts in_X7_addArgument_X7 hown hK hP 0 rfl rfl 4 (by decide) (hts _ lk_X7_addArgument_RX7_24) (fun _ h9 => h9) rfl dX7_addArgument_9 ?_
    refine lv_aload_n hx hb dX7_addArgument_12 rfl (lv_at hl 0 rfl) ?_
    refine va_get (D := (dC, dI)) (ci := 7) (v := .int S_count) (C := RX7) (T := TX7) (N := 6) hx hb hts in_X7_addArgument_X7 hown hK hP 0 rfl rfl 2 (by decide) (hts _ lk_X7_addArgument_RX7_122) (fun _ h9 => h9) rfl dX7_addArgument_13 ?_
    refine lv_iconst (v := 4) hx hb dX7_addArgument_16 (by decide) ?_
    refine lv_imul hx hb dX7_addArgument_17 ?_
    refine lv_aload_n hx hb dX7_addArgument_18 rfl (lv_at hl 0 rfl) ?_
    refine va_get (D := (dC, dI)) (ci := 7) (v := .int S_argumentCount) (C := RX7) (T := TX7) (N := 6) hx hb hts in_X7_addArgument_X7 hown hK hP 0 rfl rfl 5 (by decide) (hts _ lk_X7_addArgument_RX7_136) (fun _ h9 => h9) rfl dX7_addArgument_19 ?_
    refine lv_iadd hx hb dX7_addArgument_22 ?_
    refine lv_iload_n hx hb dX7_addArgument_23 rfl (lv_at hl 1 rfl) ?_
    obtain ⟨h3, hf⟩ := gin_s hf
    refine wk_iast hx hb hK hP hD hS 4 0 (k := ((S_count * 4) + S_argumentCount).toNatClampNeg) rfl rfl h3 rfl dX7_addArgument_24 (fun g2 H locs eg2 hP hD hS => ?_)
    have hP : va_P (dC, dI) vwCl [(a 0, .inr (7, [.ref (a 1), .int S_position, .int S_count, .ref (a 2), .ref (a 3), .int S_argumentCount])), (a 1, .inr (1, [.ref Z_v, .int 0, .int Z_ml, .int Z_n])), (Z_v, .inl (Y 1, Z_m, .inl Z_f)), (a 2, .inl (Y 4, 12, .inr (.inr (.inr (.inr (wk_cm g S_cm)))))), (a 3, .inl (Y 0, 48, .inl g2))] H := hP
    have hD : va_D A [(a 0, .inr (7, [.ref (a 1), .int S_position, .int S_count, .ref (a 2), .ref (a 3), .int S_argumentCount])), (a 1, .inr (1, [.ref Z_v, .int 0, .int Z_ml, .int Z_n])), (Z_v, .inl (Y 1, Z_m, .inl Z_f)), (a 2, .inl (Y 4, 12, .inr (.inr (.inr (.inr (wk_cm g S_cm)))))), (a 3, .inl (Y 0, 48, .inl g2))] := hD
    have hf := wkl_s hf eg2
    refine lv_aload_n hx hb dX7_addArgument_25 rfl (lv_at hl 0 rfl) ?_
    refine lv_dup hx hb dX7_addArgument_26 rfl ?_
    refine va_get (D := (dC, dI)) (ci := 7) (v := .int S_argumentCount) (C := RX7) (T := TX7) (N := 6) hx hb hts in_X7_addArgument_X7 hown hK hP 0 rfl rfl 5 (by decide) (hts _ lk_X7_addArgument_RX7_136) (fun _ h9 => h9) rfl dX7_addArgument_27 ?_
    refine lv_iconst (v := 1) hx hb dX7_addArgument_30 (by decide) ?_
    refine lv_iadd hx hb dX7_addArgument_31 ?_
    refine lv_topi (fun v4 ev4 => ?_)
    have hf := wkl_s hf ev4
    refine va_put (D := (dC, dI)) (ci := 7) (v := .int v4) (ty := .int) (C := RX7) (T := TX7) (N := 6) hx hb hts in_X7_addArgument_X7 tyX7 tyX7_ok nmX7 hown hK hP hD hS 0 rfl rfl 5 (by decide) (hts _ lk_X7_addArgument_RX7_136) (fun _ h9 => h9) rfl (by decide +kernel) rfl rfl (Nat.le_of_ble_eq_true rfl) dX7_addArgument_32 (fun H locs hP hD hS => ?_)
    have hP : va_P (dC, dI) vwCl [(a 0, .inr (7, [.ref (a 1), .int S_position, .int S_count, .ref (a 2), .ref (a 3), .int v4])), (a 1, .inr (1, [.ref Z_v, .int 0, .int Z_ml, .int Z_n])), (Z_v, .inl (Y 1, Z_m, .inl Z_f)), (a 2, .inl (Y 4, 12, .inr (.inr (.inr (.inr (wk_cm g S_cm)))))), (a 3, .inl (Y 0, 48, .inl g2))] H := hP
    have hD : va_D A [(a 0, .inr (7, [.ref (a 1), .int S_position, .int S_count, .ref (a 2), .ref (a 3), .int v4])), (a 1, .inr (1, [.ref Z_v, .int 0, .int Z_ml, .int Z_n])), (Z_v, .inl (Y 1, Z_m, .inl Z_f)), (a 2, .inl (Y 4, 12, .inr (.inr (.inr (.inr (wk_cm g S_cm)))))), (a 3, .inl (Y 0, 48, .inl g2))] := hD
    obtain ⟨e0, e1⟩ := wke2 hf
    subst e0
    subst e1
    have hP9 := hP.sub (ws' := (wX7 Y a g Z_v Z_m Z_ml Z_n Z_f S_position S_count S_cm g2 v4)) [0, 1, 2, 3, 4] rfl
    have hD9 := hD.sub (ws' := (wX7 Y a g Z_v Z_m Z_ml Z_n Z_f S_position S_count S_cm g2 v4)) [0, 1, 2, 3, 4] (by decide) rfl
    exact W.vret hx hb hr (fun t ht hW => ⟨⟨Z_v, rfl, trivial, by rw [ht]; exact hP9, va_K.moved hW.alike hK, hD9⟩, hS.F ht⟩) hS.2.2 dX7_addArgument_35
theorem lk_X7_digitHere_RX7_12 : Cond.fieldLink RX7 12 "CircusLedger$Script" "text" "Ljava/lang/StringBuilder;" ∈ wsX7_digitHere := by decide +kernel
theorem lk_X7_digitHere_RX7_118 : Cond.fieldLink RX7 118 "CircusLedger$Script" "position" "I" ∈ wsX7_digitHere := by decide +kernel
theorem in_X7_digitHere_X7 : ∀ w ∈ u_ws RX7 TX7 6, w ∈ wsX7_digitHere := by decide +kernel
def f_X7_digitHere (Z_m : Nat) (Z_n : Int32) (Z_f : Nat → Int32) (S_position : Int32) : Option (Int32) :=
  wkb1 (f_J4_length_8abf5 Z_n) (fun r1 =>
  if r1 ≤ S_position then
    (some ((-1)))
  else
    (wkb1 (f_J4_charAt_5068e Z_m Z_n Z_f S_position) (fun r4 =>
    if r4 < 48 then
      (some ((-1)))
    else
      (if (57 : Int32) < r4 then
        (some ((-1)))
      else
        (some ((r4 - 48)))))))
set_option maxHeartbeats 4000000 in
set_option maxRecDepth 100000 in
theorem c_X7_digitHere (l : Launch) (dC : Nat → ClassId) (dI : Nat → Nat → Nat) (Y : Nat → ClassId) (g : Nat → Nat → Nat) (a : Nat → Nat) (Z_v : Nat) (Z_m : Nat) (Z_ml : Int32) (Z_n : Int32) (Z_f : Nat → Int32) (S_position : Int32) (S_count : Int32) (S_cm : Nat → Option Nat) (S_arguments : Nat → Int32) (S_argumentCount : Int32)  (r : Int32) (hf : f_X7_digitHere Z_m Z_n Z_f S_position = some (r)) : Met l yX7_digitHere wsX7_digitHere ({ frames := 4, cells := 0, slots := 0, locals := 88 } : Room) (va_Pc [.ref (a 0)] (wk_BT (dC, dI) Y g (wX7 Y a g Z_v Z_m Z_ml Z_n Z_f S_position S_count S_cm S_arguments S_argumentCount))) (vp_Si (fun r2 => r2 = r)) 0 0 (fun _ => False) := by
  refine Met.ofW (cc := cX7_digitHere) (maxL := 2) (ret := (some .int)) (by decide) rfl ?_
  intro p e s m args below meth c s₁ B hml hv
  obtain ⟨rfl, ⟨hP, hK⟩, hT⟩ := hv
  have hx := B.exec
  have hb := B.bytes
  have hr := B.returns
  have hts := atoms_spec (ws := wsX7_digitHere) B.pre
  have hown : s.vm.findClass RX7 = some m.cls := findClass_of_methodNamed B.named
  have hlocks := B.notSynchronized
  have C0 : wk_C p s m _ meth c cX7_digitHere 2 (some .int) wsX7_digitHere RX7 := ⟨hx, hb, hml, hr, hlocks, hown, hts⟩
  have hP : va_P (dC, dI) vwCl [(a 0, .inr (7, [.ref (a 1), .int S_position, .int S_count, .ref (a 2), .ref (a 3), .int S_argumentCount])), (a 1, .inr (1, [.ref Z_v, .int 0, .int Z_ml, .int Z_n])), (Z_v, .inl (Y 1, Z_m, .inl Z_f)), (a 2, .inl (Y 4, 12, .inr (.inr (.inr (.inr (wk_cm g S_cm)))))), (a 3, .inl (Y 0, 48, .inl S_arguments))] s.heap := hP
  have hS : va_S (fun _ : Nat => False) s.heap s.heap [] := va_S.rf
  have hl := lv_entry ([.ref (a 0)]) (n := 2) (Nat.le_of_ble_eq_true rfl)
  rw [lg_entry_eq]
  generalize (lg_sl ([.ref (a 0)]) ++ List.replicate (2 - (lg_sl ([.ref (a 0)])).length) Slot.unset).toArray = ls at hl ⊢
  have hl : lv_has ls 2 [(0, .ref (a 0))] := hl
  rw [f_X7_digitHere] at hf
  refine lv_aload_n hx hb dX7_digitHere_0 rfl (lv_at hl 0 rfl) ?_
  refine va_get (D := (dC, dI)) (ci := 7) (v := .int S_position) (C := RX7) (T := TX7) (N := 6) hx hb hts in_X7_digitHere_X7 hown hK hP 0 rfl rfl 1 (by decide) (hts _ lk_X7_digitHere_RX7_118) (fun _ h9 => h9) rfl dX7_digitHere_1 ?_
  refine lv_aload_n hx hb dX7_digitHere_4 rfl (lv_at hl 0 rfl) ?_
  refine va_get (D := (dC, dI)) (ci := 7) (v := .ref (a 1)) (C := RX7) (T := TX7) (N := 6) hx hb hts in_X7_digitHere_X7 hown hK hP 0 rfl rfl 0 (by decide) (hts _ lk_X7_digitHere_RX7_12) (fun _ h9 => h9) rfl dX7_digitHere_5 ?_
  obtain ⟨r1, hr2, hf⟩ := wkb1_s hf
  have hPc := hP.sub (ws' := (wJ4 Y (fun k => a (k + 1)) Z_v Z_m Z_ml Z_n Z_f)) [1, 2] rfl
  refine wk_vi (As := []) (rest := [.int S_position]) ⟨hx, hb, hml, hown, hts⟩ (c_J4_length_8abf5 l dC dI Y (fun k => a (k + 1)) Z_v Z_m Z_ml Z_n Z_f r1 hr2) (cwV 0 hts gX7_digitHere_J4_length_8abf5 rfl rfl rfl (by decide +kernel) ⟨Nat.le_of_ble_eq_true rfl, Nat.le_of_ble_eq_true rfl⟩) hK hPc (va_recv hK hP (ci := 1) (q0 := 1) rfl rfl) rfl hl.1 rfl (Nat.le_of_ble_eq_true rfl) dX7_digitHere_8 ⟨Nat.le_of_ble_eq_true rfl, Nat.le_of_ble_eq_true rfl⟩ ?_
  refine lv_icmp_ge (tgt := 28) hx hb dX7_digitHere_11 (by decide) (fun q3 => ?_) (fun q3 => ?_)
  · have hf := wk_t hf q3
    refine lv_bipush (v := 32) hx hb dX7_digitHere_28 (by decide) ?_
    refine lv_istore_n (lv' := [(1, .int 32), (0, .ref (a 0))]) hx hb dX7_digitHere_30 rfl hl (by decide) rfl (fun ls hl => ?_)
    refine lv_iload_n hx hb dX7_digitHere_31 rfl (lv_at hl 0 rfl) ?_
    refine lv_bipush (v := 48) hx hb dX7_digitHere_32 (by decide) ?_
    refine lv_icmp_lt (tgt := 50) hx hb dX7_digitHere_34 (by decide) (fun _ => ?_) (fun q9 => absurd q9 (by decide))
    refine lv_iconst (v := (-1)) hx hb dX7_digitHere_50 (by decide) ?_
    have e0 := wke1 hf
    subst e0
    exact W.iret (v := (-1)) hx hb hr (fun t ht hW => ⟨(-1), rfl, rfl, ht⟩) (fun q h => absurd h List.not_mem_nil) dX7_digitHere_51
  · have hf := wk_f hf q3
    refine lv_aload_n hx hb dX7_digitHere_14 rfl (lv_at hl 0 rfl) ?_
    refine va_get (D := (dC, dI)) (ci := 7) (v := .ref (a 1)) (C := RX7) (T := TX7) (N := 6) hx hb hts in_X7_digitHere_X7 hown hK hP 0 rfl rfl 0 (by decide) (hts _ lk_X7_digitHere_RX7_12) (fun _ h9 => h9) rfl dX7_digitHere_15 ?_
    refine lv_aload_n hx hb dX7_digitHere_18 rfl (lv_at hl 0 rfl) ?_
    refine va_get (D := (dC, dI)) (ci := 7) (v := .int S_position) (C := RX7) (T := TX7) (N := 6) hx hb hts in_X7_digitHere_X7 hown hK hP 0 rfl rfl 1 (by decide) (hts _ lk_X7_digitHere_RX7_118) (fun _ h9 => h9) rfl dX7_digitHere_19 ?_
    obtain ⟨r4, hr5, hf⟩ := wkb1_s hf
    have hPc := hP.sub (ws' := (wJ4 Y (fun k => a (k + 1)) Z_v Z_m Z_ml Z_n Z_f)) [1, 2] rfl
    refine wk_viT (As := [.int S_position]) (rest := []) ⟨hx, hb, hml, hown, hts⟩ (c_J4_charAt_5068e l dC dI Y g (fun k => a (k + 1)) Z_v Z_m Z_ml Z_n Z_f S_position r4 hr5) (cwV 1 hts gX7_digitHere_J4_charAt_5068e rfl rfl rfl (by decide +kernel) ⟨Nat.le_of_ble_eq_true rfl, Nat.le_of_ble_eq_true rfl⟩) hK hPc hT hS (va_recv hK hP (ci := 1) (q0 := 1) rfl rfl) rfl hl.1 rfl (Nat.le_of_ble_eq_true rfl) dX7_digitHere_22 ⟨Nat.le_of_ble_eq_true rfl, Nat.le_of_ble_eq_true rfl⟩ ?_
    refine lv_goto (tgt := 30) hx hb dX7_digitHere_25 (by decide) ?_
    refine lv_istore_n (lv' := [(1, .int r4), (0, .ref (a 0))]) hx hb dX7_digitHere_30 rfl hl (by decide) rfl (fun ls hl => ?_)
    refine lv_iload_n hx hb dX7_digitHere_31 rfl (lv_at hl 0 rfl) ?_
    refine lv_bipush (v := 48) hx hb dX7_digitHere_32 (by decide) ?_
    refine lv_icmp_lt (tgt := 50) hx hb dX7_digitHere_34 (by decide) (fun q6 => ?_) (fun q6 => ?_)
    · have hf := wk_t hf q6
      refine lv_iconst (v := (-1)) hx hb dX7_digitHere_50 (by decide) ?_
      have e0 := wke1 hf
      subst e0
      exact W.iret (v := (-1)) hx hb hr (fun t ht hW => ⟨(-1), rfl, rfl, ht⟩) (fun q h => absurd h List.not_mem_nil) dX7_digitHere_51
    · have hf := wk_f hf q6
      refine lv_iload_n hx hb dX7_digitHere_37 rfl (lv_at hl 0 rfl) ?_
      refine lv_bipush (v := 57) hx hb dX7_digitHere_38 (by decide) ?_
      refine lv_icmp_gt (tgt := 50) hx hb dX7_digitHere_40 (by decide) (fun q7 => ?_) (fun q7 => ?_)
      · have hf := wk_t hf q7
        refine lv_iconst (v := (-1)) hx hb dX7_digitHere_50 (by decide) ?_
        have e0 := wke1 hf
        subst e0
        exact W.iret (v := (-1)) hx hb hr (fun t ht hW => ⟨(-1), rfl, rfl, ht⟩) (fun q h => absurd h List.not_mem_nil) dX7_digitHere_51
      · have hf := wk_f hf q7
        refine lv_iload_n hx hb dX7_digitHere_43 rfl (lv_at hl 0 rfl) ?_
        refine lv_bipush (v := 48) hx hb dX7_digitHere_44 (by decide) ?_
        refine lv_isub hx hb dX7_digitHere_46 ?_
        refine lv_goto (tgt := 51) hx hb dX7_digitHere_47 (by decide) ?_
        have e0 := wke1 hf
        subst e0
        exact W.iret (v := (r4 - 48)) hx hb hr (fun t ht hW => ⟨(r4 - 48), rfl, rfl, ht⟩) (fun q h => absurd h List.not_mem_nil) dX7_digitHere_51
theorem lk_X7_readSign_RX7_12 : Cond.fieldLink RX7 12 "CircusLedger$Script" "text" "Ljava/lang/StringBuilder;" ∈ wsX7_readSign := by decide +kernel
theorem lk_X7_readSign_RX7_118 : Cond.fieldLink RX7 118 "CircusLedger$Script" "position" "I" ∈ wsX7_readSign := by decide +kernel
theorem in_X7_readSign_X7 : ∀ w ∈ u_ws RX7 TX7 6, w ∈ wsX7_readSign := by decide +kernel
def f_X7_readSign (Z_m : Nat) (Z_n : Int32) (Z_f : Nat → Int32) (S_position : Int32) (x1 : Int32) : Option (Int32 × Int32) :=
  wkb1 (f_J4_length_8abf5 Z_n) (fun r1 =>
  if r1 ≤ S_position then
    (some (0, S_position))
  else
    (wkb1 (f_J4_charAt_5068e Z_m Z_n Z_f S_position) (fun r4 =>
    if r4 = x1 then
      (wkl ((S_position + 1)) (fun v7 =>
      some (1, v7)))
    else
      (some (0, S_position)))))
set_option maxHeartbeats 4000000 in
set_option maxRecDepth 100000 in
theorem c_X7_readSign (l : Launch) (dC : Nat → ClassId) (dI : Nat → Nat → Nat) (Y : Nat → ClassId) (g : Nat → Nat → Nat) (a : Nat → Nat) (Z_v : Nat) (Z_m : Nat) (Z_ml : Int32) (Z_n : Int32) (Z_f : Nat → Int32) (S_position : Int32) (S_count : Int32) (S_cm : Nat → Option Nat) (S_arguments : Nat → Int32) (S_argumentCount : Int32) (x1 : Int32) (sz : Nat) (r : Int32) (zS_position : Int32) (hf : f_X7_readSign Z_m Z_n Z_f S_position x1 = some (r, zS_position)) : Met l yX7_readSign wsX7_readSign ({ frames := 4, cells := 0, slots := 0, locals := 88 } : Room) (va_Pc [.ref (a 0), .int x1] (wk_ET (dC, dI) Y g (wX7 Y a g Z_v Z_m Z_ml Z_n Z_f S_position S_count S_cm S_arguments S_argumentCount) sz)) (va_Qi (fun r2 (_ : Nat) => r2 = r) (fun u9 t => wk_X (dC, dI) Y (wX7 Y a g Z_v Z_m Z_ml Z_n Z_f zS_position S_count S_cm S_arguments S_argumentCount) (va_A (wX7 Y a g Z_v Z_m Z_ml Z_n Z_f S_position S_count S_cm S_arguments S_argumentCount) sz) t) (va_A (wX7 Y a g Z_v Z_m Z_ml Z_n Z_f S_position S_count S_cm S_arguments S_argumentCount) sz)) 0 0 (va_A (wX7 Y a g Z_v Z_m Z_ml Z_n Z_f S_position S_count S_cm S_arguments S_argumentCount) sz) := by
  refine Met.ofW (cc := cX7_readSign) (maxL := 3) (ret := (some .boolean)) (by decide) rfl ?_
  intro p e s m args below meth c s₁ B hml hv
  obtain ⟨rfl, ⟨hsz, hP, hK, hD0⟩, hT⟩ := hv
  have hx := B.exec
  have hb := B.bytes
  have hr := B.returns
  have hts := atoms_spec (ws := wsX7_readSign) B.pre
  have hown : s.vm.findClass RX7 = some m.cls := findClass_of_methodNamed B.named
  have hlocks := B.notSynchronized
  have C0 : wk_C p s m _ meth c cX7_readSign 3 (some .boolean) wsX7_readSign RX7 := ⟨hx, hb, hml, hr, hlocks, hown, hts⟩
  subst hsz
  have hD := hD0.self (sz := s.heap.size)
  generalize hAe : va_A (wX7 Y a g Z_v Z_m Z_ml Z_n Z_f S_position S_count S_cm S_arguments S_argumentCount) s.heap.size = A at hD hT ⊢
  have hA : ∀ q : Nat, s.heap.size ≤ q → A q := fun q h => by rw [← hAe]; exact Or.inr h
  have hS : va_S A s.heap s.heap [] := va_S.rf
  obtain ⟨H, hHe⟩ : ∃ H, H = s.heap := ⟨_, rfl⟩
  have hS : va_S A s.heap H [] := by rw [hHe]; exact hS
  have hP : va_P (dC, dI) vwCl [(a 0, .inr (7, [.ref (a 1), .int S_position, .int S_count, .ref (a 2), .ref (a 3), .int S_argumentCount])), (a 1, .inr (1, [.ref Z_v, .int 0, .int Z_ml, .int Z_n])), (Z_v, .inl (Y 1, Z_m, .inl Z_f)), (a 2, .inl (Y 4, 12, .inr (.inr (.inr (.inr (wk_cm g S_cm)))))), (a 3, .inl (Y 0, 48, .inl S_arguments))] H := by rw [hHe]; exact hP
  have hD : va_D A [(a 0, .inr (7, [.ref (a 1), .int S_position, .int S_count, .ref (a 2), .ref (a 3), .int S_argumentCount])), (a 1, .inr (1, [.ref Z_v, .int 0, .int Z_ml, .int Z_n])), (Z_v, .inl (Y 1, Z_m, .inl Z_f)), (a 2, .inl (Y 4, 12, .inr (.inr (.inr (.inr (wk_cm g S_cm)))))), (a 3, .inl (Y 0, 48, .inl S_arguments))] := hD
  obtain ⟨locs, hlo⟩ : ∃ locs : List Loc, locs = [] := ⟨_, rfl⟩
  have hS : va_S A s.heap H locs := by rw [hlo]; exact hS
  have hl := lv_entry ([.ref (a 0), .int x1]) (n := 3) (Nat.le_of_ble_eq_true rfl)
  rw [lg_entry_eq]
  generalize (lg_sl ([.ref (a 0), .int x1]) ++ List.replicate (3 - (lg_sl ([.ref (a 0), .int x1])).length) Slot.unset).toArray = ls at hl ⊢
  have hl : lv_has ls 3 [(0, .ref (a 0)), (1, .int x1)] := hl
  refine wk_start hHe hlo ?_
  rw [f_X7_readSign] at hf
  refine lv_aload_n hx hb dX7_readSign_0 rfl (lv_at hl 0 rfl) ?_
  refine va_get (D := (dC, dI)) (ci := 7) (v := .int S_position) (C := RX7) (T := TX7) (N := 6) hx hb hts in_X7_readSign_X7 hown hK hP 0 rfl rfl 1 (by decide) (hts _ lk_X7_readSign_RX7_118) (fun _ h9 => h9) rfl dX7_readSign_1 ?_
  refine lv_aload_n hx hb dX7_readSign_4 rfl (lv_at hl 0 rfl) ?_
  refine va_get (D := (dC, dI)) (ci := 7) (v := .ref (a 1)) (C := RX7) (T := TX7) (N := 6) hx hb hts in_X7_readSign_X7 hown hK hP 0 rfl rfl 0 (by decide) (hts _ lk_X7_readSign_RX7_12) (fun _ h9 => h9) rfl dX7_readSign_5 ?_
  obtain ⟨r1, hr2, hf⟩ := wkb1_s hf
  have hPc := hP.sub (ws' := (wJ4 Y (fun k => a (k + 1)) Z_v Z_m Z_ml Z_n Z_f)) [1, 2] rfl
  refine wk_vi (As := []) (rest := [.int S_position]) ⟨hx, hb, hml, hown, hts⟩ (c_J4_length_8abf5 l dC dI Y (fun k => a (k + 1)) Z_v Z_m Z_ml Z_n Z_f r1 hr2) (cwV 0 hts gX7_readSign_J4_length_8abf5 rfl rfl rfl (by decide +kernel) ⟨Nat.le_of_ble_eq_true rfl, Nat.le_of_ble_eq_true rfl⟩) hK hPc (va_recv hK hP (ci := 1) (q0 := 1) rfl rfl) rfl hl.1 rfl (Nat.le_of_ble_eq_true rfl) dX7_readSign_8 ⟨Nat.le_of_ble_eq_true rfl, Nat.le_of_ble_eq_true rfl⟩ ?_
  refine lv_icmp_ge (tgt := 33) hx hb dX7_readSign_11 (by decide) (fun q3 => ?_) (fun q3 => ?_)
  · have hf := wk_t hf q3
    refine lv_iconst (v := 0) hx hb dX7_readSign_33 (by decide) ?_
    refine lv_istore_n (lv' := [(2, .int 0), (0, .ref (a 0)), (1, .int x1)]) hx hb dX7_readSign_34 rfl hl (by decide) rfl (fun ls hl => ?_)
    refine lv_iload_n hx hb dX7_readSign_35 rfl (lv_at hl 0 rfl) ?_
    refine lv_if_eq (tgt := 49) hx hb dX7_readSign_36 (by decide) (fun _ => ?_) (fun q9 => absurd q9 (by decide))
    refine lv_iload_n hx hb dX7_readSign_49 rfl (lv_at hl 0 rfl) ?_
    obtain ⟨e0, e1⟩ := wke2 hf
    subst e0
    subst e1
    have hP9 := hP.sub (ws' := (wX7 Y a g Z_v Z_m Z_ml Z_n Z_f S_position S_count S_cm S_arguments S_argumentCount)) [0, 1, 2, 3, 4] rfl
    have hD9 := hD.sub (ws' := (wX7 Y a g Z_v Z_m Z_ml Z_n Z_f S_position S_count S_cm S_arguments S_argumentCount)) [0, 1, 2, 3, 4] (by decide) rfl
    exact W.zret (v := 0) (ty := .boolean) hx hb hr rfl (fun t ht hW => ⟨⟨0, Z_v, rfl, rfl, by rw [ht]; exact hP9, va_K.moved hW.alike hK, hD9⟩, hS.F ht⟩) hS.2.2 dX7_readSign_50
  · have hf := wk_f hf q3
    refine lv_aload_n hx hb dX7_readSign_14 rfl (lv_at hl 0 rfl) ?_
    refine va_get (D := (dC, dI)) (ci := 7) (v := .ref (a 1)) (C := RX7) (T := TX7) (N := 6) hx hb hts in_X7_readSign_X7 hown hK hP 0 rfl rfl 0 (by decide) (hts _ lk_X7_readSign_RX7_12) (fun _ h9 => h9) rfl dX7_readSign_15 ?_
    refine lv_aload_n hx hb dX7_readSign_18 rfl (lv_at hl 0 rfl) ?_
    refine va_get (D := (dC, dI)) (ci := 7) (v := .int S_position) (C := RX7) (T := TX7) (N := 6) hx hb hts in_X7_readSign_X7 hown hK hP 0 rfl rfl 1 (by decide) (hts _ lk_X7_readSign_RX7_118) (fun _ h9 => h9) rfl dX7_readSign_19 ?_
    obtain ⟨r4, hr5, hf⟩ := wkb1_s hf
    have hPc := hP.sub (ws' := (wJ4 Y (fun k => a (k + 1)) Z_v Z_m Z_ml Z_n Z_f)) [1, 2] rfl
    refine wk_viT (As := [.int S_position]) (rest := []) ⟨hx, hb, hml, hown, hts⟩ (c_J4_charAt_5068e l dC dI Y g (fun k => a (k + 1)) Z_v Z_m Z_ml Z_n Z_f S_position r4 hr5) (cwV 1 hts gX7_readSign_J4_charAt_5068e rfl rfl rfl (by decide +kernel) ⟨Nat.le_of_ble_eq_true rfl, Nat.le_of_ble_eq_true rfl⟩) hK hPc hT hS (va_recv hK hP (ci := 1) (q0 := 1) rfl rfl) rfl hl.1 rfl (Nat.le_of_ble_eq_true rfl) dX7_readSign_22 ⟨Nat.le_of_ble_eq_true rfl, Nat.le_of_ble_eq_true rfl⟩ ?_
    refine lv_iload_n hx hb dX7_readSign_25 rfl (lv_at hl 1 rfl) ?_
    refine lv_icmp_ne (tgt := 33) hx hb dX7_readSign_26 (by decide) (fun q6 => ?_) (fun q6 => ?_)
    · have hf := wk_f hf q6
      refine lv_iconst (v := 0) hx hb dX7_readSign_33 (by decide) ?_
      refine lv_istore_n (lv' := [(2, .int 0), (0, .ref (a 0)), (1, .int x1)]) hx hb dX7_readSign_34 rfl hl (by decide) rfl (fun ls hl => ?_)
      refine lv_iload_n hx hb dX7_readSign_35 rfl (lv_at hl 0 rfl) ?_
      refine lv_if_eq (tgt := 49) hx hb dX7_readSign_36 (by decide) (fun _ => ?_) (fun q9 => absurd q9 (by decide))
      refine lv_iload_n hx hb dX7_readSign_49 rfl (lv_at hl 0 rfl) ?_
      obtain ⟨e0, e1⟩ := wke2 hf
      subst e0
      subst e1
      have hP9 := hP.sub (ws' := (wX7 Y a g Z_v Z_m Z_ml Z_n Z_f S_position S_count S_cm S_arguments S_argumentCount)) [0, 1, 2, 3, 4] rfl
      have hD9 := hD.sub (ws' := (wX7 Y a g Z_v Z_m Z_ml Z_n Z_f S_position S_count S_cm S_arguments S_argumentCount)) [0, 1, 2, 3, 4] (by decide) rfl
      exact W.zret (v := 0) (ty := .boolean) hx hb hr rfl (fun t ht hW => ⟨⟨0, Z_v, rfl, rfl, by rw [ht]; exact hP9, va_K.moved hW.alike hK, hD9⟩, hS.F ht⟩) hS.2.2 dX7_readSign_50
    · have hf := wk_t hf q6
      refine lv_iconst (v := 1) hx hb dX7_readSign_29 (by decide) ?_
      refine lv_goto (tgt := 34) hx hb dX7_readSign_30 (by decide) ?_
      refine lv_istore_n (lv' := [(2, .int 1), (0, .ref (a 0)), (1, .int x1)]) hx hb dX7_readSign_34 rfl hl (by decide) rfl (fun ls hl => ?_)
      refine lv_iload_n hx hb dX7_readSign_35 rfl (lv_at hl 0 rfl) ?_
      refine lv_if_eq (tgt := 49) hx hb dX7_readSign_36 (by decide) (fun q9 => absurd q9 (by decide)) (fun _ => ?_)
      refine lv_aload_n hx hb dX7_readSign_39 rfl (lv_at hl 1 rfl) ?_
      refine lv_dup hx hb dX7_readSign_40 rfl ?_
      refine va_get (D := (dC, dI)) (ci := 7) (v := .int S_position) (C := RX7) (T := TX7) (N := 6) hx hb hts in_X7_readSign_X7 hown hK hP 0 rfl rfl 1 (by decide) (hts _ lk_X7_readSign_RX7_118) (fun _ h9 => h9) rfl dX7_readSign_41 ?_
      refine lv_iconst (v := 1) hx hb dX7_readSign_44 (by decide) ?_
      refine lv_iadd hx hb dX7_readSign_45 ?_
      refine lv_topi (fun v7 ev7 => ?_)
      have hf := wkl_s hf ev7
      refine va_put (D := (dC, dI)) (ci := 7) (v := .int v7) (ty := .int) (C := RX7) (T := TX7) (N := 6) hx hb hts in_X7_readSign_X7 tyX7 tyX7_ok nmX7 hown hK hP hD hS 0 rfl rfl 1 (by decide) (hts _ lk_X7_readSign_RX7_118) (fun _ h9 => h9) rfl (by decide +kernel) rfl rfl (Nat.le_of_ble_eq_true rfl) dX7_readSign_46 (fun H locs hP hD hS => ?_)
      have hP : va_P (dC, dI) vwCl [(a 0, .inr (7, [.ref (a 1), .int v7, .int S_count, .ref (a 2), .ref (a 3), .int S_argumentCount])), (a 1, .inr (1, [.ref Z_v, .int 0, .int Z_ml, .int Z_n])), (Z_v, .inl (Y 1, Z_m, .inl Z_f)), (a 2, .inl (Y 4, 12, .inr (.inr (.inr (.inr (wk_cm g S_cm)))))), (a 3, .inl (Y 0, 48, .inl S_arguments))] H := hP
      have hD : va_D A [(a 0, .inr (7, [.ref (a 1), .int v7, .int S_count, .ref (a 2), .ref (a 3), .int S_argumentCount])), (a 1, .inr (1, [.ref Z_v, .int 0, .int Z_ml, .int Z_n])), (Z_v, .inl (Y 1, Z_m, .inl Z_f)), (a 2, .inl (Y 4, 12, .inr (.inr (.inr (.inr (wk_cm g S_cm)))))), (a 3, .inl (Y 0, 48, .inl S_arguments))] := hD
      refine lv_iload_n hx hb dX7_readSign_49 rfl (lv_at hl 0 rfl) ?_
      obtain ⟨e0, e1⟩ := wke2 hf
      subst e0
      subst e1
      have hP9 := hP.sub (ws' := (wX7 Y a g Z_v Z_m Z_ml Z_n Z_f v7 S_count S_cm S_arguments S_argumentCount)) [0, 1, 2, 3, 4] rfl
      have hD9 := hD.sub (ws' := (wX7 Y a g Z_v Z_m Z_ml Z_n Z_f v7 S_count S_cm S_arguments S_argumentCount)) [0, 1, 2, 3, 4] (by decide) rfl
      exact W.zret (v := 1) (ty := .boolean) hx hb hr rfl (fun t ht hW => ⟨⟨1, Z_v, rfl, rfl, by rw [ht]; exact hP9, va_K.moved hW.alike hK, hD9⟩, hS.F ht⟩) hS.2.2 dX7_readSign_50
theorem lk_X7_readNumber_RX7_118 : Cond.fieldLink RX7 118 "CircusLedger$Script" "position" "I" ∈ wsX7_readNumber := by decide +kernel
theorem in_X7_readNumber_X7 : ∀ w ∈ u_ws RX7 TX7 6, w ∈ wsX7_readNumber := by decide +kernel
def f_X7_readNumber_L9 (Z_m : Nat) (Z_n : Int32) (Z_f : Nat → Int32) (S_count : Int32) : Nat → Int32 → Int32 → Int32 → Int32 → (Nat → Int32) → Int32 → Option (Int32 × Int32 × (Nat → Int32) × Int32)
  | 0, _, _, _, _, _, _ => none
  | nn + 1, x1, x2, x3, S_position, S_arguments, S_argumentCount =>
    if (4 : Int32) ≤ x3 then
      (wkb2 (f_X7_addArgument S_count S_arguments S_argumentCount x2) (fun w2 w3 =>
      if S_position ≤ x1 then
        (some (0, S_position, w2, w3))
      else
        (some (1, S_position, w2, w3))))
    else
      (wkb1 (f_X7_digitHere Z_m Z_n Z_f S_position) (fun r7 =>
      if r7 = (-1) then
        (wkb2 (f_X7_addArgument S_count S_arguments S_argumentCount x2) (fun w10 w11 =>
        if S_position ≤ x1 then
          (some (0, S_position, w10, w11))
        else
          (some (1, S_position, w10, w11))))
      else
        (wkb1 (f_X7_digitHere Z_m Z_n Z_f S_position) (fun r15 =>
        wkl ((S_position + 1)) (fun v17 =>
        f_X7_readNumber_L9 Z_m Z_n Z_f S_count nn x1 ((x2 * 10) + r15) (x3 + 1) v17 S_arguments S_argumentCount)))))
def f_X7_readNumber (Z_m : Nat) (Z_n : Int32) (Z_f : Nat → Int32) (S_position : Int32) (S_count : Int32) (S_arguments : Nat → Int32) (S_argumentCount : Int32) : Option (Int32 × Int32 × (Nat → Int32) × Int32) :=
  f_X7_readNumber_L9 Z_m Z_n Z_f S_count FU S_position 0 0 S_position S_arguments S_argumentCount
set_option maxHeartbeats 4000000 in
set_option maxRecDepth 100000 in
theorem wl_X7_readNumber_L9 {p : Program} {l : Launch} {e : Env} {s : State} {m : MethodId} {args : Array Value} {below : List Frame} {meth : Method} {c : Code} {dC : Nat → ClassId} {dI : Nat → Nat → Nat} {Y : Nat → ClassId} {a : Nat → Nat} {g : Nat → Nat → Nat} {Z_v : Nat} {Z_m : Nat} {Z_ml : Int32} {Z_n : Int32} {Z_f : Nat → Int32} {S_count : Int32} {S_cm : Nat → Option Nat}  {r : Int32} {zS_position : Int32} {zS_arguments : Nat → Int32} {zS_argumentCount : Int32}  (C0 : wk_C p s m args meth c cX7_readNumber 4 (some .boolean) wsX7_readNumber RX7) {A : Nat → Prop} (hK : va_K (dC, dI) vwCl (vTy Y) s) (hA : ∀ q, s.heap.size ≤ q → A q) (hT : wk_T g A s s.heap) : ∀ (nn : Nat) (x1 : Int32) (x2 : Int32) (x3 : Int32)  (S_position : Int32) (S_arguments : Nat → Int32) (S_argumentCount : Int32), f_X7_readNumber_L9 Z_m Z_n Z_f S_count nn x1 x2 x3 S_position S_arguments S_argumentCount = some (r, zS_position, zS_arguments, zS_argumentCount) → ∀ (H : Heap) (locs : List Loc), va_P (dC, dI) vwCl (wX7 Y a g Z_v Z_m Z_ml Z_n Z_f S_position S_count S_cm S_arguments S_argumentCount) H → va_D A (wX7 Y a g Z_v Z_m Z_ml Z_n Z_f S_position S_count S_cm S_arguments S_argumentCount) → va_S A s.heap H locs → ∀ (ls : Array Slot), lv_has ls 4 [(0, .ref (a 0)), (1, .int x1), (2, .int x2), (3, .int x3)] → W p l e (headSpec wsX7_readNumber ({ frames := 5, cells := 0, slots := 0, locals := 109 } : Room)).room s m args below meth c H locs 0 0 (MQ below (va_Qi (fun r2 (_ : Nat) => r2 = r) (fun u9 t => wk_X (dC, dI) Y (wX7 Y a g Z_v Z_m Z_ml Z_n Z_f zS_position S_count S_cm zS_arguments zS_argumentCount) A t) A) args s 0 0 A) (F0 m 9 ls []) := by
  have C0 := C0
  obtain ⟨hx, hb, hml, hr, hlocks, hown, hts⟩ := id C0
  intro nn
  induction nn with
  | zero =>
    intro x1 x2 x3 S_position S_arguments S_argumentCount hf
    rw [f_X7_readNumber_L9] at hf
    cases hf
  | succ nn ih =>
    intro x1 x2 x3 S_position S_arguments S_argumentCount hf H locs hP hD hS ls hl
    rw [f_X7_readNumber_L9] at hf
    have hP : va_P (dC, dI) vwCl [(a 0, .inr (7, [.ref (a 1), .int S_position, .int S_count, .ref (a 2), .ref (a 3), .int S_argumentCount])), (a 1, .inr (1, [.ref Z_v, .int 0, .int Z_ml, .int Z_n])), (Z_v, .inl (Y 1, Z_m, .inl Z_f)), (a 2, .inl (Y 4, 12, .inr (.inr (.inr (.inr (wk_cm g S_cm)))))), (a 3, .inl (Y 0, 48, .inl S_arguments))] H := hP
    have hD : va_D A [(a 0, .inr (7, [.ref (a 1), .int S_position, .int S_count, .ref (a 2), .ref (a 3), .int S_argumentCount])), (a 1, .inr (1, [.ref Z_v, .int 0, .int Z_ml, .int Z_n])), (Z_v, .inl (Y 1, Z_m, .inl Z_f)), (a 2, .inl (Y 4, 12, .inr (.inr (.inr (.inr (wk_cm g S_cm)))))), (a 3, .inl (Y 0, 48, .inl S_arguments))] := hD
    refine lv_iload_n hx hb dX7_readNumber_9 rfl (lv_at hl 3 rfl) ?_
    refine lv_iconst (v := 4) hx hb dX7_readNumber_10 (by decide) ?_
    refine lv_icmp_ge (tgt := 48) hx hb dX7_readNumber_11 (by decide) (fun q1 => ?_) (fun q1 => ?_)
    · have hf := wk_t hf q1
      refine lv_aload_n hx hb dX7_readNumber_48 rfl (lv_at hl 0 rfl) ?_
      refine lv_iload_n hx hb dX7_readNumber_49 rfl (lv_at hl 2 rfl) ?_
      obtain ⟨w2, w3, hr4, hf⟩ := wkb2_s hf
      have hPc := hP.sub (ws' := (wX7 Y a g Z_v Z_m Z_ml Z_n Z_f S_position S_count S_cm S_arguments S_argumentCount)) [0, 1, 2, 3, 4] rfl
      have hDc := hD.sub (ws' := (wX7 Y a g Z_v Z_m Z_ml Z_n Z_f S_position S_count S_cm S_arguments S_argumentCount)) [0, 1, 2, 3, 4] (by decide) rfl
      have hFc := va_free (wc := (wX7 Y a g Z_v Z_m Z_ml Z_n Z_f S_position S_count S_cm S_arguments S_argumentCount)) hD hS hA [0, 1, 2, 3, 4] rfl
      refine wg_ev (wc := (wX7 Y a g Z_v Z_m Z_ml Z_n Z_f S_position S_count S_cm S_arguments S_argumentCount)) (w1 := fun (_ : Nat) => (wX7 Y a g Z_v Z_m Z_ml Z_n Z_f S_position S_count S_cm w2 w3)) (wr := []) (va_runV (As := [.int x2]) (rest := []) ⟨hx, hb, hml, hown, hts⟩ (c_X7_addArgument l dC dI Y g a Z_v Z_m Z_ml Z_n Z_f S_position S_count S_cm S_arguments S_argumentCount x2 H.size w2 w3 hr4) (cwV 1 hts gX7_readNumber_X7_addArgument rfl rfl rfl (by decide +kernel) ⟨Nat.le_of_ble_eq_true rfl, Nat.le_of_ble_eq_true rfl⟩) ⟨wk_ETb, (va_recv hK hP (ci := 7) (q0 := 0) rfl rfl), wk_ETp hK hPc hDc hT hS hFc⟩ rfl rfl hl.1 rfl (lv_room (Nat.le_of_ble_eq_true rfl)) dX7_readNumber_50 ⟨Nat.le_of_ble_eq_true rfl, Nat.le_of_ble_eq_true rfl⟩) hP hD hS [0, 1, 2, 3, 4] [] rfl rfl (by decide) (by decide) (by decide) hFc (fun u5 H locs hP hD hS => ?_)
      have hP : va_P (dC, dI) vwCl [(a 0, .inr (7, [.ref (a 1), .int S_position, .int S_count, .ref (a 2), .ref (a 3), .int w3])), (a 1, .inr (1, [.ref Z_v, .int 0, .int Z_ml, .int Z_n])), (Z_v, .inl (Y 1, Z_m, .inl Z_f)), (a 2, .inl (Y 4, 12, .inr (.inr (.inr (.inr (wk_cm g S_cm)))))), (a 3, .inl (Y 0, 48, .inl w2))] H := hP
      have hD : va_D A [(a 0, .inr (7, [.ref (a 1), .int S_position, .int S_count, .ref (a 2), .ref (a 3), .int w3])), (a 1, .inr (1, [.ref Z_v, .int 0, .int Z_ml, .int Z_n])), (Z_v, .inl (Y 1, Z_m, .inl Z_f)), (a 2, .inl (Y 4, 12, .inr (.inr (.inr (.inr (wk_cm g S_cm)))))), (a 3, .inl (Y 0, 48, .inl w2))] := hD
      refine lv_aload_n hx hb dX7_readNumber_53 rfl (lv_at hl 0 rfl) ?_
      refine va_get (D := (dC, dI)) (ci := 7) (v := .int S_position) (C := RX7) (T := TX7) (N := 6) hx hb hts in_X7_readNumber_X7 hown hK hP 0 rfl rfl 1 (by decide) (hts _ lk_X7_readNumber_RX7_118) (fun _ h9 => h9) rfl dX7_readNumber_54 ?_
      refine lv_iload_n hx hb dX7_readNumber_57 rfl (lv_at hl 1 rfl) ?_
      refine lv_icmp_le (tgt := 65) hx hb dX7_readNumber_58 (by decide) (fun q6 => ?_) (fun q6 => ?_)
      · have hf := wk_t hf q6
        refine lv_iconst (v := 0) hx hb dX7_readNumber_65 (by decide) ?_
        obtain ⟨e0, e1, e2, e3⟩ := wke4 hf
        subst e0
        subst e1
        subst e2
        subst e3
        have hP9 := hP.sub (ws' := (wX7 Y a g Z_v Z_m Z_ml Z_n Z_f S_position S_count S_cm w2 w3)) [0, 1, 2, 3, 4] rfl
        have hD9 := hD.sub (ws' := (wX7 Y a g Z_v Z_m Z_ml Z_n Z_f S_position S_count S_cm w2 w3)) [0, 1, 2, 3, 4] (by decide) rfl
        exact W.zret (v := 0) (ty := .boolean) hx hb hr rfl (fun t ht hW => ⟨⟨0, Z_v, rfl, rfl, by rw [ht]; exact hP9, va_K.moved hW.alike hK, hD9⟩, hS.F ht⟩) hS.2.2 dX7_readNumber_66
      · have hf := wk_f hf q6
        refine lv_iconst (v := 1) hx hb dX7_readNumber_61 (by decide) ?_
        refine lv_goto (tgt := 66) hx hb dX7_readNumber_62 (by decide) ?_
        obtain ⟨e0, e1, e2, e3⟩ := wke4 hf
        subst e0
        subst e1
        subst e2
        subst e3
        have hP9 := hP.sub (ws' := (wX7 Y a g Z_v Z_m Z_ml Z_n Z_f S_position S_count S_cm w2 w3)) [0, 1, 2, 3, 4] rfl
        have hD9 := hD.sub (ws' := (wX7 Y a g Z_v Z_m Z_ml Z_n Z_f S_position S_count S_cm w2 w3)) [0, 1, 2, 3, 4] (by decide) rfl
        exact W.zret (v := 1) (ty := .boolean) hx hb hr rfl (fun t ht hW => ⟨⟨1, Z_v, rfl, rfl, by rw [ht]; exact hP9, va_K.moved hW.alike hK, hD9⟩, hS.F ht⟩) hS.2.2 dX7_readNumber_66
    · have hf := wk_f hf q1
      refine lv_aload_n hx hb dX7_readNumber_14 rfl (lv_at hl 0 rfl) ?_
      obtain ⟨r7, hr8, hf⟩ := wkb1_s hf
      have hPc := hP.sub (ws' := (wX7 Y a g Z_v Z_m Z_ml Z_n Z_f S_position S_count S_cm S_arguments S_argumentCount)) [0, 1, 2, 3, 4] rfl
      refine wk_viT (As := []) (rest := []) ⟨hx, hb, hml, hown, hts⟩ (c_X7_digitHere l dC dI Y g a Z_v Z_m Z_ml Z_n Z_f S_position S_count S_cm S_arguments S_argumentCount r7 hr8) (cwV 0 hts gX7_readNumber_X7_digitHere rfl rfl rfl (by decide +kernel) ⟨Nat.le_of_ble_eq_true rfl, Nat.le_of_ble_eq_true rfl⟩) hK hPc hT hS (va_recv hK hP (ci := 7) (q0 := 0) rfl rfl) rfl hl.1 rfl (Nat.le_of_ble_eq_true rfl) dX7_readNumber_15 ⟨Nat.le_of_ble_eq_true rfl, Nat.le_of_ble_eq_true rfl⟩ ?_
      refine lv_iconst (v := (-1)) hx hb dX7_readNumber_18 (by decide) ?_
      refine lv_icmp_eq (tgt := 48) hx hb dX7_readNumber_19 (by decide) (fun q9 => ?_) (fun q9 => ?_)
      · have hf := wk_t hf q9
        refine lv_aload_n hx hb dX7_readNumber_48 rfl (lv_at hl 0 rfl) ?_
        refine lv_iload_n hx hb dX7_readNumber_49 rfl (lv_at hl 2 rfl) ?_
        obtain ⟨w10, w11, hr12, hf⟩ := wkb2_s hf
        have hPc := hP.sub (ws' := (wX7 Y a g Z_v Z_m Z_ml Z_n Z_f S_position S_count S_cm S_arguments S_argumentCount)) [0, 1, 2, 3, 4] rfl
        have hDc := hD.sub (ws' := (wX7 Y a g Z_v Z_m Z_ml Z_n Z_f S_position S_count S_cm S_arguments S_argumentCount)) [0, 1, 2, 3, 4] (by decide) rfl
        have hFc := va_free (wc := (wX7 Y a g Z_v Z_m Z_ml Z_n Z_f S_position S_count S_cm S_arguments S_argumentCount)) hD hS hA [0, 1, 2, 3, 4] rfl
        refine wg_ev (wc := (wX7 Y a g Z_v Z_m Z_ml Z_n Z_f S_position S_count S_cm S_arguments S_argumentCount)) (w1 := fun (_ : Nat) => (wX7 Y a g Z_v Z_m Z_ml Z_n Z_f S_position S_count S_cm w10 w11)) (wr := []) (va_runV (As := [.int x2]) (rest := []) ⟨hx, hb, hml, hown, hts⟩ (c_X7_addArgument l dC dI Y g a Z_v Z_m Z_ml Z_n Z_f S_position S_count S_cm S_arguments S_argumentCount x2 H.size w10 w11 hr12) (cwV 1 hts gX7_readNumber_X7_addArgument rfl rfl rfl (by decide +kernel) ⟨Nat.le_of_ble_eq_true rfl, Nat.le_of_ble_eq_true rfl⟩) ⟨wk_ETb, (va_recv hK hP (ci := 7) (q0 := 0) rfl rfl), wk_ETp hK hPc hDc hT hS hFc⟩ rfl rfl hl.1 rfl (lv_room (Nat.le_of_ble_eq_true rfl)) dX7_readNumber_50 ⟨Nat.le_of_ble_eq_true rfl, Nat.le_of_ble_eq_true rfl⟩) hP hD hS [0, 1, 2, 3, 4] [] rfl rfl (by decide) (by decide) (by decide) hFc (fun u13 H locs hP hD hS => ?_)
        have hP : va_P (dC, dI) vwCl [(a 0, .inr (7, [.ref (a 1), .int S_position, .int S_count, .ref (a 2), .ref (a 3), .int w11])), (a 1, .inr (1, [.ref Z_v, .int 0, .int Z_ml, .int Z_n])), (Z_v, .inl (Y 1, Z_m, .inl Z_f)), (a 2, .inl (Y 4, 12, .inr (.inr (.inr (.inr (wk_cm g S_cm)))))), (a 3, .inl (Y 0, 48, .inl w10))] H := hP
        have hD : va_D A [(a 0, .inr (7, [.ref (a 1), .int S_position, .int S_count, .ref (a 2), .ref (a 3), .int w11])), (a 1, .inr (1, [.ref Z_v, .int 0, .int Z_ml, .int Z_n])), (Z_v, .inl (Y 1, Z_m, .inl Z_f)), (a 2, .inl (Y 4, 12, .inr (.inr (.inr (.inr (wk_cm g S_cm)))))), (a 3, .inl (Y 0, 48, .inl w10))] := hD
        refine lv_aload_n hx hb dX7_readNumber_53 rfl (lv_at hl 0 rfl) ?_
        refine va_get (D := (dC, dI)) (ci := 7) (v := .int S_position) (C := RX7) (T := TX7) (N := 6) hx hb hts in_X7_readNumber_X7 hown hK hP 0 rfl rfl 1 (by decide) (hts _ lk_X7_readNumber_RX7_118) (fun _ h9 => h9) rfl dX7_readNumber_54 ?_
        refine lv_iload_n hx hb dX7_readNumber_57 rfl (lv_at hl 1 rfl) ?_
        refine lv_icmp_le (tgt := 65) hx hb dX7_readNumber_58 (by decide) (fun q14 => ?_) (fun q14 => ?_)
        · have hf := wk_t hf q14
          refine lv_iconst (v := 0) hx hb dX7_readNumber_65 (by decide) ?_
          obtain ⟨e0, e1, e2, e3⟩ := wke4 hf
          subst e0
          subst e1
          subst e2
          subst e3
          have hP9 := hP.sub (ws' := (wX7 Y a g Z_v Z_m Z_ml Z_n Z_f S_position S_count S_cm w10 w11)) [0, 1, 2, 3, 4] rfl
          have hD9 := hD.sub (ws' := (wX7 Y a g Z_v Z_m Z_ml Z_n Z_f S_position S_count S_cm w10 w11)) [0, 1, 2, 3, 4] (by decide) rfl
          exact W.zret (v := 0) (ty := .boolean) hx hb hr rfl (fun t ht hW => ⟨⟨0, Z_v, rfl, rfl, by rw [ht]; exact hP9, va_K.moved hW.alike hK, hD9⟩, hS.F ht⟩) hS.2.2 dX7_readNumber_66
        · have hf := wk_f hf q14
          refine lv_iconst (v := 1) hx hb dX7_readNumber_61 (by decide) ?_
          refine lv_goto (tgt := 66) hx hb dX7_readNumber_62 (by decide) ?_
          obtain ⟨e0, e1, e2, e3⟩ := wke4 hf
          subst e0
          subst e1
          subst e2
          subst e3
          have hP9 := hP.sub (ws' := (wX7 Y a g Z_v Z_m Z_ml Z_n Z_f S_position S_count S_cm w10 w11)) [0, 1, 2, 3, 4] rfl
          have hD9 := hD.sub (ws' := (wX7 Y a g Z_v Z_m Z_ml Z_n Z_f S_position S_count S_cm w10 w11)) [0, 1, 2, 3, 4] (by decide) rfl
          exact W.zret (v := 1) (ty := .boolean) hx hb hr rfl (fun t ht hW => ⟨⟨1, Z_v, rfl, rfl, by rw [ht]; exact hP9, va_K.moved hW.alike hK, hD9⟩, hS.F ht⟩) hS.2.2 dX7_readNumber_66
      · have hf := wk_f hf q9
        refine lv_iload_n hx hb dX7_readNumber_22 rfl (lv_at hl 2 rfl) ?_
        refine lv_bipush (v := 10) hx hb dX7_readNumber_23 (by decide) ?_
        refine lv_imul hx hb dX7_readNumber_25 ?_
        refine lv_aload_n hx hb dX7_readNumber_26 rfl (lv_at hl 0 rfl) ?_
        obtain ⟨r15, hr16, hf⟩ := wkb1_s hf
        have hPc := hP.sub (ws' := (wX7 Y a g Z_v Z_m Z_ml Z_n Z_f S_position S_count S_cm S_arguments S_argumentCount)) [0, 1, 2, 3, 4] rfl
        refine wk_viT (As := []) (rest := [.int (x2 * 10)]) ⟨hx, hb, hml, hown, hts⟩ (c_X7_digitHere l dC dI Y g a Z_v Z_m Z_ml Z_n Z_f S_position S_count S_cm S_arguments S_argumentCount r15 hr16) (cwV 0 hts gX7_readNumber_X7_digitHere rfl rfl rfl (by decide +kernel) ⟨Nat.le_of_ble_eq_true rfl, Nat.le_of_ble_eq_true rfl⟩) hK hPc hT hS (va_recv hK hP (ci := 7) (q0 := 0) rfl rfl) rfl hl.1 rfl (Nat.le_of_ble_eq_true rfl) dX7_readNumber_27 ⟨Nat.le_of_ble_eq_true rfl, Nat.le_of_ble_eq_true rfl⟩ ?_
        refine lv_iadd hx hb dX7_readNumber_30 ?_
        refine lv_istore_n (lv' := [(2, .int ((x2 * 10) + r15)), (0, .ref (a 0)), (1, .int x1), (3, .int x3)]) hx hb dX7_readNumber_31 rfl hl (by decide) rfl (fun ls hl => ?_)
        refine lv_aload_n hx hb dX7_readNumber_32 rfl (lv_at hl 1 rfl) ?_
        refine lv_dup hx hb dX7_readNumber_33 rfl ?_
        refine va_get (D := (dC, dI)) (ci := 7) (v := .int S_position) (C := RX7) (T := TX7) (N := 6) hx hb hts in_X7_readNumber_X7 hown hK hP 0 rfl rfl 1 (by decide) (hts _ lk_X7_readNumber_RX7_118) (fun _ h9 => h9) rfl dX7_readNumber_34 ?_
        refine lv_iconst (v := 1) hx hb dX7_readNumber_37 (by decide) ?_
        refine lv_iadd hx hb dX7_readNumber_38 ?_
        refine lv_topi (fun v17 ev17 => ?_)
        have hf := wkl_s hf ev17
        refine va_put (D := (dC, dI)) (ci := 7) (v := .int v17) (ty := .int) (C := RX7) (T := TX7) (N := 6) hx hb hts in_X7_readNumber_X7 tyX7 tyX7_ok nmX7 hown hK hP hD hS 0 rfl rfl 1 (by decide) (hts _ lk_X7_readNumber_RX7_118) (fun _ h9 => h9) rfl (by decide +kernel) rfl rfl (Nat.le_of_ble_eq_true rfl) dX7_readNumber_39 (fun H locs hP hD hS => ?_)
        have hP : va_P (dC, dI) vwCl [(a 0, .inr (7, [.ref (a 1), .int v17, .int S_count, .ref (a 2), .ref (a 3), .int S_argumentCount])), (a 1, .inr (1, [.ref Z_v, .int 0, .int Z_ml, .int Z_n])), (Z_v, .inl (Y 1, Z_m, .inl Z_f)), (a 2, .inl (Y 4, 12, .inr (.inr (.inr (.inr (wk_cm g S_cm)))))), (a 3, .inl (Y 0, 48, .inl S_arguments))] H := hP
        have hD : va_D A [(a 0, .inr (7, [.ref (a 1), .int v17, .int S_count, .ref (a 2), .ref (a 3), .int S_argumentCount])), (a 1, .inr (1, [.ref Z_v, .int 0, .int Z_ml, .int Z_n])), (Z_v, .inl (Y 1, Z_m, .inl Z_f)), (a 2, .inl (Y 4, 12, .inr (.inr (.inr (.inr (wk_cm g S_cm)))))), (a 3, .inl (Y 0, 48, .inl S_arguments))] := hD
        refine lv_iinc (v := (x3 + 1)) (lv' := [(3, .int (x3 + 1)), (2, .int ((x2 * 10) + r15)), (0, .ref (a 0)), (1, .int x1)]) hx hb dX7_readNumber_42 hl (k := 3) rfl rfl (by decide) rfl (fun ls hl => ?_)
        refine lv_goto (tgt := 9) hx hb dX7_readNumber_45 (by decide) ?_
        exact ih x1 ((x2 * 10) + r15) (x3 + 1) v17 S_arguments S_argumentCount hf H locs hP hD hS ls (lv_sub hl [2, 3, 1, 0] rfl)
set_option maxHeartbeats 4000000 in
set_option maxRecDepth 100000 in
theorem c_X7_readNumber (l : Launch) (dC : Nat → ClassId) (dI : Nat → Nat → Nat) (Y : Nat → ClassId) (g : Nat → Nat → Nat) (a : Nat → Nat) (Z_v : Nat) (Z_m : Nat) (Z_ml : Int32) (Z_n : Int32) (Z_f : Nat → Int32) (S_position : Int32) (S_count : Int32) (S_cm : Nat → Option Nat) (S_arguments : Nat → Int32) (S_argumentCount : Int32)  (sz : Nat) (r : Int32) (zS_position : Int32) (zS_arguments : Nat → Int32) (zS_argumentCount : Int32) (hf : f_X7_readNumber Z_m Z_n Z_f S_position S_count S_arguments S_argumentCount = some (r, zS_position, zS_arguments, zS_argumentCount)) : Met l yX7_readNumber wsX7_readNumber ({ frames := 5, cells := 0, slots := 0, locals := 109 } : Room) (va_Pc [.ref (a 0)] (wk_ET (dC, dI) Y g (wX7 Y a g Z_v Z_m Z_ml Z_n Z_f S_position S_count S_cm S_arguments S_argumentCount) sz)) (va_Qi (fun r2 (_ : Nat) => r2 = r) (fun u9 t => wk_X (dC, dI) Y (wX7 Y a g Z_v Z_m Z_ml Z_n Z_f zS_position S_count S_cm zS_arguments zS_argumentCount) (va_A (wX7 Y a g Z_v Z_m Z_ml Z_n Z_f S_position S_count S_cm S_arguments S_argumentCount) sz) t) (va_A (wX7 Y a g Z_v Z_m Z_ml Z_n Z_f S_position S_count S_cm S_arguments S_argumentCount) sz)) 0 0 (va_A (wX7 Y a g Z_v Z_m Z_ml Z_n Z_f S_position S_count S_cm S_arguments S_argumentCount) sz) := by
  refine Met.ofW (cc := cX7_readNumber) (maxL := 4) (ret := (some .boolean)) (by decide) rfl ?_
  intro p e s m args below meth c s₁ B hml hv
  obtain ⟨rfl, ⟨hsz, hP, hK, hD0⟩, hT⟩ := hv
  have hx := B.exec
  have hb := B.bytes
  have hr := B.returns
  have hts := atoms_spec (ws := wsX7_readNumber) B.pre
  have hown : s.vm.findClass RX7 = some m.cls := findClass_of_methodNamed B.named
  have hlocks := B.notSynchronized
  have C0 : wk_C p s m _ meth c cX7_readNumber 4 (some .boolean) wsX7_readNumber RX7 := ⟨hx, hb, hml, hr, hlocks, hown, hts⟩
  subst hsz
  have hD := hD0.self (sz := s.heap.size)
  generalize hAe : va_A (wX7 Y a g Z_v Z_m Z_ml Z_n Z_f S_position S_count S_cm S_arguments S_argumentCount) s.heap.size = A at hD hT ⊢
  have hA : ∀ q : Nat, s.heap.size ≤ q → A q := fun q h => by rw [← hAe]; exact Or.inr h
  have hS : va_S A s.heap s.heap [] := va_S.rf
  obtain ⟨H, hHe⟩ : ∃ H, H = s.heap := ⟨_, rfl⟩
  have hS : va_S A s.heap H [] := by rw [hHe]; exact hS
  have hP : va_P (dC, dI) vwCl [(a 0, .inr (7, [.ref (a 1), .int S_position, .int S_count, .ref (a 2), .ref (a 3), .int S_argumentCount])), (a 1, .inr (1, [.ref Z_v, .int 0, .int Z_ml, .int Z_n])), (Z_v, .inl (Y 1, Z_m, .inl Z_f)), (a 2, .inl (Y 4, 12, .inr (.inr (.inr (.inr (wk_cm g S_cm)))))), (a 3, .inl (Y 0, 48, .inl S_arguments))] H := by rw [hHe]; exact hP
  have hD : va_D A [(a 0, .inr (7, [.ref (a 1), .int S_position, .int S_count, .ref (a 2), .ref (a 3), .int S_argumentCount])), (a 1, .inr (1, [.ref Z_v, .int 0, .int Z_ml, .int Z_n])), (Z_v, .inl (Y 1, Z_m, .inl Z_f)), (a 2, .inl (Y 4, 12, .inr (.inr (.inr (.inr (wk_cm g S_cm)))))), (a 3, .inl (Y 0, 48, .inl S_arguments))] := hD
  obtain ⟨locs, hlo⟩ : ∃ locs : List Loc, locs = [] := ⟨_, rfl⟩
  have hS : va_S A s.heap H locs := by rw [hlo]; exact hS
  have hl := lv_entry ([.ref (a 0)]) (n := 4) (Nat.le_of_ble_eq_true rfl)
  rw [lg_entry_eq]
  generalize (lg_sl ([.ref (a 0)]) ++ List.replicate (4 - (lg_sl ([.ref (a 0)])).length) Slot.unset).toArray = ls at hl ⊢
  have hl : lv_has ls 4 [(0, .ref (a 0))] := hl
  refine wk_start hHe hlo ?_
  rw [f_X7_readNumber] at hf
  refine lv_aload_n hx hb dX7_readNumber_0 rfl (lv_at hl 0 rfl) ?_
  refine va_get (D := (dC, dI)) (ci := 7) (v := .int S_position) (C := RX7) (T := TX7) (N := 6) hx hb hts in_X7_readNumber_X7 hown hK hP 0 rfl rfl 1 (by decide) (hts _ lk_X7_readNumber_RX7_118) (fun _ h9 => h9) rfl dX7_readNumber_1 ?_
  refine lv_istore_n (lv' := [(1, .int S_position), (0, .ref (a 0))]) hx hb dX7_readNumber_4 rfl hl (by decide) rfl (fun ls hl => ?_)
  refine lv_iconst (v := 0) hx hb dX7_readNumber_5 (by decide) ?_
  refine lv_istore_n (lv' := [(2, .int 0), (1, .int S_position), (0, .ref (a 0))]) hx hb dX7_readNumber_6 rfl hl (by decide) rfl (fun ls hl => ?_)
  refine lv_iconst (v := 0) hx hb dX7_readNumber_7 (by decide) ?_
  refine lv_istore_n (lv' := [(3, .int 0), (2, .int 0), (1, .int S_position), (0, .ref (a 0))]) hx hb dX7_readNumber_8 rfl hl (by decide) rfl (fun ls hl => ?_)
  exact wl_X7_readNumber_L9 C0 hK hA hT FU S_position 0 0 S_position S_arguments S_argumentCount hf H locs hP hD hS ls (lv_sub hl [3, 2, 1, 0] rfl)
theorem lk_X7_readDigit_RX7_118 : Cond.fieldLink RX7 118 "CircusLedger$Script" "position" "I" ∈ wsX7_readDigit := by decide +kernel
theorem in_X7_readDigit_X7 : ∀ w ∈ u_ws RX7 TX7 6, w ∈ wsX7_readDigit := by decide +kernel
def f_X7_readDigit (Z_m : Nat) (Z_n : Int32) (Z_f : Nat → Int32) (S_position : Int32) (S_count : Int32) (S_arguments : Nat → Int32) (S_argumentCount : Int32) : Option (Int32 × Int32 × (Nat → Int32) × Int32) :=
  wkb1 (f_X7_digitHere Z_m Z_n Z_f S_position) (fun r1 =>
  if r1 = (-1) then
    (some (0, S_position, S_arguments, S_argumentCount))
  else
    (wkb2 (f_X7_addArgument S_count S_arguments S_argumentCount r1) (fun w4 w5 =>
    wkl ((S_position + 1)) (fun v8 =>
    some (1, v8, w4, w5)))))
set_option maxHeartbeats 4000000 in
set_option maxRecDepth 100000 in
theorem c_X7_readDigit (l : Launch) (dC : Nat → ClassId) (dI : Nat → Nat → Nat) (Y : Nat → ClassId) (g : Nat → Nat → Nat) (a : Nat → Nat) (Z_v : Nat) (Z_m : Nat) (Z_ml : Int32) (Z_n : Int32) (Z_f : Nat → Int32) (S_position : Int32) (S_count : Int32) (S_cm : Nat → Option Nat) (S_arguments : Nat → Int32) (S_argumentCount : Int32)  (sz : Nat) (r : Int32) (zS_position : Int32) (zS_arguments : Nat → Int32) (zS_argumentCount : Int32) (hf : f_X7_readDigit Z_m Z_n Z_f S_position S_count S_arguments S_argumentCount = some (r, zS_position, zS_arguments, zS_argumentCount)) : Met l yX7_readDigit wsX7_readDigit ({ frames := 5, cells := 0, slots := 0, locals := 109 } : Room) (va_Pc [.ref (a 0)] (wk_ET (dC, dI) Y g (wX7 Y a g Z_v Z_m Z_ml Z_n Z_f S_position S_count S_cm S_arguments S_argumentCount) sz)) (va_Qi (fun r2 (_ : Nat) => r2 = r) (fun u9 t => wk_X (dC, dI) Y (wX7 Y a g Z_v Z_m Z_ml Z_n Z_f zS_position S_count S_cm zS_arguments zS_argumentCount) (va_A (wX7 Y a g Z_v Z_m Z_ml Z_n Z_f S_position S_count S_cm S_arguments S_argumentCount) sz) t) (va_A (wX7 Y a g Z_v Z_m Z_ml Z_n Z_f S_position S_count S_cm S_arguments S_argumentCount) sz)) 0 0 (va_A (wX7 Y a g Z_v Z_m Z_ml Z_n Z_f S_position S_count S_cm S_arguments S_argumentCount) sz) := by
  refine Met.ofW (cc := cX7_readDigit) (maxL := 2) (ret := (some .boolean)) (by decide) rfl ?_
  intro p e s m args below meth c s₁ B hml hv
  obtain ⟨rfl, ⟨hsz, hP, hK, hD0⟩, hT⟩ := hv
  have hx := B.exec
  have hb := B.bytes
  have hr := B.returns
  have hts := atoms_spec (ws := wsX7_readDigit) B.pre
  have hown : s.vm.findClass RX7 = some m.cls := findClass_of_methodNamed B.named
  have hlocks := B.notSynchronized
  have C0 : wk_C p s m _ meth c cX7_readDigit 2 (some .boolean) wsX7_readDigit RX7 := ⟨hx, hb, hml, hr, hlocks, hown, hts⟩
  subst hsz
  have hD := hD0.self (sz := s.heap.size)
  generalize hAe : va_A (wX7 Y a g Z_v Z_m Z_ml Z_n Z_f S_position S_count S_cm S_arguments S_argumentCount) s.heap.size = A at hD hT ⊢
  have hA : ∀ q : Nat, s.heap.size ≤ q → A q := fun q h => by rw [← hAe]; exact Or.inr h
  have hS : va_S A s.heap s.heap [] := va_S.rf
  obtain ⟨H, hHe⟩ : ∃ H, H = s.heap := ⟨_, rfl⟩
  have hS : va_S A s.heap H [] := by rw [hHe]; exact hS
  have hP : va_P (dC, dI) vwCl [(a 0, .inr (7, [.ref (a 1), .int S_position, .int S_count, .ref (a 2), .ref (a 3), .int S_argumentCount])), (a 1, .inr (1, [.ref Z_v, .int 0, .int Z_ml, .int Z_n])), (Z_v, .inl (Y 1, Z_m, .inl Z_f)), (a 2, .inl (Y 4, 12, .inr (.inr (.inr (.inr (wk_cm g S_cm)))))), (a 3, .inl (Y 0, 48, .inl S_arguments))] H := by rw [hHe]; exact hP
  have hD : va_D A [(a 0, .inr (7, [.ref (a 1), .int S_position, .int S_count, .ref (a 2), .ref (a 3), .int S_argumentCount])), (a 1, .inr (1, [.ref Z_v, .int 0, .int Z_ml, .int Z_n])), (Z_v, .inl (Y 1, Z_m, .inl Z_f)), (a 2, .inl (Y 4, 12, .inr (.inr (.inr (.inr (wk_cm g S_cm)))))), (a 3, .inl (Y 0, 48, .inl S_arguments))] := hD
  obtain ⟨locs, hlo⟩ : ∃ locs : List Loc, locs = [] := ⟨_, rfl⟩
  have hS : va_S A s.heap H locs := by rw [hlo]; exact hS
  have hl := lv_entry ([.ref (a 0)]) (n := 2) (Nat.le_of_ble_eq_true rfl)
  rw [lg_entry_eq]
  generalize (lg_sl ([.ref (a 0)]) ++ List.replicate (2 - (lg_sl ([.ref (a 0)])).length) Slot.unset).toArray = ls at hl ⊢
  have hl : lv_has ls 2 [(0, .ref (a 0))] := hl
  refine wk_start hHe hlo ?_
  rw [f_X7_readDigit] at hf
  refine lv_aload_n hx hb dX7_readDigit_0 rfl (lv_at hl 0 rfl) ?_
  obtain ⟨r1, hr2, hf⟩ := wkb1_s hf
  have hPc := hP.sub (ws' := (wX7 Y a g Z_v Z_m Z_ml Z_n Z_f S_position S_count S_cm S_arguments S_argumentCount)) [0, 1, 2, 3, 4] rfl
  refine wk_viT (As := []) (rest := []) ⟨hx, hb, hml, hown, hts⟩ (c_X7_digitHere l dC dI Y g a Z_v Z_m Z_ml Z_n Z_f S_position S_count S_cm S_arguments S_argumentCount r1 hr2) (cwV 0 hts gX7_readDigit_X7_digitHere rfl rfl rfl (by decide +kernel) ⟨Nat.le_of_ble_eq_true rfl, Nat.le_of_ble_eq_true rfl⟩) hK hPc hT hS (va_recv hK hP (ci := 7) (q0 := 0) rfl rfl) rfl hl.1 rfl (Nat.le_of_ble_eq_true rfl) dX7_readDigit_1 ⟨Nat.le_of_ble_eq_true rfl, Nat.le_of_ble_eq_true rfl⟩ ?_
  refine lv_istore_n (lv' := [(1, .int r1), (0, .ref (a 0))]) hx hb dX7_readDigit_4 rfl hl (by decide) rfl (fun ls hl => ?_)
  refine lv_iload_n hx hb dX7_readDigit_5 rfl (lv_at hl 0 rfl) ?_
  refine lv_iconst (v := (-1)) hx hb dX7_readDigit_6 (by decide) ?_
  refine lv_icmp_ne (tgt := 12) hx hb dX7_readDigit_7 (by decide) (fun q3 => ?_) (fun q3 => ?_)
  · have hf := wk_f hf q3
    refine lv_aload_n hx hb dX7_readDigit_12 rfl (lv_at hl 1 rfl) ?_
    refine lv_iload_n hx hb dX7_readDigit_13 rfl (lv_at hl 0 rfl) ?_
    obtain ⟨w4, w5, hr6, hf⟩ := wkb2_s hf
    have hPc := hP.sub (ws' := (wX7 Y a g Z_v Z_m Z_ml Z_n Z_f S_position S_count S_cm S_arguments S_argumentCount)) [0, 1, 2, 3, 4] rfl
    have hDc := hD.sub (ws' := (wX7 Y a g Z_v Z_m Z_ml Z_n Z_f S_position S_count S_cm S_arguments S_argumentCount)) [0, 1, 2, 3, 4] (by decide) rfl
    have hFc := va_free (wc := (wX7 Y a g Z_v Z_m Z_ml Z_n Z_f S_position S_count S_cm S_arguments S_argumentCount)) hD hS hA [0, 1, 2, 3, 4] rfl
    refine wg_ev (wc := (wX7 Y a g Z_v Z_m Z_ml Z_n Z_f S_position S_count S_cm S_arguments S_argumentCount)) (w1 := fun (_ : Nat) => (wX7 Y a g Z_v Z_m Z_ml Z_n Z_f S_position S_count S_cm w4 w5)) (wr := []) (va_runV (As := [.int r1]) (rest := []) ⟨hx, hb, hml, hown, hts⟩ (c_X7_addArgument l dC dI Y g a Z_v Z_m Z_ml Z_n Z_f S_position S_count S_cm S_arguments S_argumentCount r1 H.size w4 w5 hr6) (cwV 1 hts gX7_readDigit_X7_addArgument rfl rfl rfl (by decide +kernel) ⟨Nat.le_of_ble_eq_true rfl, Nat.le_of_ble_eq_true rfl⟩) ⟨wk_ETb, (va_recv hK hP (ci := 7) (q0 := 0) rfl rfl), wk_ETp hK hPc hDc hT hS hFc⟩ rfl rfl hl.1 rfl (lv_room (Nat.le_of_ble_eq_true rfl)) dX7_readDigit_14 ⟨Nat.le_of_ble_eq_true rfl, Nat.le_of_ble_eq_true rfl⟩) hP hD hS [0, 1, 2, 3, 4] [] rfl rfl (by decide) (by decide) (by decide) hFc (fun u7 H locs hP hD hS => ?_)
    have hP : va_P (dC, dI) vwCl [(a 0, .inr (7, [.ref (a 1), .int S_position, .int S_count, .ref (a 2), .ref (a 3), .int w5])), (a 1, .inr (1, [.ref Z_v, .int 0, .int Z_ml, .int Z_n])), (Z_v, .inl (Y 1, Z_m, .inl Z_f)), (a 2, .inl (Y 4, 12, .inr (.inr (.inr (.inr (wk_cm g S_cm)))))), (a 3, .inl (Y 0, 48, .inl w4))] H := hP
    have hD : va_D A [(a 0, .inr (7, [.ref (a 1), .int S_position, .int S_count, .ref (a 2), .ref (a 3), .int w5])), (a 1, .inr (1, [.ref Z_v, .int 0, .int Z_ml, .int Z_n])), (Z_v, .inl (Y 1, Z_m, .inl Z_f)), (a 2, .inl (Y 4, 12, .inr (.inr (.inr (.inr (wk_cm g S_cm)))))), (a 3, .inl (Y 0, 48, .inl w4))] := hD
    refine lv_aload_n hx hb dX7_readDigit_17 rfl (lv_at hl 1 rfl) ?_
    refine lv_dup hx hb dX7_readDigit_18 rfl ?_
    refine va_get (D := (dC, dI)) (ci := 7) (v := .int S_position) (C := RX7) (T := TX7) (N := 6) hx hb hts in_X7_readDigit_X7 hown hK hP 0 rfl rfl 1 (by decide) (hts _ lk_X7_readDigit_RX7_118) (fun _ h9 => h9) rfl dX7_readDigit_19 ?_
    refine lv_iconst (v := 1) hx hb dX7_readDigit_22 (by decide) ?_
    refine lv_iadd hx hb dX7_readDigit_23 ?_
    refine lv_topi (fun v8 ev8 => ?_)
    have hf := wkl_s hf ev8
    refine va_put (D := (dC, dI)) (ci := 7) (v := .int v8) (ty := .int) (C := RX7) (T := TX7) (N := 6) hx hb hts in_X7_readDigit_X7 tyX7 tyX7_ok nmX7 hown hK hP hD hS 0 rfl rfl 1 (by decide) (hts _ lk_X7_readDigit_RX7_118) (fun _ h9 => h9) rfl (by decide +kernel) rfl rfl (Nat.le_of_ble_eq_true rfl) dX7_readDigit_24 (fun H locs hP hD hS => ?_)
    have hP : va_P (dC, dI) vwCl [(a 0, .inr (7, [.ref (a 1), .int v8, .int S_count, .ref (a 2), .ref (a 3), .int w5])), (a 1, .inr (1, [.ref Z_v, .int 0, .int Z_ml, .int Z_n])), (Z_v, .inl (Y 1, Z_m, .inl Z_f)), (a 2, .inl (Y 4, 12, .inr (.inr (.inr (.inr (wk_cm g S_cm)))))), (a 3, .inl (Y 0, 48, .inl w4))] H := hP
    have hD : va_D A [(a 0, .inr (7, [.ref (a 1), .int v8, .int S_count, .ref (a 2), .ref (a 3), .int w5])), (a 1, .inr (1, [.ref Z_v, .int 0, .int Z_ml, .int Z_n])), (Z_v, .inl (Y 1, Z_m, .inl Z_f)), (a 2, .inl (Y 4, 12, .inr (.inr (.inr (.inr (wk_cm g S_cm)))))), (a 3, .inl (Y 0, 48, .inl w4))] := hD
    refine lv_iconst (v := 1) hx hb dX7_readDigit_27 (by decide) ?_
    obtain ⟨e0, e1, e2, e3⟩ := wke4 hf
    subst e0
    subst e1
    subst e2
    subst e3
    have hP9 := hP.sub (ws' := (wX7 Y a g Z_v Z_m Z_ml Z_n Z_f v8 S_count S_cm w4 w5)) [0, 1, 2, 3, 4] rfl
    have hD9 := hD.sub (ws' := (wX7 Y a g Z_v Z_m Z_ml Z_n Z_f v8 S_count S_cm w4 w5)) [0, 1, 2, 3, 4] (by decide) rfl
    exact W.zret (v := 1) (ty := .boolean) hx hb hr rfl (fun t ht hW => ⟨⟨1, Z_v, rfl, rfl, by rw [ht]; exact hP9, va_K.moved hW.alike hK, hD9⟩, hS.F ht⟩) hS.2.2 dX7_readDigit_28
  · have hf := wk_t hf q3
    refine lv_iconst (v := 0) hx hb dX7_readDigit_10 (by decide) ?_
    obtain ⟨e0, e1, e2, e3⟩ := wke4 hf
    subst e0
    subst e1
    subst e2
    subst e3
    have hP9 := hP.sub (ws' := (wX7 Y a g Z_v Z_m Z_ml Z_n Z_f S_position S_count S_cm S_arguments S_argumentCount)) [0, 1, 2, 3, 4] rfl
    have hD9 := hD.sub (ws' := (wX7 Y a g Z_v Z_m Z_ml Z_n Z_f S_position S_count S_cm S_arguments S_argumentCount)) [0, 1, 2, 3, 4] (by decide) rfl
    exact W.zret (v := 0) (ty := .boolean) hx hb hr rfl (fun t ht hW => ⟨⟨0, Z_v, rfl, rfl, by rw [ht]; exact hP9, va_K.moved hW.alike hK, hD9⟩, hS.F ht⟩) hS.2.2 dX7_readDigit_11
theorem lk_X7_readRisingDigits_RX7_118 : Cond.fieldLink RX7 118 "CircusLedger$Script" "position" "I" ∈ wsX7_readRisingDigits := by decide +kernel
theorem in_X7_readRisingDigits_X7 : ∀ w ∈ u_ws RX7 TX7 6, w ∈ wsX7_readRisingDigits := by decide +kernel
def f_X7_readRisingDigits_L6 (Z_m : Nat) (Z_n : Int32) (Z_f : Nat → Int32) (S_count : Int32) : Nat → Int32 → Int32 → Int32 → Int32 → (Nat → Int32) → Int32 → Option (Int32 × Int32 × (Nat → Int32) × Int32)
  | 0, _, _, _, _, _, _ => none
  | nn + 1, x1, x2, x3, S_position, S_arguments, S_argumentCount =>
    if (10 : Int32) ≤ x3 then
      (wkb2 (f_X7_addArgument S_count S_arguments S_argumentCount x1) (fun w2 w3 =>
      if x1 = 0 then
        (some (0, S_position, w2, w3))
      else
        (some (1, S_position, w2, w3))))
    else
      (wkb1 (f_X7_digitHere Z_m Z_n Z_f S_position) (fun r7 =>
      if r7 ≤ x2 then
        (wkb2 (f_X7_addArgument S_count S_arguments S_argumentCount x1) (fun w10 w11 =>
        if x1 = 0 then
          (some (0, S_position, w10, w11))
        else
          (some (1, S_position, w10, w11))))
      else
        (wkb1 (f_X7_digitHere Z_m Z_n Z_f S_position) (fun r15 =>
        wkl ((S_position + 1)) (fun v17 =>
        f_X7_readRisingDigits_L6 Z_m Z_n Z_f S_count nn (x1 ||| ((1 : Int32) <<< (r15 &&& 31))) r15 (x3 + 1) v17 S_arguments S_argumentCount)))))
def f_X7_readRisingDigits (Z_m : Nat) (Z_n : Int32) (Z_f : Nat → Int32) (S_position : Int32) (S_count : Int32) (S_arguments : Nat → Int32) (S_argumentCount : Int32) : Option (Int32 × Int32 × (Nat → Int32) × Int32) :=
  f_X7_readRisingDigits_L6 Z_m Z_n Z_f S_count FU 0 (-1) 0 S_position S_arguments S_argumentCount
set_option maxHeartbeats 4000000 in
set_option maxRecDepth 100000 in
theorem wl_X7_readRisingDigits_L6 {p : Program} {l : Launch} {e : Env} {s : State} {m : MethodId} {args : Array Value} {below : List Frame} {meth : Method} {c : Code} {dC : Nat → ClassId} {dI : Nat → Nat → Nat} {Y : Nat → ClassId} {a : Nat → Nat} {g : Nat → Nat → Nat} {Z_v : Nat} {Z_m : Nat} {Z_ml : Int32} {Z_n : Int32} {Z_f : Nat → Int32} {S_count : Int32} {S_cm : Nat → Option Nat}  {r : Int32} {zS_position : Int32} {zS_arguments : Nat → Int32} {zS_argumentCount : Int32}  (C0 : wk_C p s m args meth c cX7_readRisingDigits 4 (some .boolean) wsX7_readRisingDigits RX7) {A : Nat → Prop} (hK : va_K (dC, dI) vwCl (vTy Y) s) (hA : ∀ q, s.heap.size ≤ q → A q) (hT : wk_T g A s s.heap) : ∀ (nn : Nat) (x1 : Int32) (x2 : Int32) (x3 : Int32)  (S_position : Int32) (S_arguments : Nat → Int32) (S_argumentCount : Int32), f_X7_readRisingDigits_L6 Z_m Z_n Z_f S_count nn x1 x2 x3 S_position S_arguments S_argumentCount = some (r, zS_position, zS_arguments, zS_argumentCount) → ∀ (H : Heap) (locs : List Loc), va_P (dC, dI) vwCl (wX7 Y a g Z_v Z_m Z_ml Z_n Z_f S_position S_count S_cm S_arguments S_argumentCount) H → va_D A (wX7 Y a g Z_v Z_m Z_ml Z_n Z_f S_position S_count S_cm S_arguments S_argumentCount) → va_S A s.heap H locs → ∀ (ls : Array Slot), lv_has ls 4 [(0, .ref (a 0)), (1, .int x1), (2, .int x2), (3, .int x3)] → W p l e (headSpec wsX7_readRisingDigits ({ frames := 5, cells := 0, slots := 0, locals := 109 } : Room)).room s m args below meth c H locs 0 0 (MQ below (va_Qi (fun r2 (_ : Nat) => r2 = r) (fun u9 t => wk_X (dC, dI) Y (wX7 Y a g Z_v Z_m Z_ml Z_n Z_f zS_position S_count S_cm zS_arguments zS_argumentCount) A t) A) args s 0 0 A) (F0 m 6 ls []) := by
  have C0 := C0
  obtain ⟨hx, hb, hml, hr, hlocks, hown, hts⟩ := id C0
  intro nn
  induction nn with
  | zero =>
    intro x1 x2 x3 S_position S_arguments S_argumentCount hf
    rw [f_X7_readRisingDigits_L6] at hf
    cases hf
  | succ nn ih =>
    intro x1 x2 x3 S_position S_arguments S_argumentCount hf H locs hP hD hS ls hl
    rw [f_X7_readRisingDigits_L6] at hf
    have hP : va_P (dC, dI) vwCl [(a 0, .inr (7, [.ref (a 1), .int S_position, .int S_count, .ref (a 2), .ref (a 3), .int S_argumentCount])), (a 1, .inr (1, [.ref Z_v, .int 0, .int Z_ml, .int Z_n])), (Z_v, .inl (Y 1, Z_m, .inl Z_f)), (a 2, .inl (Y 4, 12, .inr (.inr (.inr (.inr (wk_cm g S_cm)))))), (a 3, .inl (Y 0, 48, .inl S_arguments))] H := hP
    have hD : va_D A [(a 0, .inr (7, [.ref (a 1), .int S_position, .int S_count, .ref (a 2), .ref (a 3), .int S_argumentCount])), (a 1, .inr (1, [.ref Z_v, .int 0, .int Z_ml, .int Z_n])), (Z_v, .inl (Y 1, Z_m, .inl Z_f)), (a 2, .inl (Y 4, 12, .inr (.inr (.inr (.inr (wk_cm g S_cm)))))), (a 3, .inl (Y 0, 48, .inl S_arguments))] := hD
    refine lv_iload_n hx hb dX7_readRisingDigits_6 rfl (lv_at hl 3 rfl) ?_
    refine lv_bipush (v := 10) hx hb dX7_readRisingDigits_7 (by decide) ?_
    refine lv_icmp_ge (tgt := 47) hx hb dX7_readRisingDigits_9 (by decide) (fun q1 => ?_) (fun q1 => ?_)
    · have hf := wk_t hf q1
      refine lv_aload_n hx hb dX7_readRisingDigits_47 rfl (lv_at hl 0 rfl) ?_
      refine lv_iload_n hx hb dX7_readRisingDigits_48 rfl (lv_at hl 1 rfl) ?_
      obtain ⟨w2, w3, hr4, hf⟩ := wkb2_s hf
      have hPc := hP.sub (ws' := (wX7 Y a g Z_v Z_m Z_ml Z_n Z_f S_position S_count S_cm S_arguments S_argumentCount)) [0, 1, 2, 3, 4] rfl
      have hDc := hD.sub (ws' := (wX7 Y a g Z_v Z_m Z_ml Z_n Z_f S_position S_count S_cm S_arguments S_argumentCount)) [0, 1, 2, 3, 4] (by decide) rfl
      have hFc := va_free (wc := (wX7 Y a g Z_v Z_m Z_ml Z_n Z_f S_position S_count S_cm S_arguments S_argumentCount)) hD hS hA [0, 1, 2, 3, 4] rfl
      refine wg_ev (wc := (wX7 Y a g Z_v Z_m Z_ml Z_n Z_f S_position S_count S_cm S_arguments S_argumentCount)) (w1 := fun (_ : Nat) => (wX7 Y a g Z_v Z_m Z_ml Z_n Z_f S_position S_count S_cm w2 w3)) (wr := []) (va_runV (As := [.int x1]) (rest := []) ⟨hx, hb, hml, hown, hts⟩ (c_X7_addArgument l dC dI Y g a Z_v Z_m Z_ml Z_n Z_f S_position S_count S_cm S_arguments S_argumentCount x1 H.size w2 w3 hr4) (cwV 1 hts gX7_readRisingDigits_X7_addArgument rfl rfl rfl (by decide +kernel) ⟨Nat.le_of_ble_eq_true rfl, Nat.le_of_ble_eq_true rfl⟩) ⟨wk_ETb, (va_recv hK hP (ci := 7) (q0 := 0) rfl rfl), wk_ETp hK hPc hDc hT hS hFc⟩ rfl rfl hl.1 rfl (lv_room (Nat.le_of_ble_eq_true rfl)) dX7_readRisingDigits_49 ⟨Nat.le_of_ble_eq_true rfl, Nat.le_of_ble_eq_true rfl⟩) hP hD hS [0, 1, 2, 3, 4] [] rfl rfl (by decide) (by decide) (by decide) hFc (fun u5 H locs hP hD hS => ?_)
      have hP : va_P (dC, dI) vwCl [(a 0, .inr (7, [.ref (a 1), .int S_position, .int S_count, .ref (a 2), .ref (a 3), .int w3])), (a 1, .inr (1, [.ref Z_v, .int 0, .int Z_ml, .int Z_n])), (Z_v, .inl (Y 1, Z_m, .inl Z_f)), (a 2, .inl (Y 4, 12, .inr (.inr (.inr (.inr (wk_cm g S_cm)))))), (a 3, .inl (Y 0, 48, .inl w2))] H := hP
      have hD : va_D A [(a 0, .inr (7, [.ref (a 1), .int S_position, .int S_count, .ref (a 2), .ref (a 3), .int w3])), (a 1, .inr (1, [.ref Z_v, .int 0, .int Z_ml, .int Z_n])), (Z_v, .inl (Y 1, Z_m, .inl Z_f)), (a 2, .inl (Y 4, 12, .inr (.inr (.inr (.inr (wk_cm g S_cm)))))), (a 3, .inl (Y 0, 48, .inl w2))] := hD
      refine lv_iload_n hx hb dX7_readRisingDigits_52 rfl (lv_at hl 1 rfl) ?_
      refine lv_if_eq (tgt := 60) hx hb dX7_readRisingDigits_53 (by decide) (fun q6 => ?_) (fun q6 => ?_)
      · have hf := wk_t hf q6
        refine lv_iconst (v := 0) hx hb dX7_readRisingDigits_60 (by decide) ?_
        obtain ⟨e0, e1, e2, e3⟩ := wke4 hf
        subst e0
        subst e1
        subst e2
        subst e3
        have hP9 := hP.sub (ws' := (wX7 Y a g Z_v Z_m Z_ml Z_n Z_f S_position S_count S_cm w2 w3)) [0, 1, 2, 3, 4] rfl
        have hD9 := hD.sub (ws' := (wX7 Y a g Z_v Z_m Z_ml Z_n Z_f S_position S_count S_cm w2 w3)) [0, 1, 2, 3, 4] (by decide) rfl
        exact W.zret (v := 0) (ty := .boolean) hx hb hr rfl (fun t ht hW => ⟨⟨0, Z_v, rfl, rfl, by rw [ht]; exact hP9, va_K.moved hW.alike hK, hD9⟩, hS.F ht⟩) hS.2.2 dX7_readRisingDigits_61
      · have hf := wk_f hf q6
        refine lv_iconst (v := 1) hx hb dX7_readRisingDigits_56 (by decide) ?_
        refine lv_goto (tgt := 61) hx hb dX7_readRisingDigits_57 (by decide) ?_
        obtain ⟨e0, e1, e2, e3⟩ := wke4 hf
        subst e0
        subst e1
        subst e2
        subst e3
        have hP9 := hP.sub (ws' := (wX7 Y a g Z_v Z_m Z_ml Z_n Z_f S_position S_count S_cm w2 w3)) [0, 1, 2, 3, 4] rfl
        have hD9 := hD.sub (ws' := (wX7 Y a g Z_v Z_m Z_ml Z_n Z_f S_position S_count S_cm w2 w3)) [0, 1, 2, 3, 4] (by decide) rfl
        exact W.zret (v := 1) (ty := .boolean) hx hb hr rfl (fun t ht hW => ⟨⟨1, Z_v, rfl, rfl, by rw [ht]; exact hP9, va_K.moved hW.alike hK, hD9⟩, hS.F ht⟩) hS.2.2 dX7_readRisingDigits_61
    · have hf := wk_f hf q1
      refine lv_aload_n hx hb dX7_readRisingDigits_12 rfl (lv_at hl 0 rfl) ?_
      obtain ⟨r7, hr8, hf⟩ := wkb1_s hf
      have hPc := hP.sub (ws' := (wX7 Y a g Z_v Z_m Z_ml Z_n Z_f S_position S_count S_cm S_arguments S_argumentCount)) [0, 1, 2, 3, 4] rfl
      refine wk_viT (As := []) (rest := []) ⟨hx, hb, hml, hown, hts⟩ (c_X7_digitHere l dC dI Y g a Z_v Z_m Z_ml Z_n Z_f S_position S_count S_cm S_arguments S_argumentCount r7 hr8) (cwV 0 hts gX7_readRisingDigits_X7_digitHere rfl rfl rfl (by decide +kernel) ⟨Nat.le_of_ble_eq_true rfl, Nat.le_of_ble_eq_true rfl⟩) hK hPc hT hS (va_recv hK hP (ci := 7) (q0 := 0) rfl rfl) rfl hl.1 rfl (Nat.le_of_ble_eq_true rfl) dX7_readRisingDigits_13 ⟨Nat.le_of_ble_eq_true rfl, Nat.le_of_ble_eq_true rfl⟩ ?_
      refine lv_iload_n hx hb dX7_readRisingDigits_16 rfl (lv_at hl 2 rfl) ?_
      refine lv_icmp_le (tgt := 47) hx hb dX7_readRisingDigits_17 (by decide) (fun q9 => ?_) (fun q9 => ?_)
      · have hf := wk_t hf q9
        refine lv_aload_n hx hb dX7_readRisingDigits_47 rfl (lv_at hl 0 rfl) ?_
        refine lv_iload_n hx hb dX7_readRisingDigits_48 rfl (lv_at hl 1 rfl) ?_
        obtain ⟨w10, w11, hr12, hf⟩ := wkb2_s hf
        have hPc := hP.sub (ws' := (wX7 Y a g Z_v Z_m Z_ml Z_n Z_f S_position S_count S_cm S_arguments S_argumentCount)) [0, 1, 2, 3, 4] rfl
        have hDc := hD.sub (ws' := (wX7 Y a g Z_v Z_m Z_ml Z_n Z_f S_position S_count S_cm S_arguments S_argumentCount)) [0, 1, 2, 3, 4] (by decide) rfl
        have hFc := va_free (wc := (wX7 Y a g Z_v Z_m Z_ml Z_n Z_f S_position S_count S_cm S_arguments S_argumentCount)) hD hS hA [0, 1, 2, 3, 4] rfl
        refine wg_ev (wc := (wX7 Y a g Z_v Z_m Z_ml Z_n Z_f S_position S_count S_cm S_arguments S_argumentCount)) (w1 := fun (_ : Nat) => (wX7 Y a g Z_v Z_m Z_ml Z_n Z_f S_position S_count S_cm w10 w11)) (wr := []) (va_runV (As := [.int x1]) (rest := []) ⟨hx, hb, hml, hown, hts⟩ (c_X7_addArgument l dC dI Y g a Z_v Z_m Z_ml Z_n Z_f S_position S_count S_cm S_arguments S_argumentCount x1 H.size w10 w11 hr12) (cwV 1 hts gX7_readRisingDigits_X7_addArgument rfl rfl rfl (by decide +kernel) ⟨Nat.le_of_ble_eq_true rfl, Nat.le_of_ble_eq_true rfl⟩) ⟨wk_ETb, (va_recv hK hP (ci := 7) (q0 := 0) rfl rfl), wk_ETp hK hPc hDc hT hS hFc⟩ rfl rfl hl.1 rfl (lv_room (Nat.le_of_ble_eq_true rfl)) dX7_readRisingDigits_49 ⟨Nat.le_of_ble_eq_true rfl, Nat.le_of_ble_eq_true rfl⟩) hP hD hS [0, 1, 2, 3, 4] [] rfl rfl (by decide) (by decide) (by decide) hFc (fun u13 H locs hP hD hS => ?_)
        have hP : va_P (dC, dI) vwCl [(a 0, .inr (7, [.ref (a 1), .int S_position, .int S_count, .ref (a 2), .ref (a 3), .int w11])), (a 1, .inr (1, [.ref Z_v, .int 0, .int Z_ml, .int Z_n])), (Z_v, .inl (Y 1, Z_m, .inl Z_f)), (a 2, .inl (Y 4, 12, .inr (.inr (.inr (.inr (wk_cm g S_cm)))))), (a 3, .inl (Y 0, 48, .inl w10))] H := hP
        have hD : va_D A [(a 0, .inr (7, [.ref (a 1), .int S_position, .int S_count, .ref (a 2), .ref (a 3), .int w11])), (a 1, .inr (1, [.ref Z_v, .int 0, .int Z_ml, .int Z_n])), (Z_v, .inl (Y 1, Z_m, .inl Z_f)), (a 2, .inl (Y 4, 12, .inr (.inr (.inr (.inr (wk_cm g S_cm)))))), (a 3, .inl (Y 0, 48, .inl w10))] := hD
        refine lv_iload_n hx hb dX7_readRisingDigits_52 rfl (lv_at hl 1 rfl) ?_
        refine lv_if_eq (tgt := 60) hx hb dX7_readRisingDigits_53 (by decide) (fun q14 => ?_) (fun q14 => ?_)
        · have hf := wk_t hf q14
          refine lv_iconst (v := 0) hx hb dX7_readRisingDigits_60 (by decide) ?_
          obtain ⟨e0, e1, e2, e3⟩ := wke4 hf
          subst e0
          subst e1
          subst e2
          subst e3
          have hP9 := hP.sub (ws' := (wX7 Y a g Z_v Z_m Z_ml Z_n Z_f S_position S_count S_cm w10 w11)) [0, 1, 2, 3, 4] rfl
          have hD9 := hD.sub (ws' := (wX7 Y a g Z_v Z_m Z_ml Z_n Z_f S_position S_count S_cm w10 w11)) [0, 1, 2, 3, 4] (by decide) rfl
          exact W.zret (v := 0) (ty := .boolean) hx hb hr rfl (fun t ht hW => ⟨⟨0, Z_v, rfl, rfl, by rw [ht]; exact hP9, va_K.moved hW.alike hK, hD9⟩, hS.F ht⟩) hS.2.2 dX7_readRisingDigits_61
        · have hf := wk_f hf q14
          refine lv_iconst (v := 1) hx hb dX7_readRisingDigits_56 (by decide) ?_
          refine lv_goto (tgt := 61) hx hb dX7_readRisingDigits_57 (by decide) ?_
          obtain ⟨e0, e1, e2, e3⟩ := wke4 hf
          subst e0
          subst e1
          subst e2
          subst e3
          have hP9 := hP.sub (ws' := (wX7 Y a g Z_v Z_m Z_ml Z_n Z_f S_position S_count S_cm w10 w11)) [0, 1, 2, 3, 4] rfl
          have hD9 := hD.sub (ws' := (wX7 Y a g Z_v Z_m Z_ml Z_n Z_f S_position S_count S_cm w10 w11)) [0, 1, 2, 3, 4] (by decide) rfl
          exact W.zret (v := 1) (ty := .boolean) hx hb hr rfl (fun t ht hW => ⟨⟨1, Z_v, rfl, rfl, by rw [ht]; exact hP9, va_K.moved hW.alike hK, hD9⟩, hS.F ht⟩) hS.2.2 dX7_readRisingDigits_61
      · have hf := wk_f hf q9
        refine lv_aload_n hx hb dX7_readRisingDigits_20 rfl (lv_at hl 0 rfl) ?_
        obtain ⟨r15, hr16, hf⟩ := wkb1_s hf
        have hPc := hP.sub (ws' := (wX7 Y a g Z_v Z_m Z_ml Z_n Z_f S_position S_count S_cm S_arguments S_argumentCount)) [0, 1, 2, 3, 4] rfl
        refine wk_viT (As := []) (rest := []) ⟨hx, hb, hml, hown, hts⟩ (c_X7_digitHere l dC dI Y g a Z_v Z_m Z_ml Z_n Z_f S_position S_count S_cm S_arguments S_argumentCount r15 hr16) (cwV 0 hts gX7_readRisingDigits_X7_digitHere rfl rfl rfl (by decide +kernel) ⟨Nat.le_of_ble_eq_true rfl, Nat.le_of_ble_eq_true rfl⟩) hK hPc hT hS (va_recv hK hP (ci := 7) (q0 := 0) rfl rfl) rfl hl.1 rfl (Nat.le_of_ble_eq_true rfl) dX7_readRisingDigits_21 ⟨Nat.le_of_ble_eq_true rfl, Nat.le_of_ble_eq_true rfl⟩ ?_
        refine lv_istore_n (lv' := [(2, .int r15), (0, .ref (a 0)), (1, .int x1), (3, .int x3)]) hx hb dX7_readRisingDigits_24 rfl hl (by decide) rfl (fun ls hl => ?_)
        refine lv_iload_n hx hb dX7_readRisingDigits_25 rfl (lv_at hl 2 rfl) ?_
        refine lv_iconst (v := 1) hx hb dX7_readRisingDigits_26 (by decide) ?_
        refine lv_iload_n hx hb dX7_readRisingDigits_27 rfl (lv_at hl 0 rfl) ?_
        refine lv_ishl hx hb dX7_readRisingDigits_28 ?_
        refine lv_ior hx hb dX7_readRisingDigits_29 ?_
        refine lv_istore_n (lv' := [(1, .int (x1 ||| ((1 : Int32) <<< (r15 &&& 31)))), (2, .int r15), (0, .ref (a 0)), (3, .int x3)]) hx hb dX7_readRisingDigits_30 rfl hl (by decide) rfl (fun ls hl => ?_)
        refine lv_aload_n hx hb dX7_readRisingDigits_31 rfl (lv_at hl 2 rfl) ?_
        refine lv_dup hx hb dX7_readRisingDigits_32 rfl ?_
        refine va_get (D := (dC, dI)) (ci := 7) (v := .int S_position) (C := RX7) (T := TX7) (N := 6) hx hb hts in_X7_readRisingDigits_X7 hown hK hP 0 rfl rfl 1 (by decide) (hts _ lk_X7_readRisingDigits_RX7_118) (fun _ h9 => h9) rfl dX7_readRisingDigits_33 ?_
        refine lv_iconst (v := 1) hx hb dX7_readRisingDigits_36 (by decide) ?_
        refine lv_iadd hx hb dX7_readRisingDigits_37 ?_
        refine lv_topi (fun v17 ev17 => ?_)
        have hf := wkl_s hf ev17
        refine va_put (D := (dC, dI)) (ci := 7) (v := .int v17) (ty := .int) (C := RX7) (T := TX7) (N := 6) hx hb hts in_X7_readRisingDigits_X7 tyX7 tyX7_ok nmX7 hown hK hP hD hS 0 rfl rfl 1 (by decide) (hts _ lk_X7_readRisingDigits_RX7_118) (fun _ h9 => h9) rfl (by decide +kernel) rfl rfl (Nat.le_of_ble_eq_true rfl) dX7_readRisingDigits_38 (fun H locs hP hD hS => ?_)
        have hP : va_P (dC, dI) vwCl [(a 0, .inr (7, [.ref (a 1), .int v17, .int S_count, .ref (a 2), .ref (a 3), .int S_argumentCount])), (a 1, .inr (1, [.ref Z_v, .int 0, .int Z_ml, .int Z_n])), (Z_v, .inl (Y 1, Z_m, .inl Z_f)), (a 2, .inl (Y 4, 12, .inr (.inr (.inr (.inr (wk_cm g S_cm)))))), (a 3, .inl (Y 0, 48, .inl S_arguments))] H := hP
        have hD : va_D A [(a 0, .inr (7, [.ref (a 1), .int v17, .int S_count, .ref (a 2), .ref (a 3), .int S_argumentCount])), (a 1, .inr (1, [.ref Z_v, .int 0, .int Z_ml, .int Z_n])), (Z_v, .inl (Y 1, Z_m, .inl Z_f)), (a 2, .inl (Y 4, 12, .inr (.inr (.inr (.inr (wk_cm g S_cm)))))), (a 3, .inl (Y 0, 48, .inl S_arguments))] := hD
        refine lv_iinc (v := (x3 + 1)) (lv' := [(3, .int (x3 + 1)), (1, .int (x1 ||| ((1 : Int32) <<< (r15 &&& 31)))), (2, .int r15), (0, .ref (a 0))]) hx hb dX7_readRisingDigits_41 hl (k := 3) rfl rfl (by decide) rfl (fun ls hl => ?_)
        refine lv_goto (tgt := 6) hx hb dX7_readRisingDigits_44 (by decide) ?_
        exact ih (x1 ||| ((1 : Int32) <<< (r15 &&& 31))) r15 (x3 + 1) v17 S_arguments S_argumentCount hf H locs hP hD hS ls (lv_sub hl [3, 1, 2, 0] rfl)
set_option maxHeartbeats 4000000 in
set_option maxRecDepth 100000 in
theorem c_X7_readRisingDigits (l : Launch) (dC : Nat → ClassId) (dI : Nat → Nat → Nat) (Y : Nat → ClassId) (g : Nat → Nat → Nat) (a : Nat → Nat) (Z_v : Nat) (Z_m : Nat) (Z_ml : Int32) (Z_n : Int32) (Z_f : Nat → Int32) (S_position : Int32) (S_count : Int32) (S_cm : Nat → Option Nat) (S_arguments : Nat → Int32) (S_argumentCount : Int32)  (sz : Nat) (r : Int32) (zS_position : Int32) (zS_arguments : Nat → Int32) (zS_argumentCount : Int32) (hf : f_X7_readRisingDigits Z_m Z_n Z_f S_position S_count S_arguments S_argumentCount = some (r, zS_position, zS_arguments, zS_argumentCount)) : Met l yX7_readRisingDigits wsX7_readRisingDigits ({ frames := 5, cells := 0, slots := 0, locals := 109 } : Room) (va_Pc [.ref (a 0)] (wk_ET (dC, dI) Y g (wX7 Y a g Z_v Z_m Z_ml Z_n Z_f S_position S_count S_cm S_arguments S_argumentCount) sz)) (va_Qi (fun r2 (_ : Nat) => r2 = r) (fun u9 t => wk_X (dC, dI) Y (wX7 Y a g Z_v Z_m Z_ml Z_n Z_f zS_position S_count S_cm zS_arguments zS_argumentCount) (va_A (wX7 Y a g Z_v Z_m Z_ml Z_n Z_f S_position S_count S_cm S_arguments S_argumentCount) sz) t) (va_A (wX7 Y a g Z_v Z_m Z_ml Z_n Z_f S_position S_count S_cm S_arguments S_argumentCount) sz)) 0 0 (va_A (wX7 Y a g Z_v Z_m Z_ml Z_n Z_f S_position S_count S_cm S_arguments S_argumentCount) sz) := by
  refine Met.ofW (cc := cX7_readRisingDigits) (maxL := 4) (ret := (some .boolean)) (by decide) rfl ?_
  intro p e s m args below meth c s₁ B hml hv
  obtain ⟨rfl, ⟨hsz, hP, hK, hD0⟩, hT⟩ := hv
  have hx := B.exec
  have hb := B.bytes
  have hr := B.returns
  have hts := atoms_spec (ws := wsX7_readRisingDigits) B.pre
  have hown : s.vm.findClass RX7 = some m.cls := findClass_of_methodNamed B.named
  have hlocks := B.notSynchronized
  have C0 : wk_C p s m _ meth c cX7_readRisingDigits 4 (some .boolean) wsX7_readRisingDigits RX7 := ⟨hx, hb, hml, hr, hlocks, hown, hts⟩
  subst hsz
  have hD := hD0.self (sz := s.heap.size)
  generalize hAe : va_A (wX7 Y a g Z_v Z_m Z_ml Z_n Z_f S_position S_count S_cm S_arguments S_argumentCount) s.heap.size = A at hD hT ⊢
  have hA : ∀ q : Nat, s.heap.size ≤ q → A q := fun q h => by rw [← hAe]; exact Or.inr h
  have hS : va_S A s.heap s.heap [] := va_S.rf
  obtain ⟨H, hHe⟩ : ∃ H, H = s.heap := ⟨_, rfl⟩
  have hS : va_S A s.heap H [] := by rw [hHe]; exact hS
  have hP : va_P (dC, dI) vwCl [(a 0, .inr (7, [.ref (a 1), .int S_position, .int S_count, .ref (a 2), .ref (a 3), .int S_argumentCount])), (a 1, .inr (1, [.ref Z_v, .int 0, .int Z_ml, .int Z_n])), (Z_v, .inl (Y 1, Z_m, .inl Z_f)), (a 2, .inl (Y 4, 12, .inr (.inr (.inr (.inr (wk_cm g S_cm)))))), (a 3, .inl (Y 0, 48, .inl S_arguments))] H := by rw [hHe]; exact hP
  have hD : va_D A [(a 0, .inr (7, [.ref (a 1), .int S_position, .int S_count, .ref (a 2), .ref (a 3), .int S_argumentCount])), (a 1, .inr (1, [.ref Z_v, .int 0, .int Z_ml, .int Z_n])), (Z_v, .inl (Y 1, Z_m, .inl Z_f)), (a 2, .inl (Y 4, 12, .inr (.inr (.inr (.inr (wk_cm g S_cm)))))), (a 3, .inl (Y 0, 48, .inl S_arguments))] := hD
  obtain ⟨locs, hlo⟩ : ∃ locs : List Loc, locs = [] := ⟨_, rfl⟩
  have hS : va_S A s.heap H locs := by rw [hlo]; exact hS
  have hl := lv_entry ([.ref (a 0)]) (n := 4) (Nat.le_of_ble_eq_true rfl)
  rw [lg_entry_eq]
  generalize (lg_sl ([.ref (a 0)]) ++ List.replicate (4 - (lg_sl ([.ref (a 0)])).length) Slot.unset).toArray = ls at hl ⊢
  have hl : lv_has ls 4 [(0, .ref (a 0))] := hl
  refine wk_start hHe hlo ?_
  rw [f_X7_readRisingDigits] at hf
  refine lv_iconst (v := 0) hx hb dX7_readRisingDigits_0 (by decide) ?_
  refine lv_istore_n (lv' := [(1, .int 0), (0, .ref (a 0))]) hx hb dX7_readRisingDigits_1 rfl hl (by decide) rfl (fun ls hl => ?_)
  refine lv_iconst (v := (-1)) hx hb dX7_readRisingDigits_2 (by decide) ?_
  refine lv_istore_n (lv' := [(2, .int (-1)), (1, .int 0), (0, .ref (a 0))]) hx hb dX7_readRisingDigits_3 rfl hl (by decide) rfl (fun ls hl => ?_)
  refine lv_iconst (v := 0) hx hb dX7_readRisingDigits_4 (by decide) ?_
  refine lv_istore_n (lv' := [(3, .int 0), (2, .int (-1)), (1, .int 0), (0, .ref (a 0))]) hx hb dX7_readRisingDigits_5 rfl hl (by decide) rfl (fun ls hl => ?_)
  exact wl_X7_readRisingDigits_L6 C0 hK hA hT FU 0 (-1) 0 S_position S_arguments S_argumentCount hf H locs hP hD hS ls (lv_sub hl [3, 2, 1, 0] rfl)
def f_X7_readPart (Z_m : Nat) (Z_n : Int32) (Z_f : Nat → Int32) (S_position : Int32) (S_count : Int32) (S_arguments : Nat → Int32) (S_argumentCount : Int32) (x1 : Int32) : Option (Int32 × Int32 × (Nat → Int32) × Int32) :=
  if x1 = 35 then
    (wkb4 (f_X7_readNumber Z_m Z_n Z_f S_position S_count S_arguments S_argumentCount) (fun r2 w3 w4 w5 =>
    gbo r2 (some (r2, w3, w4, w5))))
  else
    (if x1 = 42 then
      (wkb4 (f_X7_readRisingDigits Z_m Z_n Z_f S_position S_count S_arguments S_argumentCount) (fun r9 w10 w11 w12 =>
      gbo r9 (some (r9, w10, w11, w12))))
    else
      (if x1 = 63 then
        (wkb4 (f_X7_readDigit Z_m Z_n Z_f S_position S_count S_arguments S_argumentCount) (fun r16 w17 w18 w19 =>
        gbo r16 (some (r16, w17, w18, w19))))
      else
        (if x1 = 126 then
          (wkb2 (f_X7_readSign Z_m Z_n Z_f S_position 32) (fun r23 w24 =>
          if r23 = 0 then
            (wkb2 (f_X7_addArgument S_count S_arguments S_argumentCount 1) (fun w28 w29 =>
            some (1, w24, w28, w29)))
          else
            (wkb4 (f_X7_readNumber Z_m Z_n Z_f w24 S_count S_arguments S_argumentCount) (fun r32 w33 w34 w35 =>
            gbo r32 (some (r32, w33, w34, w35))))))
        else
          (wkb2 (f_X7_readSign Z_m Z_n Z_f S_position x1) (fun r38 w39 =>
          gbo r38 (some (r38, w39, S_arguments, S_argumentCount)))))))
set_option maxHeartbeats 4000000 in
set_option maxRecDepth 100000 in
theorem c_X7_readPart (l : Launch) (dC : Nat → ClassId) (dI : Nat → Nat → Nat) (Y : Nat → ClassId) (g : Nat → Nat → Nat) (a : Nat → Nat) (Z_v : Nat) (Z_m : Nat) (Z_ml : Int32) (Z_n : Int32) (Z_f : Nat → Int32) (S_position : Int32) (S_count : Int32) (S_cm : Nat → Option Nat) (S_arguments : Nat → Int32) (S_argumentCount : Int32) (x1 : Int32) (sz : Nat) (r : Int32) (zS_position : Int32) (zS_arguments : Nat → Int32) (zS_argumentCount : Int32) (hf : f_X7_readPart Z_m Z_n Z_f S_position S_count S_arguments S_argumentCount x1 = some (r, zS_position, zS_arguments, zS_argumentCount)) : Met l yX7_readPart wsX7_readPart ({ frames := 6, cells := 0, slots := 0, locals := 132 } : Room) (va_Pc [.ref (a 0), .int x1] (wk_ET (dC, dI) Y g (wX7 Y a g Z_v Z_m Z_ml Z_n Z_f S_position S_count S_cm S_arguments S_argumentCount) sz)) (va_Qi (fun r2 (_ : Nat) => r2 = r) (fun u9 t => wk_X (dC, dI) Y (wX7 Y a g Z_v Z_m Z_ml Z_n Z_f zS_position S_count S_cm zS_arguments zS_argumentCount) (va_A (wX7 Y a g Z_v Z_m Z_ml Z_n Z_f S_position S_count S_cm S_arguments S_argumentCount) sz) t) (va_A (wX7 Y a g Z_v Z_m Z_ml Z_n Z_f S_position S_count S_cm S_arguments S_argumentCount) sz)) 0 0 (va_A (wX7 Y a g Z_v Z_m Z_ml Z_n Z_f S_position S_count S_cm S_arguments S_argumentCount) sz) := by
  refine Met.ofW (cc := cX7_readPart) (maxL := 2) (ret := (some .boolean)) (by decide) rfl ?_
  intro p e s m args below meth c s₁ B hml hv
  obtain ⟨rfl, ⟨hsz, hP, hK, hD0⟩, hT⟩ := hv
  have hx := B.exec
  have hb := B.bytes
  have hr := B.returns
  have hts := atoms_spec (ws := wsX7_readPart) B.pre
  have hown : s.vm.findClass RX7 = some m.cls := findClass_of_methodNamed B.named
  have hlocks := B.notSynchronized
  have C0 : wk_C p s m _ meth c cX7_readPart 2 (some .boolean) wsX7_readPart RX7 := ⟨hx, hb, hml, hr, hlocks, hown, hts⟩
  subst hsz
  have hD := hD0.self (sz := s.heap.size)
  generalize hAe : va_A (wX7 Y a g Z_v Z_m Z_ml Z_n Z_f S_position S_count S_cm S_arguments S_argumentCount) s.heap.size = A at hD hT ⊢
  have hA : ∀ q : Nat, s.heap.size ≤ q → A q := fun q h => by rw [← hAe]; exact Or.inr h
  have hS : va_S A s.heap s.heap [] := va_S.rf
  obtain ⟨H, hHe⟩ : ∃ H, H = s.heap := ⟨_, rfl⟩
  have hS : va_S A s.heap H [] := by rw [hHe]; exact hS
  have hP : va_P (dC, dI) vwCl [(a 0, .inr (7, [.ref (a 1), .int S_position, .int S_count, .ref (a 2), .ref (a 3), .int S_argumentCount])), (a 1, .inr (1, [.ref Z_v, .int 0, .int Z_ml, .int Z_n])), (Z_v, .inl (Y 1, Z_m, .inl Z_f)), (a 2, .inl (Y 4, 12, .inr (.inr (.inr (.inr (wk_cm g S_cm)))))), (a 3, .inl (Y 0, 48, .inl S_arguments))] H := by rw [hHe]; exact hP
  have hD : va_D A [(a 0, .inr (7, [.ref (a 1), .int S_position, .int S_count, .ref (a 2), .ref (a 3), .int S_argumentCount])), (a 1, .inr (1, [.ref Z_v, .int 0, .int Z_ml, .int Z_n])), (Z_v, .inl (Y 1, Z_m, .inl Z_f)), (a 2, .inl (Y 4, 12, .inr (.inr (.inr (.inr (wk_cm g S_cm)))))), (a 3, .inl (Y 0, 48, .inl S_arguments))] := hD
  obtain ⟨locs, hlo⟩ : ∃ locs : List Loc, locs = [] := ⟨_, rfl⟩
  have hS : va_S A s.heap H locs := by rw [hlo]; exact hS
  have hl := lv_entry ([.ref (a 0), .int x1]) (n := 2) (Nat.le_of_ble_eq_true rfl)
  rw [lg_entry_eq]
  generalize (lg_sl ([.ref (a 0), .int x1]) ++ List.replicate (2 - (lg_sl ([.ref (a 0), .int x1])).length) Slot.unset).toArray = ls at hl ⊢
  have hl : lv_has ls 2 [(0, .ref (a 0)), (1, .int x1)] := hl
  refine wk_start hHe hlo ?_
  rw [f_X7_readPart] at hf
  refine lv_iload_n hx hb dX7_readPart_0 rfl (lv_at hl 1 rfl) ?_
  by_cases q1 : x1 = 35
  · have hf := wk_t hf q1
    refine lv_lookup (off := 43) (tgt := 44) hx hb dX7_readPart_1 (by decide) (by rw [q1]; decide) (by decide) ?_
    refine lv_aload_n hx hb dX7_readPart_44 rfl (lv_at hl 0 rfl) ?_
    obtain ⟨r2, w3, w4, w5, hr6, hf⟩ := wkb4_s hf
    have hPc := hP.sub (ws' := (wX7 Y a g Z_v Z_m Z_ml Z_n Z_f S_position S_count S_cm S_arguments S_argumentCount)) [0, 1, 2, 3, 4] rfl
    have hDc := hD.sub (ws' := (wX7 Y a g Z_v Z_m Z_ml Z_n Z_f S_position S_count S_cm S_arguments S_argumentCount)) [0, 1, 2, 3, 4] (by decide) rfl
    have hFc := va_free (wc := (wX7 Y a g Z_v Z_m Z_ml Z_n Z_f S_position S_count S_cm S_arguments S_argumentCount)) hD hS hA [0, 1, 2, 3, 4] rfl
    refine wg_ei (wc := (wX7 Y a g Z_v Z_m Z_ml Z_n Z_f S_position S_count S_cm S_arguments S_argumentCount)) (w1 := fun (_ : Nat) => (wX7 Y a g Z_v Z_m Z_ml Z_n Z_f w3 S_count S_cm w4 w5)) (wr := []) (va_runV (As := []) (rest := []) ⟨hx, hb, hml, hown, hts⟩ (c_X7_readNumber l dC dI Y g a Z_v Z_m Z_ml Z_n Z_f S_position S_count S_cm S_arguments S_argumentCount H.size r2 w3 w4 w5 hr6) (cwV 0 hts gX7_readPart_X7_readNumber rfl rfl rfl (by decide +kernel) ⟨Nat.le_of_ble_eq_true rfl, Nat.le_of_ble_eq_true rfl⟩) ⟨wk_ETb, (va_recv hK hP (ci := 7) (q0 := 0) rfl rfl), wk_ETp hK hPc hDc hT hS hFc⟩ rfl rfl hl.1 rfl (lv_room (Nat.le_of_ble_eq_true rfl)) dX7_readPart_45 ⟨Nat.le_of_ble_eq_true rfl, Nat.le_of_ble_eq_true rfl⟩) hP hD hS [0, 1, 2, 3, 4] [] rfl rfl (by decide) (by decide) (by decide) hFc (fun u7 H locs hP hD hS => ?_)
    have hP : va_P (dC, dI) vwCl [(a 0, .inr (7, [.ref (a 1), .int w3, .int S_count, .ref (a 2), .ref (a 3), .int w5])), (a 1, .inr (1, [.ref Z_v, .int 0, .int Z_ml, .int Z_n])), (Z_v, .inl (Y 1, Z_m, .inl Z_f)), (a 2, .inl (Y 4, 12, .inr (.inr (.inr (.inr (wk_cm g S_cm)))))), (a 3, .inl (Y 0, 48, .inl w4))] H := hP
    have hD : va_D A [(a 0, .inr (7, [.ref (a 1), .int w3, .int S_count, .ref (a 2), .ref (a 3), .int w5])), (a 1, .inr (1, [.ref Z_v, .int 0, .int Z_ml, .int Z_n])), (Z_v, .inl (Y 1, Z_m, .inl Z_f)), (a 2, .inl (Y 4, 12, .inr (.inr (.inr (.inr (wk_cm g S_cm)))))), (a 3, .inl (Y 0, 48, .inl w4))] := hD
    obtain ⟨h01, hf⟩ := gbo_s hf
    obtain ⟨e0, e1, e2, e3⟩ := wke4 hf
    subst e0
    subst e1
    subst e2
    subst e3
    have hP9 := hP.sub (ws' := (wX7 Y a g Z_v Z_m Z_ml Z_n Z_f w3 S_count S_cm w4 w5)) [0, 1, 2, 3, 4] rfl
    have hD9 := hD.sub (ws' := (wX7 Y a g Z_v Z_m Z_ml Z_n Z_f w3 S_count S_cm w4 w5)) [0, 1, 2, 3, 4] (by decide) rfl
    exact W.zret (v := r2) (ty := .boolean) hx hb hr (gbo_n h01) (fun t ht hW => ⟨⟨r2, Z_v, rfl, rfl, by rw [ht]; exact hP9, va_K.moved hW.alike hK, hD9⟩, hS.F ht⟩) hS.2.2 dX7_readPart_48
  · have hf := wk_f hf q1
    by_cases q8 : x1 = 42
    · have hf := wk_t hf q8
      refine lv_lookup (off := 53) (tgt := 54) hx hb dX7_readPart_1 (by decide) (by rw [q8]; decide) (by decide) ?_
      refine lv_aload_n hx hb dX7_readPart_54 rfl (lv_at hl 0 rfl) ?_
      obtain ⟨r9, w10, w11, w12, hr13, hf⟩ := wkb4_s hf
      have hPc := hP.sub (ws' := (wX7 Y a g Z_v Z_m Z_ml Z_n Z_f S_position S_count S_cm S_arguments S_argumentCount)) [0, 1, 2, 3, 4] rfl
      have hDc := hD.sub (ws' := (wX7 Y a g Z_v Z_m Z_ml Z_n Z_f S_position S_count S_cm S_arguments S_argumentCount)) [0, 1, 2, 3, 4] (by decide) rfl
      have hFc := va_free (wc := (wX7 Y a g Z_v Z_m Z_ml Z_n Z_f S_position S_count S_cm S_arguments S_argumentCount)) hD hS hA [0, 1, 2, 3, 4] rfl
      refine wg_ei (wc := (wX7 Y a g Z_v Z_m Z_ml Z_n Z_f S_position S_count S_cm S_arguments S_argumentCount)) (w1 := fun (_ : Nat) => (wX7 Y a g Z_v Z_m Z_ml Z_n Z_f w10 S_count S_cm w11 w12)) (wr := []) (va_runV (As := []) (rest := []) ⟨hx, hb, hml, hown, hts⟩ (c_X7_readRisingDigits l dC dI Y g a Z_v Z_m Z_ml Z_n Z_f S_position S_count S_cm S_arguments S_argumentCount H.size r9 w10 w11 w12 hr13) (cwV 0 hts gX7_readPart_X7_readRisingDigits rfl rfl rfl (by decide +kernel) ⟨Nat.le_of_ble_eq_true rfl, Nat.le_of_ble_eq_true rfl⟩) ⟨wk_ETb, (va_recv hK hP (ci := 7) (q0 := 0) rfl rfl), wk_ETp hK hPc hDc hT hS hFc⟩ rfl rfl hl.1 rfl (lv_room (Nat.le_of_ble_eq_true rfl)) dX7_readPart_55 ⟨Nat.le_of_ble_eq_true rfl, Nat.le_of_ble_eq_true rfl⟩) hP hD hS [0, 1, 2, 3, 4] [] rfl rfl (by decide) (by decide) (by decide) hFc (fun u14 H locs hP hD hS => ?_)
      have hP : va_P (dC, dI) vwCl [(a 0, .inr (7, [.ref (a 1), .int w10, .int S_count, .ref (a 2), .ref (a 3), .int w12])), (a 1, .inr (1, [.ref Z_v, .int 0, .int Z_ml, .int Z_n])), (Z_v, .inl (Y 1, Z_m, .inl Z_f)), (a 2, .inl (Y 4, 12, .inr (.inr (.inr (.inr (wk_cm g S_cm)))))), (a 3, .inl (Y 0, 48, .inl w11))] H := hP
      have hD : va_D A [(a 0, .inr (7, [.ref (a 1), .int w10, .int S_count, .ref (a 2), .ref (a 3), .int w12])), (a 1, .inr (1, [.ref Z_v, .int 0, .int Z_ml, .int Z_n])), (Z_v, .inl (Y 1, Z_m, .inl Z_f)), (a 2, .inl (Y 4, 12, .inr (.inr (.inr (.inr (wk_cm g S_cm)))))), (a 3, .inl (Y 0, 48, .inl w11))] := hD
      obtain ⟨h01, hf⟩ := gbo_s hf
      obtain ⟨e0, e1, e2, e3⟩ := wke4 hf
      subst e0
      subst e1
      subst e2
      subst e3
      have hP9 := hP.sub (ws' := (wX7 Y a g Z_v Z_m Z_ml Z_n Z_f w10 S_count S_cm w11 w12)) [0, 1, 2, 3, 4] rfl
      have hD9 := hD.sub (ws' := (wX7 Y a g Z_v Z_m Z_ml Z_n Z_f w10 S_count S_cm w11 w12)) [0, 1, 2, 3, 4] (by decide) rfl
      exact W.zret (v := r9) (ty := .boolean) hx hb hr (gbo_n h01) (fun t ht hW => ⟨⟨r9, Z_v, rfl, rfl, by rw [ht]; exact hP9, va_K.moved hW.alike hK, hD9⟩, hS.F ht⟩) hS.2.2 dX7_readPart_58
    · have hf := wk_f hf q8
      by_cases q15 : x1 = 63
      · have hf := wk_t hf q15
        refine lv_lookup (off := 48) (tgt := 49) hx hb dX7_readPart_1 (by decide) (by rw [q15]; decide) (by decide) ?_
        refine lv_aload_n hx hb dX7_readPart_49 rfl (lv_at hl 0 rfl) ?_
        obtain ⟨r16, w17, w18, w19, hr20, hf⟩ := wkb4_s hf
        have hPc := hP.sub (ws' := (wX7 Y a g Z_v Z_m Z_ml Z_n Z_f S_position S_count S_cm S_arguments S_argumentCount)) [0, 1, 2, 3, 4] rfl
        have hDc := hD.sub (ws' := (wX7 Y a g Z_v Z_m Z_ml Z_n Z_f S_position S_count S_cm S_arguments S_argumentCount)) [0, 1, 2, 3, 4] (by decide) rfl
        have hFc := va_free (wc := (wX7 Y a g Z_v Z_m Z_ml Z_n Z_f S_position S_count S_cm S_arguments S_argumentCount)) hD hS hA [0, 1, 2, 3, 4] rfl
        refine wg_ei (wc := (wX7 Y a g Z_v Z_m Z_ml Z_n Z_f S_position S_count S_cm S_arguments S_argumentCount)) (w1 := fun (_ : Nat) => (wX7 Y a g Z_v Z_m Z_ml Z_n Z_f w17 S_count S_cm w18 w19)) (wr := []) (va_runV (As := []) (rest := []) ⟨hx, hb, hml, hown, hts⟩ (c_X7_readDigit l dC dI Y g a Z_v Z_m Z_ml Z_n Z_f S_position S_count S_cm S_arguments S_argumentCount H.size r16 w17 w18 w19 hr20) (cwV 0 hts gX7_readPart_X7_readDigit rfl rfl rfl (by decide +kernel) ⟨Nat.le_of_ble_eq_true rfl, Nat.le_of_ble_eq_true rfl⟩) ⟨wk_ETb, (va_recv hK hP (ci := 7) (q0 := 0) rfl rfl), wk_ETp hK hPc hDc hT hS hFc⟩ rfl rfl hl.1 rfl (lv_room (Nat.le_of_ble_eq_true rfl)) dX7_readPart_50 ⟨Nat.le_of_ble_eq_true rfl, Nat.le_of_ble_eq_true rfl⟩) hP hD hS [0, 1, 2, 3, 4] [] rfl rfl (by decide) (by decide) (by decide) hFc (fun u21 H locs hP hD hS => ?_)
        have hP : va_P (dC, dI) vwCl [(a 0, .inr (7, [.ref (a 1), .int w17, .int S_count, .ref (a 2), .ref (a 3), .int w19])), (a 1, .inr (1, [.ref Z_v, .int 0, .int Z_ml, .int Z_n])), (Z_v, .inl (Y 1, Z_m, .inl Z_f)), (a 2, .inl (Y 4, 12, .inr (.inr (.inr (.inr (wk_cm g S_cm)))))), (a 3, .inl (Y 0, 48, .inl w18))] H := hP
        have hD : va_D A [(a 0, .inr (7, [.ref (a 1), .int w17, .int S_count, .ref (a 2), .ref (a 3), .int w19])), (a 1, .inr (1, [.ref Z_v, .int 0, .int Z_ml, .int Z_n])), (Z_v, .inl (Y 1, Z_m, .inl Z_f)), (a 2, .inl (Y 4, 12, .inr (.inr (.inr (.inr (wk_cm g S_cm)))))), (a 3, .inl (Y 0, 48, .inl w18))] := hD
        obtain ⟨h01, hf⟩ := gbo_s hf
        obtain ⟨e0, e1, e2, e3⟩ := wke4 hf
        subst e0
        subst e1
        subst e2
        subst e3
        have hP9 := hP.sub (ws' := (wX7 Y a g Z_v Z_m Z_ml Z_n Z_f w17 S_count S_cm w18 w19)) [0, 1, 2, 3, 4] rfl
        have hD9 := hD.sub (ws' := (wX7 Y a g Z_v Z_m Z_ml Z_n Z_f w17 S_count S_cm w18 w19)) [0, 1, 2, 3, 4] (by decide) rfl
        exact W.zret (v := r16) (ty := .boolean) hx hb hr (gbo_n h01) (fun t ht hW => ⟨⟨r16, Z_v, rfl, rfl, by rw [ht]; exact hP9, va_K.moved hW.alike hK, hD9⟩, hS.F ht⟩) hS.2.2 dX7_readPart_53
      · have hf := wk_f hf q15
        by_cases q22 : x1 = 126
        · have hf := wk_t hf q22
          refine lv_lookup (off := 58) (tgt := 59) hx hb dX7_readPart_1 (by decide) (by rw [q22]; decide) (by decide) ?_
          refine lv_aload_n hx hb dX7_readPart_59 rfl (lv_at hl 0 rfl) ?_
          refine lv_bipush (v := 32) hx hb dX7_readPart_60 (by decide) ?_
          obtain ⟨r23, w24, hr25, hf⟩ := wkb2_s hf
          have hPc := hP.sub (ws' := (wX7 Y a g Z_v Z_m Z_ml Z_n Z_f S_position S_count S_cm S_arguments S_argumentCount)) [0, 1, 2, 3, 4] rfl
          have hDc := hD.sub (ws' := (wX7 Y a g Z_v Z_m Z_ml Z_n Z_f S_position S_count S_cm S_arguments S_argumentCount)) [0, 1, 2, 3, 4] (by decide) rfl
          have hFc := va_free (wc := (wX7 Y a g Z_v Z_m Z_ml Z_n Z_f S_position S_count S_cm S_arguments S_argumentCount)) hD hS hA [0, 1, 2, 3, 4] rfl
          refine wg_ei (wc := (wX7 Y a g Z_v Z_m Z_ml Z_n Z_f S_position S_count S_cm S_arguments S_argumentCount)) (w1 := fun (_ : Nat) => (wX7 Y a g Z_v Z_m Z_ml Z_n Z_f w24 S_count S_cm S_arguments S_argumentCount)) (wr := []) (va_runV (As := [.int 32]) (rest := []) ⟨hx, hb, hml, hown, hts⟩ (c_X7_readSign l dC dI Y g a Z_v Z_m Z_ml Z_n Z_f S_position S_count S_cm S_arguments S_argumentCount 32 H.size r23 w24 hr25) (cwV 1 hts gX7_readPart_X7_readSign rfl rfl rfl (by decide +kernel) ⟨Nat.le_of_ble_eq_true rfl, Nat.le_of_ble_eq_true rfl⟩) ⟨wk_ETb, (va_recv hK hP (ci := 7) (q0 := 0) rfl rfl), wk_ETp hK hPc hDc hT hS hFc⟩ rfl rfl hl.1 rfl (lv_room (Nat.le_of_ble_eq_true rfl)) dX7_readPart_62 ⟨Nat.le_of_ble_eq_true rfl, Nat.le_of_ble_eq_true rfl⟩) hP hD hS [0, 1, 2, 3, 4] [] rfl rfl (by decide) (by decide) (by decide) hFc (fun u26 H locs hP hD hS => ?_)
          have hP : va_P (dC, dI) vwCl [(a 0, .inr (7, [.ref (a 1), .int w24, .int S_count, .ref (a 2), .ref (a 3), .int S_argumentCount])), (a 1, .inr (1, [.ref Z_v, .int 0, .int Z_ml, .int Z_n])), (Z_v, .inl (Y 1, Z_m, .inl Z_f)), (a 2, .inl (Y 4, 12, .inr (.inr (.inr (.inr (wk_cm g S_cm)))))), (a 3, .inl (Y 0, 48, .inl S_arguments))] H := hP
          have hD : va_D A [(a 0, .inr (7, [.ref (a 1), .int w24, .int S_count, .ref (a 2), .ref (a 3), .int S_argumentCount])), (a 1, .inr (1, [.ref Z_v, .int 0, .int Z_ml, .int Z_n])), (Z_v, .inl (Y 1, Z_m, .inl Z_f)), (a 2, .inl (Y 4, 12, .inr (.inr (.inr (.inr (wk_cm g S_cm)))))), (a 3, .inl (Y 0, 48, .inl S_arguments))] := hD
          refine lv_if_eq (tgt := 73) hx hb dX7_readPart_65 (by decide) (fun q27 => ?_) (fun q27 => ?_)
          · have hf := wk_t hf q27
            refine lv_aload_n hx hb dX7_readPart_73 rfl (lv_at hl 0 rfl) ?_
            refine lv_iconst (v := 1) hx hb dX7_readPart_74 (by decide) ?_
            obtain ⟨w28, w29, hr30, hf⟩ := wkb2_s hf
            have hPc := hP.sub (ws' := (wX7 Y a g Z_v Z_m Z_ml Z_n Z_f w24 S_count S_cm S_arguments S_argumentCount)) [0, 1, 2, 3, 4] rfl
            have hDc := hD.sub (ws' := (wX7 Y a g Z_v Z_m Z_ml Z_n Z_f w24 S_count S_cm S_arguments S_argumentCount)) [0, 1, 2, 3, 4] (by decide) rfl
            have hFc := va_free (wc := (wX7 Y a g Z_v Z_m Z_ml Z_n Z_f w24 S_count S_cm S_arguments S_argumentCount)) hD hS hA [0, 1, 2, 3, 4] rfl
            refine wg_ev (wc := (wX7 Y a g Z_v Z_m Z_ml Z_n Z_f w24 S_count S_cm S_arguments S_argumentCount)) (w1 := fun (_ : Nat) => (wX7 Y a g Z_v Z_m Z_ml Z_n Z_f w24 S_count S_cm w28 w29)) (wr := []) (va_runV (As := [.int 1]) (rest := []) ⟨hx, hb, hml, hown, hts⟩ (c_X7_addArgument l dC dI Y g a Z_v Z_m Z_ml Z_n Z_f w24 S_count S_cm S_arguments S_argumentCount 1 H.size w28 w29 hr30) (cwV 1 hts gX7_readPart_X7_addArgument rfl rfl rfl (by decide +kernel) ⟨Nat.le_of_ble_eq_true rfl, Nat.le_of_ble_eq_true rfl⟩) ⟨wk_ETb, (va_recv hK hP (ci := 7) (q0 := 0) rfl rfl), wk_ETp hK hPc hDc hT hS hFc⟩ rfl rfl hl.1 rfl (lv_room (Nat.le_of_ble_eq_true rfl)) dX7_readPart_75 ⟨Nat.le_of_ble_eq_true rfl, Nat.le_of_ble_eq_true rfl⟩) hP hD hS [0, 1, 2, 3, 4] [] rfl rfl (by decide) (by decide) (by decide) hFc (fun u31 H locs hP hD hS => ?_)
            have hP : va_P (dC, dI) vwCl [(a 0, .inr (7, [.ref (a 1), .int w24, .int S_count, .ref (a 2), .ref (a 3), .int w29])), (a 1, .inr (1, [.ref Z_v, .int 0, .int Z_ml, .int Z_n])), (Z_v, .inl (Y 1, Z_m, .inl Z_f)), (a 2, .inl (Y 4, 12, .inr (.inr (.inr (.inr (wk_cm g S_cm)))))), (a 3, .inl (Y 0, 48, .inl w28))] H := hP
            have hD : va_D A [(a 0, .inr (7, [.ref (a 1), .int w24, .int S_count, .ref (a 2), .ref (a 3), .int w29])), (a 1, .inr (1, [.ref Z_v, .int 0, .int Z_ml, .int Z_n])), (Z_v, .inl (Y 1, Z_m, .inl Z_f)), (a 2, .inl (Y 4, 12, .inr (.inr (.inr (.inr (wk_cm g S_cm)))))), (a 3, .inl (Y 0, 48, .inl w28))] := hD
            refine lv_iconst (v := 1) hx hb dX7_readPart_78 (by decide) ?_
            obtain ⟨e0, e1, e2, e3⟩ := wke4 hf
            subst e0
            subst e1
            subst e2
            subst e3
            have hP9 := hP.sub (ws' := (wX7 Y a g Z_v Z_m Z_ml Z_n Z_f w24 S_count S_cm w28 w29)) [0, 1, 2, 3, 4] rfl
            have hD9 := hD.sub (ws' := (wX7 Y a g Z_v Z_m Z_ml Z_n Z_f w24 S_count S_cm w28 w29)) [0, 1, 2, 3, 4] (by decide) rfl
            exact W.zret (v := 1) (ty := .boolean) hx hb hr rfl (fun t ht hW => ⟨⟨1, Z_v, rfl, rfl, by rw [ht]; exact hP9, va_K.moved hW.alike hK, hD9⟩, hS.F ht⟩) hS.2.2 dX7_readPart_79
          · have hf := wk_f hf q27
            refine lv_aload_n hx hb dX7_readPart_68 rfl (lv_at hl 0 rfl) ?_
            obtain ⟨r32, w33, w34, w35, hr36, hf⟩ := wkb4_s hf
            have hPc := hP.sub (ws' := (wX7 Y a g Z_v Z_m Z_ml Z_n Z_f w24 S_count S_cm S_arguments S_argumentCount)) [0, 1, 2, 3, 4] rfl
            have hDc := hD.sub (ws' := (wX7 Y a g Z_v Z_m Z_ml Z_n Z_f w24 S_count S_cm S_arguments S_argumentCount)) [0, 1, 2, 3, 4] (by decide) rfl
            have hFc := va_free (wc := (wX7 Y a g Z_v Z_m Z_ml Z_n Z_f w24 S_count S_cm S_arguments S_argumentCount)) hD hS hA [0, 1, 2, 3, 4] rfl
            refine wg_ei (wc := (wX7 Y a g Z_v Z_m Z_ml Z_n Z_f w24 S_count S_cm S_arguments S_argumentCount)) (w1 := fun (_ : Nat) => (wX7 Y a g Z_v Z_m Z_ml Z_n Z_f w33 S_count S_cm w34 w35)) (wr := []) (va_runV (As := []) (rest := []) ⟨hx, hb, hml, hown, hts⟩ (c_X7_readNumber l dC dI Y g a Z_v Z_m Z_ml Z_n Z_f w24 S_count S_cm S_arguments S_argumentCount H.size r32 w33 w34 w35 hr36) (cwV 0 hts gX7_readPart_X7_readNumber rfl rfl rfl (by decide +kernel) ⟨Nat.le_of_ble_eq_true rfl, Nat.le_of_ble_eq_true rfl⟩) ⟨wk_ETb, (va_recv hK hP (ci := 7) (q0 := 0) rfl rfl), wk_ETp hK hPc hDc hT hS hFc⟩ rfl rfl hl.1 rfl (lv_room (Nat.le_of_ble_eq_true rfl)) dX7_readPart_69 ⟨Nat.le_of_ble_eq_true rfl, Nat.le_of_ble_eq_true rfl⟩) hP hD hS [0, 1, 2, 3, 4] [] rfl rfl (by decide) (by decide) (by decide) hFc (fun u37 H locs hP hD hS => ?_)
            have hP : va_P (dC, dI) vwCl [(a 0, .inr (7, [.ref (a 1), .int w33, .int S_count, .ref (a 2), .ref (a 3), .int w35])), (a 1, .inr (1, [.ref Z_v, .int 0, .int Z_ml, .int Z_n])), (Z_v, .inl (Y 1, Z_m, .inl Z_f)), (a 2, .inl (Y 4, 12, .inr (.inr (.inr (.inr (wk_cm g S_cm)))))), (a 3, .inl (Y 0, 48, .inl w34))] H := hP
            have hD : va_D A [(a 0, .inr (7, [.ref (a 1), .int w33, .int S_count, .ref (a 2), .ref (a 3), .int w35])), (a 1, .inr (1, [.ref Z_v, .int 0, .int Z_ml, .int Z_n])), (Z_v, .inl (Y 1, Z_m, .inl Z_f)), (a 2, .inl (Y 4, 12, .inr (.inr (.inr (.inr (wk_cm g S_cm)))))), (a 3, .inl (Y 0, 48, .inl w34))] := hD
            obtain ⟨h01, hf⟩ := gbo_s hf
            obtain ⟨e0, e1, e2, e3⟩ := wke4 hf
            subst e0
            subst e1
            subst e2
            subst e3
            have hP9 := hP.sub (ws' := (wX7 Y a g Z_v Z_m Z_ml Z_n Z_f w33 S_count S_cm w34 w35)) [0, 1, 2, 3, 4] rfl
            have hD9 := hD.sub (ws' := (wX7 Y a g Z_v Z_m Z_ml Z_n Z_f w33 S_count S_cm w34 w35)) [0, 1, 2, 3, 4] (by decide) rfl
            exact W.zret (v := r32) (ty := .boolean) hx hb hr (gbo_n h01) (fun t ht hW => ⟨⟨r32, Z_v, rfl, rfl, by rw [ht]; exact hP9, va_K.moved hW.alike hK, hD9⟩, hS.F ht⟩) hS.2.2 dX7_readPart_72
        · have hf := wk_f hf q22
          have z0 := wk_ne (k := 35) (by decide) q1
          have z1 := wk_ne (k := 42) (by decide) q8
          have z2 := wk_ne (k := 63) (by decide) q15
          have z3 := wk_ne (k := 126) (by decide) q22
          refine lv_lookup (off := 79) (tgt := 80) hx hb dX7_readPart_1 (by decide) (by show Op.lookupswitch.offset [(35, 43), (42, 53), (63, 48), (126, 58)] 79 _ = _; rw [Op.lookupswitch.offset_cons, if_neg (Ne.symm z0), Op.lookupswitch.offset_cons, if_neg (Ne.symm z1), Op.lookupswitch.offset_cons, if_neg (Ne.symm z2), Op.lookupswitch.offset_cons, if_neg (Ne.symm z3), Op.lookupswitch.offset_nil]) (by decide) ?_
          refine lv_aload_n hx hb dX7_readPart_80 rfl (lv_at hl 0 rfl) ?_
          refine lv_iload_n hx hb dX7_readPart_81 rfl (lv_at hl 1 rfl) ?_
          obtain ⟨r38, w39, hr40, hf⟩ := wkb2_s hf
          have hPc := hP.sub (ws' := (wX7 Y a g Z_v Z_m Z_ml Z_n Z_f S_position S_count S_cm S_arguments S_argumentCount)) [0, 1, 2, 3, 4] rfl
          have hDc := hD.sub (ws' := (wX7 Y a g Z_v Z_m Z_ml Z_n Z_f S_position S_count S_cm S_arguments S_argumentCount)) [0, 1, 2, 3, 4] (by decide) rfl
          have hFc := va_free (wc := (wX7 Y a g Z_v Z_m Z_ml Z_n Z_f S_position S_count S_cm S_arguments S_argumentCount)) hD hS hA [0, 1, 2, 3, 4] rfl
          refine wg_ei (wc := (wX7 Y a g Z_v Z_m Z_ml Z_n Z_f S_position S_count S_cm S_arguments S_argumentCount)) (w1 := fun (_ : Nat) => (wX7 Y a g Z_v Z_m Z_ml Z_n Z_f w39 S_count S_cm S_arguments S_argumentCount)) (wr := []) (va_runV (As := [.int x1]) (rest := []) ⟨hx, hb, hml, hown, hts⟩ (c_X7_readSign l dC dI Y g a Z_v Z_m Z_ml Z_n Z_f S_position S_count S_cm S_arguments S_argumentCount x1 H.size r38 w39 hr40) (cwV 1 hts gX7_readPart_X7_readSign rfl rfl rfl (by decide +kernel) ⟨Nat.le_of_ble_eq_true rfl, Nat.le_of_ble_eq_true rfl⟩) ⟨wk_ETb, (va_recv hK hP (ci := 7) (q0 := 0) rfl rfl), wk_ETp hK hPc hDc hT hS hFc⟩ rfl rfl hl.1 rfl (lv_room (Nat.le_of_ble_eq_true rfl)) dX7_readPart_82 ⟨Nat.le_of_ble_eq_true rfl, Nat.le_of_ble_eq_true rfl⟩) hP hD hS [0, 1, 2, 3, 4] [] rfl rfl (by decide) (by decide) (by decide) hFc (fun u41 H locs hP hD hS => ?_)
          have hP : va_P (dC, dI) vwCl [(a 0, .inr (7, [.ref (a 1), .int w39, .int S_count, .ref (a 2), .ref (a 3), .int S_argumentCount])), (a 1, .inr (1, [.ref Z_v, .int 0, .int Z_ml, .int Z_n])), (Z_v, .inl (Y 1, Z_m, .inl Z_f)), (a 2, .inl (Y 4, 12, .inr (.inr (.inr (.inr (wk_cm g S_cm)))))), (a 3, .inl (Y 0, 48, .inl S_arguments))] H := hP
          have hD : va_D A [(a 0, .inr (7, [.ref (a 1), .int w39, .int S_count, .ref (a 2), .ref (a 3), .int S_argumentCount])), (a 1, .inr (1, [.ref Z_v, .int 0, .int Z_ml, .int Z_n])), (Z_v, .inl (Y 1, Z_m, .inl Z_f)), (a 2, .inl (Y 4, 12, .inr (.inr (.inr (.inr (wk_cm g S_cm)))))), (a 3, .inl (Y 0, 48, .inl S_arguments))] := hD
          obtain ⟨h01, hf⟩ := gbo_s hf
          obtain ⟨e0, e1, e2, e3⟩ := wke4 hf
          subst e0
          subst e1
          subst e2
          subst e3
          have hP9 := hP.sub (ws' := (wX7 Y a g Z_v Z_m Z_ml Z_n Z_f w39 S_count S_cm S_arguments S_argumentCount)) [0, 1, 2, 3, 4] rfl
          have hD9 := hD.sub (ws' := (wX7 Y a g Z_v Z_m Z_ml Z_n Z_f w39 S_count S_cm S_arguments S_argumentCount)) [0, 1, 2, 3, 4] (by decide) rfl
          exact W.zret (v := r38) (ty := .boolean) hx hb hr (gbo_n h01) (fun t ht hW => ⟨⟨r38, Z_v, rfl, rfl, by rw [ht]; exact hP9, va_K.moved hW.alike hK, hD9⟩, hS.F ht⟩) hS.2.2 dX7_readPart_85
def f_X7_readForm_L2 (Z_m : Nat) (Z_n : Int32) (Z_f : Nat → Int32) (S_count : Int32) (x1 : Nat) : Nat → Int32 → Int32 → (Nat → Int32) → Int32 → Option (Int32 × Int32 × (Nat → Int32) × Int32)
  | 0, _, _, _, _ => none
  | nn + 1, x2, S_position, S_arguments, S_argumentCount =>
    gok (x1 < 16) (wkb1 (f_J0_length_8abf5 x1) (fun r2 =>
    if r2 ≤ x2 then
      (some (1, S_position, S_arguments, S_argumentCount))
    else
      (gok (x1 < 16) (wkb1 (f_J0_charAt_5068e x1 x2) (fun r6 =>
      wkb4 (f_X7_readPart Z_m Z_n Z_f S_position S_count S_arguments S_argumentCount r6) (fun r8 w9 w10 w11 =>
      if r8 = 0 then
        (some (0, w9, w10, w11))
      else
        (f_X7_readForm_L2 Z_m Z_n Z_f S_count x1 nn (x2 + 1) w9 w10 w11)))))))
def f_X7_readForm (Z_m : Nat) (Z_n : Int32) (Z_f : Nat → Int32) (S_position : Int32) (S_count : Int32) (S_arguments : Nat → Int32) (S_argumentCount : Int32) (x1 : Nat) : Option (Int32 × Int32 × (Nat → Int32) × Int32) :=
  f_X7_readForm_L2 Z_m Z_n Z_f S_count x1 FU 0 S_position S_arguments S_argumentCount
set_option maxHeartbeats 4000000 in
set_option maxRecDepth 100000 in
theorem wl_X7_readForm_L2 {p : Program} {l : Launch} {e : Env} {s : State} {m : MethodId} {args : Array Value} {below : List Frame} {meth : Method} {c : Code} {dC : Nat → ClassId} {dI : Nat → Nat → Nat} {Y : Nat → ClassId} {a : Nat → Nat} {g : Nat → Nat → Nat} {Z_v : Nat} {Z_m : Nat} {Z_ml : Int32} {Z_n : Int32} {Z_f : Nat → Int32} {S_count : Int32} {S_cm : Nat → Option Nat} {x1 : Nat} {r : Int32} {zS_position : Int32} {zS_arguments : Nat → Int32} {zS_argumentCount : Int32}  (C0 : wk_C p s m args meth c cX7_readForm 3 (some .boolean) wsX7_readForm RX7) {A : Nat → Prop} (hK : va_K (dC, dI) vwCl (vTy Y) s) (hA : ∀ q, s.heap.size ≤ q → A q) (hT : wk_T g A s s.heap) : ∀ (nn : Nat) (x2 : Int32)  (S_position : Int32) (S_arguments : Nat → Int32) (S_argumentCount : Int32), f_X7_readForm_L2 Z_m Z_n Z_f S_count x1 nn x2 S_position S_arguments S_argumentCount = some (r, zS_position, zS_arguments, zS_argumentCount) → ∀ (H : Heap) (locs : List Loc), va_P (dC, dI) vwCl (wX7 Y a g Z_v Z_m Z_ml Z_n Z_f S_position S_count S_cm S_arguments S_argumentCount) H → va_D A (wX7 Y a g Z_v Z_m Z_ml Z_n Z_f S_position S_count S_cm S_arguments S_argumentCount) → va_S A s.heap H locs → ∀ (ls : Array Slot), lv_has ls 3 [(0, .ref (a 0)), (1, .ref (g 2 x1)), (2, .int x2)] → W p l e (headSpec wsX7_readForm ({ frames := 7, cells := 0, slots := 0, locals := 153 } : Room)).room s m args below meth c H locs 0 0 (MQ below (va_Qi (fun r2 (_ : Nat) => r2 = r) (fun u9 t => wk_X (dC, dI) Y (wX7 Y a g Z_v Z_m Z_ml Z_n Z_f zS_position S_count S_cm zS_arguments zS_argumentCount) A t) A) args s 0 0 A) (F0 m 2 ls []) := by
  have C0 := C0
  obtain ⟨hx, hb, hml, hr, hlocks, hown, hts⟩ := id C0
  intro nn
  induction nn with
  | zero =>
    intro x2 S_position S_arguments S_argumentCount hf
    rw [f_X7_readForm_L2] at hf
    cases hf
  | succ nn ih =>
    intro x2 S_position S_arguments S_argumentCount hf H locs hP hD hS ls hl
    rw [f_X7_readForm_L2] at hf
    have hP : va_P (dC, dI) vwCl [(a 0, .inr (7, [.ref (a 1), .int S_position, .int S_count, .ref (a 2), .ref (a 3), .int S_argumentCount])), (a 1, .inr (1, [.ref Z_v, .int 0, .int Z_ml, .int Z_n])), (Z_v, .inl (Y 1, Z_m, .inl Z_f)), (a 2, .inl (Y 4, 12, .inr (.inr (.inr (.inr (wk_cm g S_cm)))))), (a 3, .inl (Y 0, 48, .inl S_arguments))] H := hP
    have hD : va_D A [(a 0, .inr (7, [.ref (a 1), .int S_position, .int S_count, .ref (a 2), .ref (a 3), .int S_argumentCount])), (a 1, .inr (1, [.ref Z_v, .int 0, .int Z_ml, .int Z_n])), (Z_v, .inl (Y 1, Z_m, .inl Z_f)), (a 2, .inl (Y 4, 12, .inr (.inr (.inr (.inr (wk_cm g S_cm)))))), (a 3, .inl (Y 0, 48, .inl S_arguments))] := hD
    refine lv_iload_n hx hb dX7_readForm_2 rfl (lv_at hl 2 rfl) ?_
    refine lv_aload_n hx hb dX7_readForm_3 rfl (lv_at hl 1 rfl) ?_
    obtain ⟨h1, hf⟩ := gok_s hf
    obtain ⟨r2, hr3, hf⟩ := wkb1_s hf
    have hPc := hP.sub (ws' := ([] : va_W)) [] rfl
    refine wk_viT (As := []) (rest := [.int x2]) ⟨hx, hb, hml, hown, hts⟩ (c_J0_length_8abf5 l dC dI Y g x1 r2 hr3) (cwV 0 hts gX7_readForm_J0_length_8abf5 rfl rfl rfl (by decide +kernel) ⟨Nat.le_of_ble_eq_true rfl, Nat.le_of_ble_eq_true rfl⟩) hK hPc hT hS (va_Orecv (hT.2.2.2.1 x1 h1).1 hS) rfl hl.1 rfl (Nat.le_of_ble_eq_true rfl) dX7_readForm_4 ⟨Nat.le_of_ble_eq_true rfl, Nat.le_of_ble_eq_true rfl⟩ ?_
    refine lv_icmp_ge (tgt := 30) hx hb dX7_readForm_7 (by decide) (fun q4 => ?_) (fun q4 => ?_)
    · have hf := wk_t hf q4
      refine lv_iconst (v := 1) hx hb dX7_readForm_30 (by decide) ?_
      obtain ⟨e0, e1, e2, e3⟩ := wke4 hf
      subst e0
      subst e1
      subst e2
      subst e3
      have hP9 := hP.sub (ws' := (wX7 Y a g Z_v Z_m Z_ml Z_n Z_f S_position S_count S_cm S_arguments S_argumentCount)) [0, 1, 2, 3, 4] rfl
      have hD9 := hD.sub (ws' := (wX7 Y a g Z_v Z_m Z_ml Z_n Z_f S_position S_count S_cm S_arguments S_argumentCount)) [0, 1, 2, 3, 4] (by decide) rfl
      exact W.zret (v := 1) (ty := .boolean) hx hb hr rfl (fun t ht hW => ⟨⟨1, Z_v, rfl, rfl, by rw [ht]; exact hP9, va_K.moved hW.alike hK, hD9⟩, hS.F ht⟩) hS.2.2 dX7_readForm_31
    · have hf := wk_f hf q4
      refine lv_aload_n hx hb dX7_readForm_10 rfl (lv_at hl 0 rfl) ?_
      refine lv_aload_n hx hb dX7_readForm_11 rfl (lv_at hl 1 rfl) ?_
      refine lv_iload_n hx hb dX7_readForm_12 rfl (lv_at hl 2 rfl) ?_
      obtain ⟨h5, hf⟩ := gok_s hf
      obtain ⟨r6, hr7, hf⟩ := wkb1_s hf
      have hPc := hP.sub (ws' := ([] : va_W)) [] rfl
      refine wk_viT (As := [.int x2]) (rest := [.ref (a 0)]) ⟨hx, hb, hml, hown, hts⟩ (c_J0_charAt_5068e l dC dI Y g x1 x2 r6 hr7) (cwV 1 hts gX7_readForm_J0_charAt_5068e rfl rfl rfl (by decide +kernel) ⟨Nat.le_of_ble_eq_true rfl, Nat.le_of_ble_eq_true rfl⟩) hK hPc hT hS (va_Orecv (hT.2.2.2.1 x1 h5).1 hS) rfl hl.1 rfl (Nat.le_of_ble_eq_true rfl) dX7_readForm_13 ⟨Nat.le_of_ble_eq_true rfl, Nat.le_of_ble_eq_true rfl⟩ ?_
      obtain ⟨r8, w9, w10, w11, hr12, hf⟩ := wkb4_s hf
      have hPc := hP.sub (ws' := (wX7 Y a g Z_v Z_m Z_ml Z_n Z_f S_position S_count S_cm S_arguments S_argumentCount)) [0, 1, 2, 3, 4] rfl
      have hDc := hD.sub (ws' := (wX7 Y a g Z_v Z_m Z_ml Z_n Z_f S_position S_count S_cm S_arguments S_argumentCount)) [0, 1, 2, 3, 4] (by decide) rfl
      have hFc := va_free (wc := (wX7 Y a g Z_v Z_m Z_ml Z_n Z_f S_position S_count S_cm S_arguments S_argumentCount)) hD hS hA [0, 1, 2, 3, 4] rfl
      refine wg_ei (wc := (wX7 Y a g Z_v Z_m Z_ml Z_n Z_f S_position S_count S_cm S_arguments S_argumentCount)) (w1 := fun (_ : Nat) => (wX7 Y a g Z_v Z_m Z_ml Z_n Z_f w9 S_count S_cm w10 w11)) (wr := []) (va_runV (As := [.int r6]) (rest := []) ⟨hx, hb, hml, hown, hts⟩ (c_X7_readPart l dC dI Y g a Z_v Z_m Z_ml Z_n Z_f S_position S_count S_cm S_arguments S_argumentCount r6 H.size r8 w9 w10 w11 hr12) (cwV 1 hts gX7_readForm_X7_readPart rfl rfl rfl (by decide +kernel) ⟨Nat.le_of_ble_eq_true rfl, Nat.le_of_ble_eq_true rfl⟩) ⟨wk_ETb, (va_recv hK hP (ci := 7) (q0 := 0) rfl rfl), wk_ETp hK hPc hDc hT hS hFc⟩ rfl rfl hl.1 rfl (lv_room (Nat.le_of_ble_eq_true rfl)) dX7_readForm_16 ⟨Nat.le_of_ble_eq_true rfl, Nat.le_of_ble_eq_true rfl⟩) hP hD hS [0, 1, 2, 3, 4] [] rfl rfl (by decide) (by decide) (by decide) hFc (fun u13 H locs hP hD hS => ?_)
      have hP : va_P (dC, dI) vwCl [(a 0, .inr (7, [.ref (a 1), .int w9, .int S_count, .ref (a 2), .ref (a 3), .int w11])), (a 1, .inr (1, [.ref Z_v, .int 0, .int Z_ml, .int Z_n])), (Z_v, .inl (Y 1, Z_m, .inl Z_f)), (a 2, .inl (Y 4, 12, .inr (.inr (.inr (.inr (wk_cm g S_cm)))))), (a 3, .inl (Y 0, 48, .inl w10))] H := hP
      have hD : va_D A [(a 0, .inr (7, [.ref (a 1), .int w9, .int S_count, .ref (a 2), .ref (a 3), .int w11])), (a 1, .inr (1, [.ref Z_v, .int 0, .int Z_ml, .int Z_n])), (Z_v, .inl (Y 1, Z_m, .inl Z_f)), (a 2, .inl (Y 4, 12, .inr (.inr (.inr (.inr (wk_cm g S_cm)))))), (a 3, .inl (Y 0, 48, .inl w10))] := hD
      refine lv_if_ne (tgt := 24) hx hb dX7_readForm_19 (by decide) (fun q14 => ?_) (fun q14 => ?_)
      · have hf := wk_f hf q14
        refine lv_iinc (v := (x2 + 1)) (lv' := [(2, .int (x2 + 1)), (0, .ref (a 0)), (1, .ref (g 2 x1))]) hx hb dX7_readForm_24 hl (k := 2) rfl rfl (by decide) rfl (fun ls hl => ?_)
        refine lv_goto (tgt := 2) hx hb dX7_readForm_27 (by decide) ?_
        exact ih (x2 + 1) w9 w10 w11 hf H locs hP hD hS ls (lv_sub hl [1, 2, 0] rfl)
      · have hf := wk_t hf q14
        refine lv_iconst (v := 0) hx hb dX7_readForm_22 (by decide) ?_
        obtain ⟨e0, e1, e2, e3⟩ := wke4 hf
        subst e0
        subst e1
        subst e2
        subst e3
        have hP9 := hP.sub (ws' := (wX7 Y a g Z_v Z_m Z_ml Z_n Z_f w9 S_count S_cm w10 w11)) [0, 1, 2, 3, 4] rfl
        have hD9 := hD.sub (ws' := (wX7 Y a g Z_v Z_m Z_ml Z_n Z_f w9 S_count S_cm w10 w11)) [0, 1, 2, 3, 4] (by decide) rfl
        exact W.zret (v := 0) (ty := .boolean) hx hb hr rfl (fun t ht hW => ⟨⟨0, Z_v, rfl, rfl, by rw [ht]; exact hP9, va_K.moved hW.alike hK, hD9⟩, hS.F ht⟩) hS.2.2 dX7_readForm_23
set_option maxHeartbeats 4000000 in
set_option maxRecDepth 100000 in
theorem c_X7_readForm (l : Launch) (dC : Nat → ClassId) (dI : Nat → Nat → Nat) (Y : Nat → ClassId) (g : Nat → Nat → Nat) (a : Nat → Nat) (Z_v : Nat) (Z_m : Nat) (Z_ml : Int32) (Z_n : Int32) (Z_f : Nat → Int32) (S_position : Int32) (S_count : Int32) (S_cm : Nat → Option Nat) (S_arguments : Nat → Int32) (S_argumentCount : Int32) (x1 : Nat) (sz : Nat) (r : Int32) (zS_position : Int32) (zS_arguments : Nat → Int32) (zS_argumentCount : Int32) (hf : f_X7_readForm Z_m Z_n Z_f S_position S_count S_arguments S_argumentCount x1 = some (r, zS_position, zS_arguments, zS_argumentCount)) : Met l yX7_readForm wsX7_readForm ({ frames := 7, cells := 0, slots := 0, locals := 153 } : Room) (va_Pc [.ref (a 0), .ref (g 2 x1)] (wk_ET (dC, dI) Y g (wX7 Y a g Z_v Z_m Z_ml Z_n Z_f S_position S_count S_cm S_arguments S_argumentCount) sz)) (va_Qi (fun r2 (_ : Nat) => r2 = r) (fun u9 t => wk_X (dC, dI) Y (wX7 Y a g Z_v Z_m Z_ml Z_n Z_f zS_position S_count S_cm zS_arguments zS_argumentCount) (va_A (wX7 Y a g Z_v Z_m Z_ml Z_n Z_f S_position S_count S_cm S_arguments S_argumentCount) sz) t) (va_A (wX7 Y a g Z_v Z_m Z_ml Z_n Z_f S_position S_count S_cm S_arguments S_argumentCount) sz)) 0 0 (va_A (wX7 Y a g Z_v Z_m Z_ml Z_n Z_f S_position S_count S_cm S_arguments S_argumentCount) sz) := by
  refine Met.ofW (cc := cX7_readForm) (maxL := 3) (ret := (some .boolean)) (by decide) rfl ?_
  intro p e s m args below meth c s₁ B hml hv
  obtain ⟨rfl, ⟨hsz, hP, hK, hD0⟩, hT⟩ := hv
  have hx := B.exec
  have hb := B.bytes
  have hr := B.returns
  have hts := atoms_spec (ws := wsX7_readForm) B.pre
  have hown : s.vm.findClass RX7 = some m.cls := findClass_of_methodNamed B.named
  have hlocks := B.notSynchronized
  have C0 : wk_C p s m _ meth c cX7_readForm 3 (some .boolean) wsX7_readForm RX7 := ⟨hx, hb, hml, hr, hlocks, hown, hts⟩
  subst hsz
  have hD := hD0.self (sz := s.heap.size)
  generalize hAe : va_A (wX7 Y a g Z_v Z_m Z_ml Z_n Z_f S_position S_count S_cm S_arguments S_argumentCount) s.heap.size = A at hD hT ⊢
  have hA : ∀ q : Nat, s.heap.size ≤ q → A q := fun q h => by rw [← hAe]; exact Or.inr h
  have hS : va_S A s.heap s.heap [] := va_S.rf
  obtain ⟨H, hHe⟩ : ∃ H, H = s.heap := ⟨_, rfl⟩
  have hS : va_S A s.heap H [] := by rw [hHe]; exact hS
  have hP : va_P (dC, dI) vwCl [(a 0, .inr (7, [.ref (a 1), .int S_position, .int S_count, .ref (a 2), .ref (a 3), .int S_argumentCount])), (a 1, .inr (1, [.ref Z_v, .int 0, .int Z_ml, .int Z_n])), (Z_v, .inl (Y 1, Z_m, .inl Z_f)), (a 2, .inl (Y 4, 12, .inr (.inr (.inr (.inr (wk_cm g S_cm)))))), (a 3, .inl (Y 0, 48, .inl S_arguments))] H := by rw [hHe]; exact hP
  have hD : va_D A [(a 0, .inr (7, [.ref (a 1), .int S_position, .int S_count, .ref (a 2), .ref (a 3), .int S_argumentCount])), (a 1, .inr (1, [.ref Z_v, .int 0, .int Z_ml, .int Z_n])), (Z_v, .inl (Y 1, Z_m, .inl Z_f)), (a 2, .inl (Y 4, 12, .inr (.inr (.inr (.inr (wk_cm g S_cm)))))), (a 3, .inl (Y 0, 48, .inl S_arguments))] := hD
  obtain ⟨locs, hlo⟩ : ∃ locs : List Loc, locs = [] := ⟨_, rfl⟩
  have hS : va_S A s.heap H locs := by rw [hlo]; exact hS
  have hl := lv_entry ([.ref (a 0), .ref (g 2 x1)]) (n := 3) (Nat.le_of_ble_eq_true rfl)
  rw [lg_entry_eq]
  generalize (lg_sl ([.ref (a 0), .ref (g 2 x1)]) ++ List.replicate (3 - (lg_sl ([.ref (a 0), .ref (g 2 x1)])).length) Slot.unset).toArray = ls at hl ⊢
  have hl : lv_has ls 3 [(0, .ref (a 0)), (1, .ref (g 2 x1))] := hl
  refine wk_start hHe hlo ?_
  rw [f_X7_readForm] at hf
  refine lv_iconst (v := 0) hx hb dX7_readForm_0 (by decide) ?_
  refine lv_istore_n (lv' := [(2, .int 0), (0, .ref (a 0)), (1, .ref (g 2 x1))]) hx hb dX7_readForm_1 rfl hl (by decide) rfl (fun ls hl => ?_)
  exact wl_X7_readForm_L2 C0 hK hA hT FU 0 S_position S_arguments S_argumentCount hf H locs hP hD hS ls (lv_sub hl [1, 2, 0] rfl)
theorem lk_X7_readCommand_RX7_20 : Cond.fieldLink RX7 20 "CircusLedger$Script" "commands" "[LCircusLedger$Command;" ∈ wsX7_readCommand := by decide +kernel
theorem lk_X7_readCommand_RX7_118 : Cond.fieldLink RX7 118 "CircusLedger$Script" "position" "I" ∈ wsX7_readCommand := by decide +kernel
theorem lk_X7_readCommand_RX7_122 : Cond.fieldLink RX7 122 "CircusLedger$Script" "count" "I" ∈ wsX7_readCommand := by decide +kernel
theorem lk_X7_readCommand_RX7_133 : Cond.fieldLink RX7 133 "CircusLedger$Script" "ALL" "[LCircusLedger$Command;" ∈ wsX7_readCommand := by decide +kernel
theorem lk_X7_readCommand_RX7_136 : Cond.fieldLink RX7 136 "CircusLedger$Script" "argumentCount" "I" ∈ wsX7_readCommand := by decide +kernel
theorem lk_X7_readCommand_RX7_139 : Cond.fieldLink RX7 139 "CircusLedger$Command" "form" "Ljava/lang/String;" ∈ wsX7_readCommand := by decide +kernel
theorem mx_X7_readCommand_RX7_147 : Cond.methodLink RX7 147 Lib.Math.max.name ∈ wsX7_readCommand ∧ Cond.static Lib.Math.max.name ∈ wsX7_readCommand ∧ Cond.initialized "java/lang/Math" ∈ wsX7_readCommand ∧ Cond.code Lib.Math.max.name Lib.Math.max.code 2 (some .int) ∈ wsX7_readCommand := ⟨by decide +kernel, by decide +kernel, by decide +kernel, by decide +kernel⟩
theorem in_X7_readCommand_X7 : ∀ w ∈ u_ws RX7 TX7 6, w ∈ wsX7_readCommand := by decide +kernel
def f_X7_readCommand_L18 (Z_m : Nat) (Z_n : Int32) (Z_f : Nat → Int32) : Nat → Int32 → Int32 → Int32 → Int32 → Int32 → Int32 → (Nat → Option Nat) → (Nat → Int32) → Int32 → Option (Int32 × Int32 × Int32 × (Nat → Option Nat) × (Nat → Int32) × Int32)
  | 0, _, _, _, _, _, _, _, _, _ => none
  | nn + 1, x1, x2, x4, x5, S_position, S_count, S_cm, S_arguments, S_argumentCount =>
    if x4 ≤ x5 then
      (some (0, x2, S_count, S_cm, S_arguments, S_argumentCount))
    else
      (gin x5 8 (gok (x5.toNatClampNeg < 8) (wkb4 (f_X7_readForm Z_m Z_n Z_f x1 S_count S_arguments 0 x5.toNatClampNeg) (fun r4 w5 w6 w7 =>
      if r4 = 0 then
        (f_X7_readCommand_L18 Z_m Z_n Z_f nn x1 (if x2 < w5 then w5 else x2) x4 (x5 + 1) w5 S_count S_cm w6 w7)
      else
        (gok (x5.toNatClampNeg < 8) (gin S_count 12 (wkl (va_up S_cm S_count.toNatClampNeg (some x5.toNatClampNeg)) (fun g13 =>
        wkl ((S_count + 1)) (fun v14 =>
        some (1, w5, v14, g13, w6, w7))))))))))
def f_X7_readCommand (Z_m : Nat) (Z_n : Int32) (Z_f : Nat → Int32) (S_position : Int32) (S_count : Int32) (S_cm : Nat → Option Nat) (S_arguments : Nat → Int32) (S_argumentCount : Int32) : Option (Int32 × Int32 × Int32 × (Nat → Option Nat) × (Nat → Int32) × Int32) :=
  f_X7_readCommand_L18 Z_m Z_n Z_f FU S_position S_position 8 0 S_position S_count S_cm S_arguments S_argumentCount
set_option maxHeartbeats 4000000 in
set_option maxRecDepth 100000 in
theorem wl_X7_readCommand_L18 {p : Program} {l : Launch} {e : Env} {s : State} {m : MethodId} {args : Array Value} {below : List Frame} {meth : Method} {c : Code} {dC : Nat → ClassId} {dI : Nat → Nat → Nat} {Y : Nat → ClassId} {a : Nat → Nat} {g : Nat → Nat → Nat} {Z_v : Nat} {Z_m : Nat} {Z_ml : Int32} {Z_n : Int32} {Z_f : Nat → Int32}  {r : Int32} {zS_position : Int32} {zS_count : Int32} {zS_cm : Nat → Option Nat} {zS_arguments : Nat → Int32} {zS_argumentCount : Int32}  (C0 : wk_C p s m args meth c cX7_readCommand 7 (some .boolean) wsX7_readCommand RX7) {A : Nat → Prop} (hK : va_K (dC, dI) vwCl (vTy Y) s) (hA : ∀ q, s.heap.size ≤ q → A q) (hT : wk_T g A s s.heap) : ∀ (nn : Nat) (x1 : Int32) (x2 : Int32) (x4 : Int32) (x5 : Int32)  (S_position : Int32) (S_count : Int32) (S_cm : Nat → Option Nat) (S_arguments : Nat → Int32) (S_argumentCount : Int32), f_X7_readCommand_L18 Z_m Z_n Z_f nn x1 x2 x4 x5 S_position S_count S_cm S_arguments S_argumentCount = some (r, zS_position, zS_count, zS_cm, zS_arguments, zS_argumentCount) → ∀ (H : Heap) (locs : List Loc), va_P (dC, dI) vwCl (wX7 Y a g Z_v Z_m Z_ml Z_n Z_f S_position S_count S_cm S_arguments S_argumentCount) H → va_D A (wX7 Y a g Z_v Z_m Z_ml Z_n Z_f S_position S_count S_cm S_arguments S_argumentCount) → va_S A s.heap H locs → ∀ (ls : Array Slot), lv_has ls 7 [(0, .ref (a 0)), (1, .int x1), (2, .int x2), (3, .ref (g 4 1)), (4, .int x4), (5, .int x5)] → W p l e (headSpec wsX7_readCommand ({ frames := 8, cells := 0, slots := 0, locals := 175 } : Room)).room s m args below meth c H locs 0 0 (MQ below (va_Qi (fun r2 (_ : Nat) => r2 = r) (fun u9 t => wk_X (dC, dI) Y (wX7 Y a g Z_v Z_m Z_ml Z_n Z_f zS_position zS_count zS_cm zS_arguments zS_argumentCount) A t) A) args s 0 0 A) (F0 m 18 ls []) := by
  have C0 := C0
  obtain ⟨hx, hb, hml, hr, hlocks, hown, hts⟩ := id C0
  intro nn
  induction nn with
  | zero =>
    intro x1 x2 x4 x5 S_position S_count S_cm S_arguments S_argumentCount hf
    rw [f_X7_readCommand_L18] at hf
    cases hf
  | succ nn ih =>
    intro x1 x2 x4 x5 S_position S_count S_cm S_arguments S_argumentCount hf H locs hP hD hS ls hl
    rw [f_X7_readCommand_L18] at hf
    have hP : va_P (dC, dI) vwCl [(a 0, .inr (7, [.ref (a 1), .int S_position, .int S_count, .ref (a 2), .ref (a 3), .int S_argumentCount])), (a 1, .inr (1, [.ref Z_v, .int 0, .int Z_ml, .int Z_n])), (Z_v, .inl (Y 1, Z_m, .inl Z_f)), (a 2, .inl (Y 4, 12, .inr (.inr (.inr (.inr (wk_cm g S_cm)))))), (a 3, .inl (Y 0, 48, .inl S_arguments))] H := hP
    have hD : va_D A [(a 0, .inr (7, [.ref (a 1), .int S_position, .int S_count, .ref (a 2), .ref (a 3), .int S_argumentCount])), (a 1, .inr (1, [.ref Z_v, .int 0, .int Z_ml, .int Z_n])), (Z_v, .inl (Y 1, Z_m, .inl Z_f)), (a 2, .inl (Y 4, 12, .inr (.inr (.inr (.inr (wk_cm g S_cm)))))), (a 3, .inl (Y 0, 48, .inl S_arguments))] := hD
    refine lv_iload hx hb dX7_readCommand_18 (lv_at hl 5 rfl) ?_
    refine lv_iload hx hb dX7_readCommand_20 (lv_at hl 4 rfl) ?_
    refine lv_icmp_ge (tgt := 91) hx hb dX7_readCommand_22 (by decide) (fun q1 => ?_) (fun q1 => ?_)
    · have hf := wk_t hf q1
      refine lv_aload_n hx hb dX7_readCommand_91 rfl (lv_at hl 0 rfl) ?_
      refine lv_iload_n hx hb dX7_readCommand_92 rfl (lv_at hl 2 rfl) ?_
      refine va_put (D := (dC, dI)) (ci := 7) (v := .int x2) (ty := .int) (C := RX7) (T := TX7) (N := 6) hx hb hts in_X7_readCommand_X7 tyX7 tyX7_ok nmX7 hown hK hP hD hS 0 rfl rfl 1 (by decide) (hts _ lk_X7_readCommand_RX7_118) (fun _ h9 => h9) rfl (by decide +kernel) rfl rfl (Nat.le_of_ble_eq_true rfl) dX7_readCommand_93 (fun H locs hP hD hS => ?_)
      have hP : va_P (dC, dI) vwCl [(a 0, .inr (7, [.ref (a 1), .int x2, .int S_count, .ref (a 2), .ref (a 3), .int S_argumentCount])), (a 1, .inr (1, [.ref Z_v, .int 0, .int Z_ml, .int Z_n])), (Z_v, .inl (Y 1, Z_m, .inl Z_f)), (a 2, .inl (Y 4, 12, .inr (.inr (.inr (.inr (wk_cm g S_cm)))))), (a 3, .inl (Y 0, 48, .inl S_arguments))] H := hP
      have hD : va_D A [(a 0, .inr (7, [.ref (a 1), .int x2, .int S_count, .ref (a 2), .ref (a 3), .int S_argumentCount])), (a 1, .inr (1, [.ref Z_v, .int 0, .int Z_ml, .int Z_n])), (Z_v, .inl (Y 1, Z_m, .inl Z_f)), (a 2, .inl (Y 4, 12, .inr (.inr (.inr (.inr (wk_cm g S_cm)))))), (a 3, .inl (Y 0, 48, .inl S_arguments))] := hD
      refine lv_iconst (v := 0) hx hb dX7_readCommand_96 (by decide) ?_
      obtain ⟨e0, e1, e2, e3, e4, e5⟩ := wke6 hf
      subst e0
      subst e1
      subst e2
      subst e3
      subst e4
      subst e5
      have hP9 := hP.sub (ws' := (wX7 Y a g Z_v Z_m Z_ml Z_n Z_f x2 S_count S_cm S_arguments S_argumentCount)) [0, 1, 2, 3, 4] rfl
      have hD9 := hD.sub (ws' := (wX7 Y a g Z_v Z_m Z_ml Z_n Z_f x2 S_count S_cm S_arguments S_argumentCount)) [0, 1, 2, 3, 4] (by decide) rfl
      exact W.zret (v := 0) (ty := .boolean) hx hb hr rfl (fun t ht hW => ⟨⟨0, Z_v, rfl, rfl, by rw [ht]; exact hP9, va_K.moved hW.alike hK, hD9⟩, hS.F ht⟩) hS.2.2 dX7_readCommand_97
    · have hf := wk_f hf q1
      refine lv_aload_n hx hb dX7_readCommand_25 rfl (lv_at hl 3 rfl) ?_
      refine lv_iload hx hb dX7_readCommand_26 (lv_at hl 5 rfl) ?_
      obtain ⟨h2, hf⟩ := gin_s hf
      refine vb_tq hx hb hT.2.2.2.2.2.2.2.1 hS h2 rfl dX7_readCommand_28 ?_
      refine lv_astore (lv' := [(6, .ref (g 1 x5.toNatClampNeg)), (0, .ref (a 0)), (1, .int x1), (2, .int x2), (3, .ref (g 4 1)), (4, .int x4), (5, .int x5)]) hx hb dX7_readCommand_29 hl (by decide) rfl (fun ls hl => ?_)
      refine lv_aload_n hx hb dX7_readCommand_31 rfl (lv_at hl 1 rfl) ?_
      refine lv_iload_n hx hb dX7_readCommand_32 rfl (lv_at hl 2 rfl) ?_
      refine va_put (D := (dC, dI)) (ci := 7) (v := .int x1) (ty := .int) (C := RX7) (T := TX7) (N := 6) hx hb hts in_X7_readCommand_X7 tyX7 tyX7_ok nmX7 hown hK hP hD hS 0 rfl rfl 1 (by decide) (hts _ lk_X7_readCommand_RX7_118) (fun _ h9 => h9) rfl (by decide +kernel) rfl rfl (Nat.le_of_ble_eq_true rfl) dX7_readCommand_33 (fun H locs hP hD hS => ?_)
      have hP : va_P (dC, dI) vwCl [(a 0, .inr (7, [.ref (a 1), .int x1, .int S_count, .ref (a 2), .ref (a 3), .int S_argumentCount])), (a 1, .inr (1, [.ref Z_v, .int 0, .int Z_ml, .int Z_n])), (Z_v, .inl (Y 1, Z_m, .inl Z_f)), (a 2, .inl (Y 4, 12, .inr (.inr (.inr (.inr (wk_cm g S_cm)))))), (a 3, .inl (Y 0, 48, .inl S_arguments))] H := hP
      have hD : va_D A [(a 0, .inr (7, [.ref (a 1), .int x1, .int S_count, .ref (a 2), .ref (a 3), .int S_argumentCount])), (a 1, .inr (1, [.ref Z_v, .int 0, .int Z_ml, .int Z_n])), (Z_v, .inl (Y 1, Z_m, .inl Z_f)), (a 2, .inl (Y 4, 12, .inr (.inr (.inr (.inr (wk_cm g S_cm)))))), (a 3, .inl (Y 0, 48, .inl S_arguments))] := hD
      refine lv_aload_n hx hb dX7_readCommand_36 rfl (lv_at hl 1 rfl) ?_
      refine lv_iconst (v := 0) hx hb dX7_readCommand_37 (by decide) ?_
      refine va_put (D := (dC, dI)) (ci := 7) (v := .int 0) (ty := .int) (C := RX7) (T := TX7) (N := 6) hx hb hts in_X7_readCommand_X7 tyX7 tyX7_ok nmX7 hown hK hP hD hS 0 rfl rfl 5 (by decide) (hts _ lk_X7_readCommand_RX7_136) (fun _ h9 => h9) rfl (by decide +kernel) rfl rfl (Nat.le_of_ble_eq_true rfl) dX7_readCommand_38 (fun H locs hP hD hS => ?_)
      have hP : va_P (dC, dI) vwCl [(a 0, .inr (7, [.ref (a 1), .int x1, .int S_count, .ref (a 2), .ref (a 3), .int 0])), (a 1, .inr (1, [.ref Z_v, .int 0, .int Z_ml, .int Z_n])), (Z_v, .inl (Y 1, Z_m, .inl Z_f)), (a 2, .inl (Y 4, 12, .inr (.inr (.inr (.inr (wk_cm g S_cm)))))), (a 3, .inl (Y 0, 48, .inl S_arguments))] H := hP
      have hD : va_D A [(a 0, .inr (7, [.ref (a 1), .int x1, .int S_count, .ref (a 2), .ref (a 3), .int 0])), (a 1, .inr (1, [.ref Z_v, .int 0, .int Z_ml, .int Z_n])), (Z_v, .inl (Y 1, Z_m, .inl Z_f)), (a 2, .inl (Y 4, 12, .inr (.inr (.inr (.inr (wk_cm g S_cm)))))), (a 3, .inl (Y 0, 48, .inl S_arguments))] := hD
      refine lv_aload_n hx hb dX7_readCommand_41 rfl (lv_at hl 1 rfl) ?_
      refine lv_aload hx hb dX7_readCommand_42 (lv_at hl 0 rfl) ?_
      obtain ⟨h3, hf⟩ := gok_s hf
      refine vk_getf hx hb (hT.2.2.1 x5.toNatClampNeg h3) hS hown (hts _ lk_X7_readCommand_RX7_139) (fun _ h9 => h9) dX7_readCommand_44 ?_
      obtain ⟨r4, w5, w6, w7, hr8, hf⟩ := wkb4_s hf
      have hPc := hP.sub (ws' := (wX7 Y a g Z_v Z_m Z_ml Z_n Z_f x1 S_count S_cm S_arguments 0)) [0, 1, 2, 3, 4] rfl
      have hDc := hD.sub (ws' := (wX7 Y a g Z_v Z_m Z_ml Z_n Z_f x1 S_count S_cm S_arguments 0)) [0, 1, 2, 3, 4] (by decide) rfl
      have hFc := va_free (wc := (wX7 Y a g Z_v Z_m Z_ml Z_n Z_f x1 S_count S_cm S_arguments 0)) hD hS hA [0, 1, 2, 3, 4] rfl
      refine wg_ei (wc := (wX7 Y a g Z_v Z_m Z_ml Z_n Z_f x1 S_count S_cm S_arguments 0)) (w1 := fun (_ : Nat) => (wX7 Y a g Z_v Z_m Z_ml Z_n Z_f w5 S_count S_cm w6 w7)) (wr := []) (va_runV (As := [.ref (g 2 x5.toNatClampNeg)]) (rest := []) ⟨hx, hb, hml, hown, hts⟩ (c_X7_readForm l dC dI Y g a Z_v Z_m Z_ml Z_n Z_f x1 S_count S_cm S_arguments 0 x5.toNatClampNeg H.size r4 w5 w6 w7 hr8) (cwV 1 hts gX7_readCommand_X7_readForm rfl rfl rfl (by decide +kernel) ⟨Nat.le_of_ble_eq_true rfl, Nat.le_of_ble_eq_true rfl⟩) ⟨wk_ETb, (va_recv hK hP (ci := 7) (q0 := 0) rfl rfl), wk_ETp hK hPc hDc hT hS hFc⟩ rfl rfl hl.1 rfl (lv_room (Nat.le_of_ble_eq_true rfl)) dX7_readCommand_47 ⟨Nat.le_of_ble_eq_true rfl, Nat.le_of_ble_eq_true rfl⟩) hP hD hS [0, 1, 2, 3, 4] [] rfl rfl (by decide) (by decide) (by decide) hFc (fun u9 H locs hP hD hS => ?_)
      have hP : va_P (dC, dI) vwCl [(a 0, .inr (7, [.ref (a 1), .int w5, .int S_count, .ref (a 2), .ref (a 3), .int w7])), (a 1, .inr (1, [.ref Z_v, .int 0, .int Z_ml, .int Z_n])), (Z_v, .inl (Y 1, Z_m, .inl Z_f)), (a 2, .inl (Y 4, 12, .inr (.inr (.inr (.inr (wk_cm g S_cm)))))), (a 3, .inl (Y 0, 48, .inl w6))] H := hP
      have hD : va_D A [(a 0, .inr (7, [.ref (a 1), .int w5, .int S_count, .ref (a 2), .ref (a 3), .int w7])), (a 1, .inr (1, [.ref Z_v, .int 0, .int Z_ml, .int Z_n])), (Z_v, .inl (Y 1, Z_m, .inl Z_f)), (a 2, .inl (Y 4, 12, .inr (.inr (.inr (.inr (wk_cm g S_cm)))))), (a 3, .inl (Y 0, 48, .inl w6))] := hD
      refine lv_if_eq (tgt := 76) hx hb dX7_readCommand_50 (by decide) (fun q10 => ?_) (fun q10 => ?_)
      · have hf := wk_t hf q10
        refine lv_iload_n hx hb dX7_readCommand_76 rfl (lv_at hl 3 rfl) ?_
        refine lv_aload_n hx hb dX7_readCommand_77 rfl (lv_at hl 1 rfl) ?_
        refine va_get (D := (dC, dI)) (ci := 7) (v := .int w5) (C := RX7) (T := TX7) (N := 6) hx hb hts in_X7_readCommand_X7 hown hK hP 0 rfl rfl 1 (by decide) (hts _ lk_X7_readCommand_RX7_118) (fun _ h9 => h9) rfl dX7_readCommand_78 ?_
        refine va_mmax hx hb (hml.trans hl.1.symm) hown (hts _ mx_X7_readCommand_RX7_147.1) (hts _ mx_X7_readCommand_RX7_147.2.1) (hts _ mx_X7_readCommand_RX7_147.2.2.1) (hts _ mx_X7_readCommand_RX7_147.2.2.2) (Nat.le_of_ble_eq_true rfl) (Nat.le_of_ble_eq_true rfl) (Nat.le_of_ble_eq_true rfl) (Nat.le_of_ble_eq_true rfl) dX7_readCommand_81 ?_
        refine lv_istore_n (lv' := [(2, .int (if x2 < w5 then w5 else x2)), (6, .ref (g 1 x5.toNatClampNeg)), (0, .ref (a 0)), (1, .int x1), (3, .ref (g 4 1)), (4, .int x4), (5, .int x5)]) hx hb dX7_readCommand_84 rfl hl (by decide) rfl (fun ls hl => ?_)
        refine lv_iinc (v := (x5 + 1)) (lv' := [(5, .int (x5 + 1)), (2, .int (if x2 < w5 then w5 else x2)), (6, .ref (g 1 x5.toNatClampNeg)), (0, .ref (a 0)), (1, .int x1), (3, .ref (g 4 1)), (4, .int x4)]) hx hb dX7_readCommand_85 hl (k := 6) rfl rfl (by decide) rfl (fun ls hl => ?_)
        refine lv_goto (tgt := 18) hx hb dX7_readCommand_88 (by decide) ?_
        exact ih x1 (if x2 < w5 then w5 else x2) x4 (x5 + 1) w5 S_count S_cm w6 w7 hf H locs hP hD hS ls (lv_sub hl [3, 4, 1, 5, 6, 0] rfl)
      · have hf := wk_f hf q10
        refine lv_aload_n hx hb dX7_readCommand_53 rfl (lv_at hl 1 rfl) ?_
        refine va_get (D := (dC, dI)) (ci := 7) (v := .ref (a 2)) (C := RX7) (T := TX7) (N := 6) hx hb hts in_X7_readCommand_X7 hown hK hP 0 rfl rfl 3 (by decide) (hts _ lk_X7_readCommand_RX7_20) (fun _ h9 => h9) rfl dX7_readCommand_54 ?_
        refine lv_aload_n hx hb dX7_readCommand_57 rfl (lv_at hl 1 rfl) ?_
        refine va_get (D := (dC, dI)) (ci := 7) (v := .int S_count) (C := RX7) (T := TX7) (N := 6) hx hb hts in_X7_readCommand_X7 hown hK hP 0 rfl rfl 2 (by decide) (hts _ lk_X7_readCommand_RX7_122) (fun _ h9 => h9) rfl dX7_readCommand_58 ?_
        refine lv_aload hx hb dX7_readCommand_61 (lv_at hl 0 rfl) ?_
        obtain ⟨h12, hf⟩ := gok_s hf
        obtain ⟨h11, hf⟩ := gin_s hf
        refine wk_aastc hx hb hT h12 hK hP hD hS 3 rfl h11 dX7_readCommand_63 (fun g13 H locs eg13 hP hD hS => ?_)
        have hP : va_P (dC, dI) vwCl [(a 0, .inr (7, [.ref (a 1), .int w5, .int S_count, .ref (a 2), .ref (a 3), .int w7])), (a 1, .inr (1, [.ref Z_v, .int 0, .int Z_ml, .int Z_n])), (Z_v, .inl (Y 1, Z_m, .inl Z_f)), (a 2, .inl (Y 4, 12, .inr (.inr (.inr (.inr (wk_cm g g13)))))), (a 3, .inl (Y 0, 48, .inl w6))] H := hP
        have hD : va_D A [(a 0, .inr (7, [.ref (a 1), .int w5, .int S_count, .ref (a 2), .ref (a 3), .int w7])), (a 1, .inr (1, [.ref Z_v, .int 0, .int Z_ml, .int Z_n])), (Z_v, .inl (Y 1, Z_m, .inl Z_f)), (a 2, .inl (Y 4, 12, .inr (.inr (.inr (.inr (wk_cm g g13)))))), (a 3, .inl (Y 0, 48, .inl w6))] := hD
        have hf := wkl_s hf eg13
        refine lv_aload_n hx hb dX7_readCommand_64 rfl (lv_at hl 1 rfl) ?_
        refine lv_dup hx hb dX7_readCommand_65 rfl ?_
        refine va_get (D := (dC, dI)) (ci := 7) (v := .int S_count) (C := RX7) (T := TX7) (N := 6) hx hb hts in_X7_readCommand_X7 hown hK hP 0 rfl rfl 2 (by decide) (hts _ lk_X7_readCommand_RX7_122) (fun _ h9 => h9) rfl dX7_readCommand_66 ?_
        refine lv_iconst (v := 1) hx hb dX7_readCommand_69 (by decide) ?_
        refine lv_iadd hx hb dX7_readCommand_70 ?_
        refine lv_topi (fun v14 ev14 => ?_)
        have hf := wkl_s hf ev14
        refine va_put (D := (dC, dI)) (ci := 7) (v := .int v14) (ty := .int) (C := RX7) (T := TX7) (N := 6) hx hb hts in_X7_readCommand_X7 tyX7 tyX7_ok nmX7 hown hK hP hD hS 0 rfl rfl 2 (by decide) (hts _ lk_X7_readCommand_RX7_122) (fun _ h9 => h9) rfl (by decide +kernel) rfl rfl (Nat.le_of_ble_eq_true rfl) dX7_readCommand_71 (fun H locs hP hD hS => ?_)
        have hP : va_P (dC, dI) vwCl [(a 0, .inr (7, [.ref (a 1), .int w5, .int v14, .ref (a 2), .ref (a 3), .int w7])), (a 1, .inr (1, [.ref Z_v, .int 0, .int Z_ml, .int Z_n])), (Z_v, .inl (Y 1, Z_m, .inl Z_f)), (a 2, .inl (Y 4, 12, .inr (.inr (.inr (.inr (wk_cm g g13)))))), (a 3, .inl (Y 0, 48, .inl w6))] H := hP
        have hD : va_D A [(a 0, .inr (7, [.ref (a 1), .int w5, .int v14, .ref (a 2), .ref (a 3), .int w7])), (a 1, .inr (1, [.ref Z_v, .int 0, .int Z_ml, .int Z_n])), (Z_v, .inl (Y 1, Z_m, .inl Z_f)), (a 2, .inl (Y 4, 12, .inr (.inr (.inr (.inr (wk_cm g g13)))))), (a 3, .inl (Y 0, 48, .inl w6))] := hD
        refine lv_iconst (v := 1) hx hb dX7_readCommand_74 (by decide) ?_
        obtain ⟨e0, e1, e2, e3, e4, e5⟩ := wke6 hf
        subst e0
        subst e1
        subst e2
        subst e3
        subst e4
        subst e5
        have hP9 := hP.sub (ws' := (wX7 Y a g Z_v Z_m Z_ml Z_n Z_f w5 v14 g13 w6 w7)) [0, 1, 2, 3, 4] rfl
        have hD9 := hD.sub (ws' := (wX7 Y a g Z_v Z_m Z_ml Z_n Z_f w5 v14 g13 w6 w7)) [0, 1, 2, 3, 4] (by decide) rfl
        exact W.zret (v := 1) (ty := .boolean) hx hb hr rfl (fun t ht hW => ⟨⟨1, Z_v, rfl, rfl, by rw [ht]; exact hP9, va_K.moved hW.alike hK, hD9⟩, hS.F ht⟩) hS.2.2 dX7_readCommand_75
set_option maxHeartbeats 4000000 in
set_option maxRecDepth 100000 in
theorem c_X7_readCommand (l : Launch) (dC : Nat → ClassId) (dI : Nat → Nat → Nat) (Y : Nat → ClassId) (g : Nat → Nat → Nat) (a : Nat → Nat) (Z_v : Nat) (Z_m : Nat) (Z_ml : Int32) (Z_n : Int32) (Z_f : Nat → Int32) (S_position : Int32) (S_count : Int32) (S_cm : Nat → Option Nat) (S_arguments : Nat → Int32) (S_argumentCount : Int32)  (sz : Nat) (r : Int32) (zS_position : Int32) (zS_count : Int32) (zS_cm : Nat → Option Nat) (zS_arguments : Nat → Int32) (zS_argumentCount : Int32) (hf : f_X7_readCommand Z_m Z_n Z_f S_position S_count S_cm S_arguments S_argumentCount = some (r, zS_position, zS_count, zS_cm, zS_arguments, zS_argumentCount)) : Met l yX7_readCommand wsX7_readCommand ({ frames := 8, cells := 0, slots := 0, locals := 175 } : Room) (va_Pc [.ref (a 0)] (wk_ET (dC, dI) Y g (wX7 Y a g Z_v Z_m Z_ml Z_n Z_f S_position S_count S_cm S_arguments S_argumentCount) sz)) (va_Qi (fun r2 (_ : Nat) => r2 = r) (fun u9 t => wk_X (dC, dI) Y (wX7 Y a g Z_v Z_m Z_ml Z_n Z_f zS_position zS_count zS_cm zS_arguments zS_argumentCount) (va_A (wX7 Y a g Z_v Z_m Z_ml Z_n Z_f S_position S_count S_cm S_arguments S_argumentCount) sz) t) (va_A (wX7 Y a g Z_v Z_m Z_ml Z_n Z_f S_position S_count S_cm S_arguments S_argumentCount) sz)) 0 0 (va_A (wX7 Y a g Z_v Z_m Z_ml Z_n Z_f S_position S_count S_cm S_arguments S_argumentCount) sz) := by
  refine Met.ofW (cc := cX7_readCommand) (maxL := 7) (ret := (some .boolean)) (by decide) rfl ?_
  intro p e s m args below meth c s₁ B hml hv
  obtain ⟨rfl, ⟨hsz, hP, hK, hD0⟩, hT⟩ := hv
  have hx := B.exec
  have hb := B.bytes
  have hr := B.returns
  have hts := atoms_spec (ws := wsX7_readCommand) B.pre
  have hown : s.vm.findClass RX7 = some m.cls := findClass_of_methodNamed B.named
  have hlocks := B.notSynchronized
  have C0 : wk_C p s m _ meth c cX7_readCommand 7 (some .boolean) wsX7_readCommand RX7 := ⟨hx, hb, hml, hr, hlocks, hown, hts⟩
  subst hsz
  have hD := hD0.self (sz := s.heap.size)
  generalize hAe : va_A (wX7 Y a g Z_v Z_m Z_ml Z_n Z_f S_position S_count S_cm S_arguments S_argumentCount) s.heap.size = A at hD hT ⊢
  have hA : ∀ q : Nat, s.heap.size ≤ q → A q := fun q h => by rw [← hAe]; exact Or.inr h
  have hS : va_S A s.heap s.heap [] := va_S.rf
  obtain ⟨H, hHe⟩ : ∃ H, H = s.heap := ⟨_, rfl⟩
  have hS : va_S A s.heap H [] := by rw [hHe]; exact hS
  have hP : va_P (dC, dI) vwCl [(a 0, .inr (7, [.ref (a 1), .int S_position, .int S_count, .ref (a 2), .ref (a 3), .int S_argumentCount])), (a 1, .inr (1, [.ref Z_v, .int 0, .int Z_ml, .int Z_n])), (Z_v, .inl (Y 1, Z_m, .inl Z_f)), (a 2, .inl (Y 4, 12, .inr (.inr (.inr (.inr (wk_cm g S_cm)))))), (a 3, .inl (Y 0, 48, .inl S_arguments))] H := by rw [hHe]; exact hP
  have hD : va_D A [(a 0, .inr (7, [.ref (a 1), .int S_position, .int S_count, .ref (a 2), .ref (a 3), .int S_argumentCount])), (a 1, .inr (1, [.ref Z_v, .int 0, .int Z_ml, .int Z_n])), (Z_v, .inl (Y 1, Z_m, .inl Z_f)), (a 2, .inl (Y 4, 12, .inr (.inr (.inr (.inr (wk_cm g S_cm)))))), (a 3, .inl (Y 0, 48, .inl S_arguments))] := hD
  obtain ⟨locs, hlo⟩ : ∃ locs : List Loc, locs = [] := ⟨_, rfl⟩
  have hS : va_S A s.heap H locs := by rw [hlo]; exact hS
  have hl := lv_entry ([.ref (a 0)]) (n := 7) (Nat.le_of_ble_eq_true rfl)
  rw [lg_entry_eq]
  generalize (lg_sl ([.ref (a 0)]) ++ List.replicate (7 - (lg_sl ([.ref (a 0)])).length) Slot.unset).toArray = ls at hl ⊢
  have hl : lv_has ls 7 [(0, .ref (a 0))] := hl
  refine wk_start hHe hlo ?_
  rw [f_X7_readCommand] at hf
  refine lv_aload_n hx hb dX7_readCommand_0 rfl (lv_at hl 0 rfl) ?_
  refine va_get (D := (dC, dI)) (ci := 7) (v := .int S_position) (C := RX7) (T := TX7) (N := 6) hx hb hts in_X7_readCommand_X7 hown hK hP 0 rfl rfl 1 (by decide) (hts _ lk_X7_readCommand_RX7_118) (fun _ h9 => h9) rfl dX7_readCommand_1 ?_
  refine lv_istore_n (lv' := [(1, .int S_position), (0, .ref (a 0))]) hx hb dX7_readCommand_4 rfl hl (by decide) rfl (fun ls hl => ?_)
  refine lv_iload_n hx hb dX7_readCommand_5 rfl (lv_at hl 0 rfl) ?_
  refine lv_istore_n (lv' := [(2, .int S_position), (1, .int S_position), (0, .ref (a 0))]) hx hb dX7_readCommand_6 rfl hl (by decide) rfl (fun ls hl => ?_)
  refine va_gets (v := .ref (g 4 1)) hx hb hT.2.2.2.2.2.2.1 hS hown (hts _ lk_X7_readCommand_RX7_133) (fun _ h9 => h9) dX7_readCommand_7 ?_
  refine lv_astore_n (lv' := [(3, .ref (g 4 1)), (2, .int S_position), (1, .int S_position), (0, .ref (a 0))]) hx hb dX7_readCommand_10 rfl hl (by decide) rfl (fun ls hl => ?_)
  refine lv_aload_n hx hb dX7_readCommand_11 rfl (lv_at hl 0 rfl) ?_
  refine va_tlen (v := 8) hx hb hT.2.2.2.2.2.2.2.1 hS (by decide) dX7_readCommand_12 ?_
  refine lv_istore (lv' := [(4, .int 8), (3, .ref (g 4 1)), (2, .int S_position), (1, .int S_position), (0, .ref (a 0))]) hx hb dX7_readCommand_13 hl (by decide) rfl (fun ls hl => ?_)
  refine lv_iconst (v := 0) hx hb dX7_readCommand_15 (by decide) ?_
  refine lv_istore (lv' := [(5, .int 0), (4, .int 8), (3, .ref (g 4 1)), (2, .int S_position), (1, .int S_position), (0, .ref (a 0))]) hx hb dX7_readCommand_16 hl (by decide) rfl (fun ls hl => ?_)
  exact wl_X7_readCommand_L18 C0 hK hA hT FU S_position S_position 8 0 S_position S_count S_cm S_arguments S_argumentCount hf H locs hP hD hS ls (lv_sub hl [5, 4, 3, 2, 1, 0] rfl)
theorem lk_X7_read_RX7_12 : Cond.fieldLink RX7 12 "CircusLedger$Script" "text" "Ljava/lang/StringBuilder;" ∈ wsX7_read := by decide +kernel
theorem lk_X7_read_RX7_118 : Cond.fieldLink RX7 118 "CircusLedger$Script" "position" "I" ∈ wsX7_read := by decide +kernel
theorem lk_X7_read_RX7_122 : Cond.fieldLink RX7 122 "CircusLedger$Script" "count" "I" ∈ wsX7_read := by decide +kernel
theorem in_X7_read_X7 : ∀ w ∈ u_ws RX7 TX7 6, w ∈ wsX7_read := by decide +kernel
def f_X7_read_L17 (Z_m : Nat) (Z_n : Int32) (Z_f : Nat → Int32) : Nat → Int32 → Int32 → Int32 → Int32 → (Nat → Option Nat) → (Nat → Int32) → Int32 → Option (Int32 × Int32 × Int32 × (Nat → Option Nat) × (Nat → Int32) × Int32)
  | 0, _, _, _, _, _, _, _ => none
  | nn + 1, x1, x2, S_position, S_count, S_cm, S_arguments, S_argumentCount =>
    if (12 : Int32) ≤ x2 then
      (if x1 = 0 then
        (some (S_position, S_position, S_count, S_cm, S_arguments, S_argumentCount))
      else
        (wkb1 (f_J4_length_8abf5 Z_n) (fun r3 =>
        if S_position = r3 then
          (some ((-1), S_position, S_count, S_cm, S_arguments, S_argumentCount))
        else
          (some (S_position, S_position, S_count, S_cm, S_arguments, S_argumentCount)))))
    else
      (if x1 = 0 then
        (if x1 = 0 then
          (some (S_position, S_position, S_count, S_cm, S_arguments, S_argumentCount))
        else
          (wkb1 (f_J4_length_8abf5 Z_n) (fun r8 =>
          if S_position = r8 then
            (some ((-1), S_position, S_count, S_cm, S_arguments, S_argumentCount))
          else
            (some (S_position, S_position, S_count, S_cm, S_arguments, S_argumentCount)))))
      else
        (wkb1 (f_J4_length_8abf5 Z_n) (fun r11 =>
        if r11 ≤ S_position then
          (if x1 = 0 then
            (some (S_position, S_position, S_count, S_cm, S_arguments, S_argumentCount))
          else
            (wkb1 (f_J4_length_8abf5 Z_n) (fun r15 =>
            if S_position = r15 then
              (some ((-1), S_position, S_count, S_cm, S_arguments, S_argumentCount))
            else
              (some (S_position, S_position, S_count, S_cm, S_arguments, S_argumentCount)))))
        else
          (wkb2 (f_X7_readSign Z_m Z_n Z_f S_position 59) (fun r18 w19 =>
          if r18 = 0 then
            (f_X7_read_L17 Z_m Z_n Z_f nn 0 (x2 + 1) w19 S_count S_cm S_arguments S_argumentCount)
          else
            (wkb6 (f_X7_readCommand Z_m Z_n Z_f w19 S_count S_cm S_arguments S_argumentCount) (fun r23 w24 w25 w26 w27 w28 =>
            if r23 = 0 then
              (f_X7_read_L17 Z_m Z_n Z_f nn 0 (x2 + 1) w24 w25 w26 w27 w28)
            else
              (f_X7_read_L17 Z_m Z_n Z_f nn 1 (x2 + 1) w24 w25 w26 w27 w28))))))))
def f_X7_read (Z_m : Nat) (Z_n : Int32) (Z_f : Nat → Int32) (S_position : Int32) (S_count : Int32) (S_cm : Nat → Option Nat) (S_arguments : Nat → Int32) (S_argumentCount : Int32) : Option (Int32 × Int32 × Int32 × (Nat → Option Nat) × (Nat → Int32) × Int32) :=
  wkb6 (f_X7_readCommand Z_m Z_n Z_f 0 0 S_cm S_arguments S_argumentCount) (fun r1 w2 w3 w4 w5 w6 =>
  f_X7_read_L17 Z_m Z_n Z_f FU r1 1 w2 w3 w4 w5 w6)
set_option maxHeartbeats 4000000 in
set_option maxRecDepth 100000 in
theorem wl_X7_read_L17 {p : Program} {l : Launch} {e : Env} {s : State} {m : MethodId} {args : Array Value} {below : List Frame} {meth : Method} {c : Code} {dC : Nat → ClassId} {dI : Nat → Nat → Nat} {Y : Nat → ClassId} {a : Nat → Nat} {g : Nat → Nat → Nat} {Z_v : Nat} {Z_m : Nat} {Z_ml : Int32} {Z_n : Int32} {Z_f : Nat → Int32}  {r : Int32} {zS_position : Int32} {zS_count : Int32} {zS_cm : Nat → Option Nat} {zS_arguments : Nat → Int32} {zS_argumentCount : Int32}  (C0 : wk_C p s m args meth c cX7_read 3 (some .int) wsX7_read RX7) {A : Nat → Prop} (hK : va_K (dC, dI) vwCl (vTy Y) s) (hA : ∀ q, s.heap.size ≤ q → A q) (hT : wk_T g A s s.heap) : ∀ (nn : Nat) (x1 : Int32) (x2 : Int32)  (S_position : Int32) (S_count : Int32) (S_cm : Nat → Option Nat) (S_arguments : Nat → Int32) (S_argumentCount : Int32), f_X7_read_L17 Z_m Z_n Z_f nn x1 x2 S_position S_count S_cm S_arguments S_argumentCount = some (r, zS_position, zS_count, zS_cm, zS_arguments, zS_argumentCount) → ∀ (H : Heap) (locs : List Loc), va_P (dC, dI) vwCl (wX7 Y a g Z_v Z_m Z_ml Z_n Z_f S_position S_count S_cm S_arguments S_argumentCount) H → va_D A (wX7 Y a g Z_v Z_m Z_ml Z_n Z_f S_position S_count S_cm S_arguments S_argumentCount) → va_S A s.heap H locs → ∀ (ls : Array Slot), lv_has ls 3 [(0, .ref (a 0)), (1, .int x1), (2, .int x2)] → W p l e (headSpec wsX7_read ({ frames := 9, cells := 0, slots := 0, locals := 201 } : Room)).room s m args below meth c H locs 0 0 (MQ below (va_Qi (fun r2 (_ : Nat) => r2 = r) (fun u9 t => wk_X (dC, dI) Y (wX7 Y a g Z_v Z_m Z_ml Z_n Z_f zS_position zS_count zS_cm zS_arguments zS_argumentCount) A t) A) args s 0 0 A) (F0 m 17 ls []) := by
  have C0 := C0
  obtain ⟨hx, hb, hml, hr, hlocks, hown, hts⟩ := id C0
  intro nn
  induction nn with
  | zero =>
    intro x1 x2 S_position S_count S_cm S_arguments S_argumentCount hf
    rw [f_X7_read_L17] at hf
    cases hf
  | succ nn ih =>
    intro x1 x2 S_position S_count S_cm S_arguments S_argumentCount hf H locs hP hD hS ls hl
    rw [f_X7_read_L17] at hf
    have hP : va_P (dC, dI) vwCl [(a 0, .inr (7, [.ref (a 1), .int S_position, .int S_count, .ref (a 2), .ref (a 3), .int S_argumentCount])), (a 1, .inr (1, [.ref Z_v, .int 0, .int Z_ml, .int Z_n])), (Z_v, .inl (Y 1, Z_m, .inl Z_f)), (a 2, .inl (Y 4, 12, .inr (.inr (.inr (.inr (wk_cm g S_cm)))))), (a 3, .inl (Y 0, 48, .inl S_arguments))] H := hP
    have hD : va_D A [(a 0, .inr (7, [.ref (a 1), .int S_position, .int S_count, .ref (a 2), .ref (a 3), .int S_argumentCount])), (a 1, .inr (1, [.ref Z_v, .int 0, .int Z_ml, .int Z_n])), (Z_v, .inl (Y 1, Z_m, .inl Z_f)), (a 2, .inl (Y 4, 12, .inr (.inr (.inr (.inr (wk_cm g S_cm)))))), (a 3, .inl (Y 0, 48, .inl S_arguments))] := hD
    refine lv_iload_n hx hb dX7_read_17 rfl (lv_at hl 2 rfl) ?_
    refine lv_bipush (v := 12) hx hb dX7_read_18 (by decide) ?_
    refine lv_icmp_ge (tgt := 69) hx hb dX7_read_20 (by decide) (fun q1 => ?_) (fun q1 => ?_)
    · have hf := wk_t hf q1
      refine lv_iload_n hx hb dX7_read_69 rfl (lv_at hl 1 rfl) ?_
      refine lv_if_eq (tgt := 91) hx hb dX7_read_70 (by decide) (fun q2 => ?_) (fun q2 => ?_)
      · have hf := wk_t hf q2
        refine lv_aload_n hx hb dX7_read_91 rfl (lv_at hl 0 rfl) ?_
        refine va_get (D := (dC, dI)) (ci := 7) (v := .int S_position) (C := RX7) (T := TX7) (N := 6) hx hb hts in_X7_read_X7 hown hK hP 0 rfl rfl 1 (by decide) (hts _ lk_X7_read_RX7_118) (fun _ h9 => h9) rfl dX7_read_92 ?_
        obtain ⟨e0, e1, e2, e3, e4, e5⟩ := wke6 hf
        subst e0
        subst e1
        subst e2
        subst e3
        subst e4
        subst e5
        have hP9 := hP.sub (ws' := (wX7 Y a g Z_v Z_m Z_ml Z_n Z_f S_position S_count S_cm S_arguments S_argumentCount)) [0, 1, 2, 3, 4] rfl
        have hD9 := hD.sub (ws' := (wX7 Y a g Z_v Z_m Z_ml Z_n Z_f S_position S_count S_cm S_arguments S_argumentCount)) [0, 1, 2, 3, 4] (by decide) rfl
        exact W.iret (v := S_position) hx hb hr (fun t ht hW => ⟨⟨S_position, Z_v, rfl, rfl, by rw [ht]; exact hP9, va_K.moved hW.alike hK, hD9⟩, hS.F ht⟩) hS.2.2 dX7_read_95
      · have hf := wk_f hf q2
        refine lv_aload_n hx hb dX7_read_73 rfl (lv_at hl 0 rfl) ?_
        refine va_get (D := (dC, dI)) (ci := 7) (v := .int S_position) (C := RX7) (T := TX7) (N := 6) hx hb hts in_X7_read_X7 hown hK hP 0 rfl rfl 1 (by decide) (hts _ lk_X7_read_RX7_118) (fun _ h9 => h9) rfl dX7_read_74 ?_
        refine lv_aload_n hx hb dX7_read_77 rfl (lv_at hl 0 rfl) ?_
        refine va_get (D := (dC, dI)) (ci := 7) (v := .ref (a 1)) (C := RX7) (T := TX7) (N := 6) hx hb hts in_X7_read_X7 hown hK hP 0 rfl rfl 0 (by decide) (hts _ lk_X7_read_RX7_12) (fun _ h9 => h9) rfl dX7_read_78 ?_
        obtain ⟨r3, hr4, hf⟩ := wkb1_s hf
        have hPc := hP.sub (ws' := (wJ4 Y (fun k => a (k + 1)) Z_v Z_m Z_ml Z_n Z_f)) [1, 2] rfl
        refine wk_vi (As := []) (rest := [.int S_position]) ⟨hx, hb, hml, hown, hts⟩ (c_J4_length_8abf5 l dC dI Y (fun k => a (k + 1)) Z_v Z_m Z_ml Z_n Z_f r3 hr4) (cwV 0 hts gX7_read_J4_length_8abf5 rfl rfl rfl (by decide +kernel) ⟨Nat.le_of_ble_eq_true rfl, Nat.le_of_ble_eq_true rfl⟩) hK hPc (va_recv hK hP (ci := 1) (q0 := 1) rfl rfl) rfl hl.1 rfl (Nat.le_of_ble_eq_true rfl) dX7_read_81 ⟨Nat.le_of_ble_eq_true rfl, Nat.le_of_ble_eq_true rfl⟩ ?_
        refine lv_icmp_ne (tgt := 91) hx hb dX7_read_84 (by decide) (fun q5 => ?_) (fun q5 => ?_)
        · have hf := wk_f hf q5
          refine lv_aload_n hx hb dX7_read_91 rfl (lv_at hl 0 rfl) ?_
          refine va_get (D := (dC, dI)) (ci := 7) (v := .int S_position) (C := RX7) (T := TX7) (N := 6) hx hb hts in_X7_read_X7 hown hK hP 0 rfl rfl 1 (by decide) (hts _ lk_X7_read_RX7_118) (fun _ h9 => h9) rfl dX7_read_92 ?_
          obtain ⟨e0, e1, e2, e3, e4, e5⟩ := wke6 hf
          subst e0
          subst e1
          subst e2
          subst e3
          subst e4
          subst e5
          have hP9 := hP.sub (ws' := (wX7 Y a g Z_v Z_m Z_ml Z_n Z_f S_position S_count S_cm S_arguments S_argumentCount)) [0, 1, 2, 3, 4] rfl
          have hD9 := hD.sub (ws' := (wX7 Y a g Z_v Z_m Z_ml Z_n Z_f S_position S_count S_cm S_arguments S_argumentCount)) [0, 1, 2, 3, 4] (by decide) rfl
          exact W.iret (v := S_position) hx hb hr (fun t ht hW => ⟨⟨S_position, Z_v, rfl, rfl, by rw [ht]; exact hP9, va_K.moved hW.alike hK, hD9⟩, hS.F ht⟩) hS.2.2 dX7_read_95
        · have hf := wk_t hf q5
          refine lv_iconst (v := (-1)) hx hb dX7_read_87 (by decide) ?_
          refine lv_goto (tgt := 95) hx hb dX7_read_88 (by decide) ?_
          obtain ⟨e0, e1, e2, e3, e4, e5⟩ := wke6 hf
          subst e0
          subst e1
          subst e2
          subst e3
          subst e4
          subst e5
          have hP9 := hP.sub (ws' := (wX7 Y a g Z_v Z_m Z_ml Z_n Z_f S_position S_count S_cm S_arguments S_argumentCount)) [0, 1, 2, 3, 4] rfl
          have hD9 := hD.sub (ws' := (wX7 Y a g Z_v Z_m Z_ml Z_n Z_f S_position S_count S_cm S_arguments S_argumentCount)) [0, 1, 2, 3, 4] (by decide) rfl
          exact W.iret (v := (-1)) hx hb hr (fun t ht hW => ⟨⟨(-1), Z_v, rfl, rfl, by rw [ht]; exact hP9, va_K.moved hW.alike hK, hD9⟩, hS.F ht⟩) hS.2.2 dX7_read_95
    · have hf := wk_f hf q1
      refine lv_iload_n hx hb dX7_read_23 rfl (lv_at hl 1 rfl) ?_
      refine lv_if_eq (tgt := 69) hx hb dX7_read_24 (by decide) (fun q6 => ?_) (fun q6 => ?_)
      · have hf := wk_t hf q6
        refine lv_iload_n hx hb dX7_read_69 rfl (lv_at hl 1 rfl) ?_
        refine lv_if_eq (tgt := 91) hx hb dX7_read_70 (by decide) (fun q7 => ?_) (fun q7 => ?_)
        · have hf := wk_t hf q7
          refine lv_aload_n hx hb dX7_read_91 rfl (lv_at hl 0 rfl) ?_
          refine va_get (D := (dC, dI)) (ci := 7) (v := .int S_position) (C := RX7) (T := TX7) (N := 6) hx hb hts in_X7_read_X7 hown hK hP 0 rfl rfl 1 (by decide) (hts _ lk_X7_read_RX7_118) (fun _ h9 => h9) rfl dX7_read_92 ?_
          obtain ⟨e0, e1, e2, e3, e4, e5⟩ := wke6 hf
          subst e0
          subst e1
          subst e2
          subst e3
          subst e4
          subst e5
          have hP9 := hP.sub (ws' := (wX7 Y a g Z_v Z_m Z_ml Z_n Z_f S_position S_count S_cm S_arguments S_argumentCount)) [0, 1, 2, 3, 4] rfl
          have hD9 := hD.sub (ws' := (wX7 Y a g Z_v Z_m Z_ml Z_n Z_f S_position S_count S_cm S_arguments S_argumentCount)) [0, 1, 2, 3, 4] (by decide) rfl
          exact W.iret (v := S_position) hx hb hr (fun t ht hW => ⟨⟨S_position, Z_v, rfl, rfl, by rw [ht]; exact hP9, va_K.moved hW.alike hK, hD9⟩, hS.F ht⟩) hS.2.2 dX7_read_95
        · have hf := wk_f hf q7
          refine lv_aload_n hx hb dX7_read_73 rfl (lv_at hl 0 rfl) ?_
          refine va_get (D := (dC, dI)) (ci := 7) (v := .int S_position) (C := RX7) (T := TX7) (N := 6) hx hb hts in_X7_read_X7 hown hK hP 0 rfl rfl 1 (by decide) (hts _ lk_X7_read_RX7_118) (fun _ h9 => h9) rfl dX7_read_74 ?_
          refine lv_aload_n hx hb dX7_read_77 rfl (lv_at hl 0 rfl) ?_
          refine va_get (D := (dC, dI)) (ci := 7) (v := .ref (a 1)) (C := RX7) (T := TX7) (N := 6) hx hb hts in_X7_read_X7 hown hK hP 0 rfl rfl 0 (by decide) (hts _ lk_X7_read_RX7_12) (fun _ h9 => h9) rfl dX7_read_78 ?_
          obtain ⟨r8, hr9, hf⟩ := wkb1_s hf
          have hPc := hP.sub (ws' := (wJ4 Y (fun k => a (k + 1)) Z_v Z_m Z_ml Z_n Z_f)) [1, 2] rfl
          refine wk_vi (As := []) (rest := [.int S_position]) ⟨hx, hb, hml, hown, hts⟩ (c_J4_length_8abf5 l dC dI Y (fun k => a (k + 1)) Z_v Z_m Z_ml Z_n Z_f r8 hr9) (cwV 0 hts gX7_read_J4_length_8abf5 rfl rfl rfl (by decide +kernel) ⟨Nat.le_of_ble_eq_true rfl, Nat.le_of_ble_eq_true rfl⟩) hK hPc (va_recv hK hP (ci := 1) (q0 := 1) rfl rfl) rfl hl.1 rfl (Nat.le_of_ble_eq_true rfl) dX7_read_81 ⟨Nat.le_of_ble_eq_true rfl, Nat.le_of_ble_eq_true rfl⟩ ?_
          refine lv_icmp_ne (tgt := 91) hx hb dX7_read_84 (by decide) (fun q10 => ?_) (fun q10 => ?_)
          · have hf := wk_f hf q10
            refine lv_aload_n hx hb dX7_read_91 rfl (lv_at hl 0 rfl) ?_
            refine va_get (D := (dC, dI)) (ci := 7) (v := .int S_position) (C := RX7) (T := TX7) (N := 6) hx hb hts in_X7_read_X7 hown hK hP 0 rfl rfl 1 (by decide) (hts _ lk_X7_read_RX7_118) (fun _ h9 => h9) rfl dX7_read_92 ?_
            obtain ⟨e0, e1, e2, e3, e4, e5⟩ := wke6 hf
            subst e0
            subst e1
            subst e2
            subst e3
            subst e4
            subst e5
            have hP9 := hP.sub (ws' := (wX7 Y a g Z_v Z_m Z_ml Z_n Z_f S_position S_count S_cm S_arguments S_argumentCount)) [0, 1, 2, 3, 4] rfl
            have hD9 := hD.sub (ws' := (wX7 Y a g Z_v Z_m Z_ml Z_n Z_f S_position S_count S_cm S_arguments S_argumentCount)) [0, 1, 2, 3, 4] (by decide) rfl
            exact W.iret (v := S_position) hx hb hr (fun t ht hW => ⟨⟨S_position, Z_v, rfl, rfl, by rw [ht]; exact hP9, va_K.moved hW.alike hK, hD9⟩, hS.F ht⟩) hS.2.2 dX7_read_95
          · have hf := wk_t hf q10
            refine lv_iconst (v := (-1)) hx hb dX7_read_87 (by decide) ?_
            refine lv_goto (tgt := 95) hx hb dX7_read_88 (by decide) ?_
            obtain ⟨e0, e1, e2, e3, e4, e5⟩ := wke6 hf
            subst e0
            subst e1
            subst e2
            subst e3
            subst e4
            subst e5
            have hP9 := hP.sub (ws' := (wX7 Y a g Z_v Z_m Z_ml Z_n Z_f S_position S_count S_cm S_arguments S_argumentCount)) [0, 1, 2, 3, 4] rfl
            have hD9 := hD.sub (ws' := (wX7 Y a g Z_v Z_m Z_ml Z_n Z_f S_position S_count S_cm S_arguments S_argumentCount)) [0, 1, 2, 3, 4] (by decide) rfl
            exact W.iret (v := (-1)) hx hb hr (fun t ht hW => ⟨⟨(-1), Z_v, rfl, rfl, by rw [ht]; exact hP9, va_K.moved hW.alike hK, hD9⟩, hS.F ht⟩) hS.2.2 dX7_read_95
      · have hf := wk_f hf q6
        refine lv_aload_n hx hb dX7_read_27 rfl (lv_at hl 0 rfl) ?_
        refine va_get (D := (dC, dI)) (ci := 7) (v := .int S_position) (C := RX7) (T := TX7) (N := 6) hx hb hts in_X7_read_X7 hown hK hP 0 rfl rfl 1 (by decide) (hts _ lk_X7_read_RX7_118) (fun _ h9 => h9) rfl dX7_read_28 ?_
        refine lv_aload_n hx hb dX7_read_31 rfl (lv_at hl 0 rfl) ?_
        refine va_get (D := (dC, dI)) (ci := 7) (v := .ref (a 1)) (C := RX7) (T := TX7) (N := 6) hx hb hts in_X7_read_X7 hown hK hP 0 rfl rfl 0 (by decide) (hts _ lk_X7_read_RX7_12) (fun _ h9 => h9) rfl dX7_read_32 ?_
        obtain ⟨r11, hr12, hf⟩ := wkb1_s hf
        have hPc := hP.sub (ws' := (wJ4 Y (fun k => a (k + 1)) Z_v Z_m Z_ml Z_n Z_f)) [1, 2] rfl
        refine wk_vi (As := []) (rest := [.int S_position]) ⟨hx, hb, hml, hown, hts⟩ (c_J4_length_8abf5 l dC dI Y (fun k => a (k + 1)) Z_v Z_m Z_ml Z_n Z_f r11 hr12) (cwV 0 hts gX7_read_J4_length_8abf5 rfl rfl rfl (by decide +kernel) ⟨Nat.le_of_ble_eq_true rfl, Nat.le_of_ble_eq_true rfl⟩) hK hPc (va_recv hK hP (ci := 1) (q0 := 1) rfl rfl) rfl hl.1 rfl (Nat.le_of_ble_eq_true rfl) dX7_read_35 ⟨Nat.le_of_ble_eq_true rfl, Nat.le_of_ble_eq_true rfl⟩ ?_
        refine lv_icmp_ge (tgt := 69) hx hb dX7_read_38 (by decide) (fun q13 => ?_) (fun q13 => ?_)
        · have hf := wk_t hf q13
          refine lv_iload_n hx hb dX7_read_69 rfl (lv_at hl 1 rfl) ?_
          refine lv_if_eq (tgt := 91) hx hb dX7_read_70 (by decide) (fun q14 => ?_) (fun q14 => ?_)
          · have hf := wk_t hf q14
            refine lv_aload_n hx hb dX7_read_91 rfl (lv_at hl 0 rfl) ?_
            refine va_get (D := (dC, dI)) (ci := 7) (v := .int S_position) (C := RX7) (T := TX7) (N := 6) hx hb hts in_X7_read_X7 hown hK hP 0 rfl rfl 1 (by decide) (hts _ lk_X7_read_RX7_118) (fun _ h9 => h9) rfl dX7_read_92 ?_
            obtain ⟨e0, e1, e2, e3, e4, e5⟩ := wke6 hf
            subst e0
            subst e1
            subst e2
            subst e3
            subst e4
            subst e5
            have hP9 := hP.sub (ws' := (wX7 Y a g Z_v Z_m Z_ml Z_n Z_f S_position S_count S_cm S_arguments S_argumentCount)) [0, 1, 2, 3, 4] rfl
            have hD9 := hD.sub (ws' := (wX7 Y a g Z_v Z_m Z_ml Z_n Z_f S_position S_count S_cm S_arguments S_argumentCount)) [0, 1, 2, 3, 4] (by decide) rfl
            exact W.iret (v := S_position) hx hb hr (fun t ht hW => ⟨⟨S_position, Z_v, rfl, rfl, by rw [ht]; exact hP9, va_K.moved hW.alike hK, hD9⟩, hS.F ht⟩) hS.2.2 dX7_read_95
          · have hf := wk_f hf q14
            refine lv_aload_n hx hb dX7_read_73 rfl (lv_at hl 0 rfl) ?_
            refine va_get (D := (dC, dI)) (ci := 7) (v := .int S_position) (C := RX7) (T := TX7) (N := 6) hx hb hts in_X7_read_X7 hown hK hP 0 rfl rfl 1 (by decide) (hts _ lk_X7_read_RX7_118) (fun _ h9 => h9) rfl dX7_read_74 ?_
            refine lv_aload_n hx hb dX7_read_77 rfl (lv_at hl 0 rfl) ?_
            refine va_get (D := (dC, dI)) (ci := 7) (v := .ref (a 1)) (C := RX7) (T := TX7) (N := 6) hx hb hts in_X7_read_X7 hown hK hP 0 rfl rfl 0 (by decide) (hts _ lk_X7_read_RX7_12) (fun _ h9 => h9) rfl dX7_read_78 ?_
            obtain ⟨r15, hr16, hf⟩ := wkb1_s hf
            have hPc := hP.sub (ws' := (wJ4 Y (fun k => a (k + 1)) Z_v Z_m Z_ml Z_n Z_f)) [1, 2] rfl
            refine wk_vi (As := []) (rest := [.int S_position]) ⟨hx, hb, hml, hown, hts⟩ (c_J4_length_8abf5 l dC dI Y (fun k => a (k + 1)) Z_v Z_m Z_ml Z_n Z_f r15 hr16) (cwV 0 hts gX7_read_J4_length_8abf5 rfl rfl rfl (by decide +kernel) ⟨Nat.le_of_ble_eq_true rfl, Nat.le_of_ble_eq_true rfl⟩) hK hPc (va_recv hK hP (ci := 1) (q0 := 1) rfl rfl) rfl hl.1 rfl (Nat.le_of_ble_eq_true rfl) dX7_read_81 ⟨Nat.le_of_ble_eq_true rfl, Nat.le_of_ble_eq_true rfl⟩ ?_
            refine lv_icmp_ne (tgt := 91) hx hb dX7_read_84 (by decide) (fun q17 => ?_) (fun q17 => ?_)
            · have hf := wk_f hf q17
              refine lv_aload_n hx hb dX7_read_91 rfl (lv_at hl 0 rfl) ?_
              refine va_get (D := (dC, dI)) (ci := 7) (v := .int S_position) (C := RX7) (T := TX7) (N := 6) hx hb hts in_X7_read_X7 hown hK hP 0 rfl rfl 1 (by decide) (hts _ lk_X7_read_RX7_118) (fun _ h9 => h9) rfl dX7_read_92 ?_
              obtain ⟨e0, e1, e2, e3, e4, e5⟩ := wke6 hf
              subst e0
              subst e1
              subst e2
              subst e3
              subst e4
              subst e5
              have hP9 := hP.sub (ws' := (wX7 Y a g Z_v Z_m Z_ml Z_n Z_f S_position S_count S_cm S_arguments S_argumentCount)) [0, 1, 2, 3, 4] rfl
              have hD9 := hD.sub (ws' := (wX7 Y a g Z_v Z_m Z_ml Z_n Z_f S_position S_count S_cm S_arguments S_argumentCount)) [0, 1, 2, 3, 4] (by decide) rfl
              exact W.iret (v := S_position) hx hb hr (fun t ht hW => ⟨⟨S_position, Z_v, rfl, rfl, by rw [ht]; exact hP9, va_K.moved hW.alike hK, hD9⟩, hS.F ht⟩) hS.2.2 dX7_read_95
            · have hf := wk_t hf q17
              refine lv_iconst (v := (-1)) hx hb dX7_read_87 (by decide) ?_
              refine lv_goto (tgt := 95) hx hb dX7_read_88 (by decide) ?_
              obtain ⟨e0, e1, e2, e3, e4, e5⟩ := wke6 hf
              subst e0
              subst e1
              subst e2
              subst e3
              subst e4
              subst e5
              have hP9 := hP.sub (ws' := (wX7 Y a g Z_v Z_m Z_ml Z_n Z_f S_position S_count S_cm S_arguments S_argumentCount)) [0, 1, 2, 3, 4] rfl
              have hD9 := hD.sub (ws' := (wX7 Y a g Z_v Z_m Z_ml Z_n Z_f S_position S_count S_cm S_arguments S_argumentCount)) [0, 1, 2, 3, 4] (by decide) rfl
              exact W.iret (v := (-1)) hx hb hr (fun t ht hW => ⟨⟨(-1), Z_v, rfl, rfl, by rw [ht]; exact hP9, va_K.moved hW.alike hK, hD9⟩, hS.F ht⟩) hS.2.2 dX7_read_95
        · have hf := wk_f hf q13
          refine lv_aload_n hx hb dX7_read_41 rfl (lv_at hl 0 rfl) ?_
          refine lv_bipush (v := 59) hx hb dX7_read_42 (by decide) ?_
          obtain ⟨r18, w19, hr20, hf⟩ := wkb2_s hf
          have hPc := hP.sub (ws' := (wX7 Y a g Z_v Z_m Z_ml Z_n Z_f S_position S_count S_cm S_arguments S_argumentCount)) [0, 1, 2, 3, 4] rfl
          have hDc := hD.sub (ws' := (wX7 Y a g Z_v Z_m Z_ml Z_n Z_f S_position S_count S_cm S_arguments S_argumentCount)) [0, 1, 2, 3, 4] (by decide) rfl
          have hFc := va_free (wc := (wX7 Y a g Z_v Z_m Z_ml Z_n Z_f S_position S_count S_cm S_arguments S_argumentCount)) hD hS hA [0, 1, 2, 3, 4] rfl
          refine wg_ei (wc := (wX7 Y a g Z_v Z_m Z_ml Z_n Z_f S_position S_count S_cm S_arguments S_argumentCount)) (w1 := fun (_ : Nat) => (wX7 Y a g Z_v Z_m Z_ml Z_n Z_f w19 S_count S_cm S_arguments S_argumentCount)) (wr := []) (va_runV (As := [.int 59]) (rest := []) ⟨hx, hb, hml, hown, hts⟩ (c_X7_readSign l dC dI Y g a Z_v Z_m Z_ml Z_n Z_f S_position S_count S_cm S_arguments S_argumentCount 59 H.size r18 w19 hr20) (cwV 1 hts gX7_read_X7_readSign rfl rfl rfl (by decide +kernel) ⟨Nat.le_of_ble_eq_true rfl, Nat.le_of_ble_eq_true rfl⟩) ⟨wk_ETb, (va_recv hK hP (ci := 7) (q0 := 0) rfl rfl), wk_ETp hK hPc hDc hT hS hFc⟩ rfl rfl hl.1 rfl (lv_room (Nat.le_of_ble_eq_true rfl)) dX7_read_44 ⟨Nat.le_of_ble_eq_true rfl, Nat.le_of_ble_eq_true rfl⟩) hP hD hS [0, 1, 2, 3, 4] [] rfl rfl (by decide) (by decide) (by decide) hFc (fun u21 H locs hP hD hS => ?_)
          have hP : va_P (dC, dI) vwCl [(a 0, .inr (7, [.ref (a 1), .int w19, .int S_count, .ref (a 2), .ref (a 3), .int S_argumentCount])), (a 1, .inr (1, [.ref Z_v, .int 0, .int Z_ml, .int Z_n])), (Z_v, .inl (Y 1, Z_m, .inl Z_f)), (a 2, .inl (Y 4, 12, .inr (.inr (.inr (.inr (wk_cm g S_cm)))))), (a 3, .inl (Y 0, 48, .inl S_arguments))] H := hP
          have hD : va_D A [(a 0, .inr (7, [.ref (a 1), .int w19, .int S_count, .ref (a 2), .ref (a 3), .int S_argumentCount])), (a 1, .inr (1, [.ref Z_v, .int 0, .int Z_ml, .int Z_n])), (Z_v, .inl (Y 1, Z_m, .inl Z_f)), (a 2, .inl (Y 4, 12, .inr (.inr (.inr (.inr (wk_cm g S_cm)))))), (a 3, .inl (Y 0, 48, .inl S_arguments))] := hD
          refine lv_if_eq (tgt := 61) hx hb dX7_read_47 (by decide) (fun q22 => ?_) (fun q22 => ?_)
          · have hf := wk_t hf q22
            refine lv_iconst (v := 0) hx hb dX7_read_61 (by decide) ?_
            refine lv_istore_n (lv' := [(1, .int 0), (0, .ref (a 0)), (2, .int x2)]) hx hb dX7_read_62 rfl hl (by decide) rfl (fun ls hl => ?_)
            refine lv_iinc (v := (x2 + 1)) (lv' := [(2, .int (x2 + 1)), (1, .int 0), (0, .ref (a 0))]) hx hb dX7_read_63 hl (k := 2) rfl rfl (by decide) rfl (fun ls hl => ?_)
            refine lv_goto (tgt := 17) hx hb dX7_read_66 (by decide) ?_
            exact ih 0 (x2 + 1) w19 S_count S_cm S_arguments S_argumentCount hf H locs hP hD hS ls (lv_sub hl [2, 1, 0] rfl)
          · have hf := wk_f hf q22
            refine lv_aload_n hx hb dX7_read_50 rfl (lv_at hl 0 rfl) ?_
            obtain ⟨r23, w24, w25, w26, w27, w28, hr29, hf⟩ := wkb6_s hf
            have hPc := hP.sub (ws' := (wX7 Y a g Z_v Z_m Z_ml Z_n Z_f w19 S_count S_cm S_arguments S_argumentCount)) [0, 1, 2, 3, 4] rfl
            have hDc := hD.sub (ws' := (wX7 Y a g Z_v Z_m Z_ml Z_n Z_f w19 S_count S_cm S_arguments S_argumentCount)) [0, 1, 2, 3, 4] (by decide) rfl
            have hFc := va_free (wc := (wX7 Y a g Z_v Z_m Z_ml Z_n Z_f w19 S_count S_cm S_arguments S_argumentCount)) hD hS hA [0, 1, 2, 3, 4] rfl
            refine wg_ei (wc := (wX7 Y a g Z_v Z_m Z_ml Z_n Z_f w19 S_count S_cm S_arguments S_argumentCount)) (w1 := fun (_ : Nat) => (wX7 Y a g Z_v Z_m Z_ml Z_n Z_f w24 w25 w26 w27 w28)) (wr := []) (va_runV (As := []) (rest := []) ⟨hx, hb, hml, hown, hts⟩ (c_X7_readCommand l dC dI Y g a Z_v Z_m Z_ml Z_n Z_f w19 S_count S_cm S_arguments S_argumentCount H.size r23 w24 w25 w26 w27 w28 hr29) (cwV 0 hts gX7_read_X7_readCommand rfl rfl rfl (by decide +kernel) ⟨Nat.le_of_ble_eq_true rfl, Nat.le_of_ble_eq_true rfl⟩) ⟨wk_ETb, (va_recv hK hP (ci := 7) (q0 := 0) rfl rfl), wk_ETp hK hPc hDc hT hS hFc⟩ rfl rfl hl.1 rfl (lv_room (Nat.le_of_ble_eq_true rfl)) dX7_read_51 ⟨Nat.le_of_ble_eq_true rfl, Nat.le_of_ble_eq_true rfl⟩) hP hD hS [0, 1, 2, 3, 4] [] rfl rfl (by decide) (by decide) (by decide) hFc (fun u30 H locs hP hD hS => ?_)
            have hP : va_P (dC, dI) vwCl [(a 0, .inr (7, [.ref (a 1), .int w24, .int w25, .ref (a 2), .ref (a 3), .int w28])), (a 1, .inr (1, [.ref Z_v, .int 0, .int Z_ml, .int Z_n])), (Z_v, .inl (Y 1, Z_m, .inl Z_f)), (a 2, .inl (Y 4, 12, .inr (.inr (.inr (.inr (wk_cm g w26)))))), (a 3, .inl (Y 0, 48, .inl w27))] H := hP
            have hD : va_D A [(a 0, .inr (7, [.ref (a 1), .int w24, .int w25, .ref (a 2), .ref (a 3), .int w28])), (a 1, .inr (1, [.ref Z_v, .int 0, .int Z_ml, .int Z_n])), (Z_v, .inl (Y 1, Z_m, .inl Z_f)), (a 2, .inl (Y 4, 12, .inr (.inr (.inr (.inr (wk_cm g w26)))))), (a 3, .inl (Y 0, 48, .inl w27))] := hD
            refine lv_if_eq (tgt := 61) hx hb dX7_read_54 (by decide) (fun q31 => ?_) (fun q31 => ?_)
            · have hf := wk_t hf q31
              refine lv_iconst (v := 0) hx hb dX7_read_61 (by decide) ?_
              refine lv_istore_n (lv' := [(1, .int 0), (0, .ref (a 0)), (2, .int x2)]) hx hb dX7_read_62 rfl hl (by decide) rfl (fun ls hl => ?_)
              refine lv_iinc (v := (x2 + 1)) (lv' := [(2, .int (x2 + 1)), (1, .int 0), (0, .ref (a 0))]) hx hb dX7_read_63 hl (k := 2) rfl rfl (by decide) rfl (fun ls hl => ?_)
              refine lv_goto (tgt := 17) hx hb dX7_read_66 (by decide) ?_
              exact ih 0 (x2 + 1) w24 w25 w26 w27 w28 hf H locs hP hD hS ls (lv_sub hl [2, 1, 0] rfl)
            · have hf := wk_f hf q31
              refine lv_iconst (v := 1) hx hb dX7_read_57 (by decide) ?_
              refine lv_goto (tgt := 62) hx hb dX7_read_58 (by decide) ?_
              refine lv_istore_n (lv' := [(1, .int 1), (0, .ref (a 0)), (2, .int x2)]) hx hb dX7_read_62 rfl hl (by decide) rfl (fun ls hl => ?_)
              refine lv_iinc (v := (x2 + 1)) (lv' := [(2, .int (x2 + 1)), (1, .int 1), (0, .ref (a 0))]) hx hb dX7_read_63 hl (k := 2) rfl rfl (by decide) rfl (fun ls hl => ?_)
              refine lv_goto (tgt := 17) hx hb dX7_read_66 (by decide) ?_
              exact ih 1 (x2 + 1) w24 w25 w26 w27 w28 hf H locs hP hD hS ls (lv_sub hl [2, 1, 0] rfl)
set_option maxHeartbeats 4000000 in
set_option maxRecDepth 100000 in
theorem c_X7_read (l : Launch) (dC : Nat → ClassId) (dI : Nat → Nat → Nat) (Y : Nat → ClassId) (g : Nat → Nat → Nat) (a : Nat → Nat) (Z_v : Nat) (Z_m : Nat) (Z_ml : Int32) (Z_n : Int32) (Z_f : Nat → Int32) (S_position : Int32) (S_count : Int32) (S_cm : Nat → Option Nat) (S_arguments : Nat → Int32) (S_argumentCount : Int32)  (sz : Nat) (r : Int32) (zS_position : Int32) (zS_count : Int32) (zS_cm : Nat → Option Nat) (zS_arguments : Nat → Int32) (zS_argumentCount : Int32) (hf : f_X7_read Z_m Z_n Z_f S_position S_count S_cm S_arguments S_argumentCount = some (r, zS_position, zS_count, zS_cm, zS_arguments, zS_argumentCount)) : Met l yX7_read wsX7_read ({ frames := 9, cells := 0, slots := 0, locals := 201 } : Room) (va_Pc [.ref (a 0)] (wk_ET (dC, dI) Y g (wX7 Y a g Z_v Z_m Z_ml Z_n Z_f S_position S_count S_cm S_arguments S_argumentCount) sz)) (va_Qi (fun r2 (_ : Nat) => r2 = r) (fun u9 t => wk_X (dC, dI) Y (wX7 Y a g Z_v Z_m Z_ml Z_n Z_f zS_position zS_count zS_cm zS_arguments zS_argumentCount) (va_A (wX7 Y a g Z_v Z_m Z_ml Z_n Z_f S_position S_count S_cm S_arguments S_argumentCount) sz) t) (va_A (wX7 Y a g Z_v Z_m Z_ml Z_n Z_f S_position S_count S_cm S_arguments S_argumentCount) sz)) 0 0 (va_A (wX7 Y a g Z_v Z_m Z_ml Z_n Z_f S_position S_count S_cm S_arguments S_argumentCount) sz) := by
  refine Met.ofW (cc := cX7_read) (maxL := 3) (ret := (some .int)) (by decide) rfl ?_
  intro p e s m args below meth c s₁ B hml hv
  obtain ⟨rfl, ⟨hsz, hP, hK, hD0⟩, hT⟩ := hv
  have hx := B.exec
  have hb := B.bytes
  have hr := B.returns
  have hts := atoms_spec (ws := wsX7_read) B.pre
  have hown : s.vm.findClass RX7 = some m.cls := findClass_of_methodNamed B.named
  have hlocks := B.notSynchronized
  have C0 : wk_C p s m _ meth c cX7_read 3 (some .int) wsX7_read RX7 := ⟨hx, hb, hml, hr, hlocks, hown, hts⟩
  subst hsz
  have hD := hD0.self (sz := s.heap.size)
  generalize hAe : va_A (wX7 Y a g Z_v Z_m Z_ml Z_n Z_f S_position S_count S_cm S_arguments S_argumentCount) s.heap.size = A at hD hT ⊢
  have hA : ∀ q : Nat, s.heap.size ≤ q → A q := fun q h => by rw [← hAe]; exact Or.inr h
  have hS : va_S A s.heap s.heap [] := va_S.rf
  obtain ⟨H, hHe⟩ : ∃ H, H = s.heap := ⟨_, rfl⟩
  have hS : va_S A s.heap H [] := by rw [hHe]; exact hS
  have hP : va_P (dC, dI) vwCl [(a 0, .inr (7, [.ref (a 1), .int S_position, .int S_count, .ref (a 2), .ref (a 3), .int S_argumentCount])), (a 1, .inr (1, [.ref Z_v, .int 0, .int Z_ml, .int Z_n])), (Z_v, .inl (Y 1, Z_m, .inl Z_f)), (a 2, .inl (Y 4, 12, .inr (.inr (.inr (.inr (wk_cm g S_cm)))))), (a 3, .inl (Y 0, 48, .inl S_arguments))] H := by rw [hHe]; exact hP
  have hD : va_D A [(a 0, .inr (7, [.ref (a 1), .int S_position, .int S_count, .ref (a 2), .ref (a 3), .int S_argumentCount])), (a 1, .inr (1, [.ref Z_v, .int 0, .int Z_ml, .int Z_n])), (Z_v, .inl (Y 1, Z_m, .inl Z_f)), (a 2, .inl (Y 4, 12, .inr (.inr (.inr (.inr (wk_cm g S_cm)))))), (a 3, .inl (Y 0, 48, .inl S_arguments))] := hD
  obtain ⟨locs, hlo⟩ : ∃ locs : List Loc, locs = [] := ⟨_, rfl⟩
  have hS : va_S A s.heap H locs := by rw [hlo]; exact hS
  have hl := lv_entry ([.ref (a 0)]) (n := 3) (Nat.le_of_ble_eq_true rfl)
  rw [lg_entry_eq]
  generalize (lg_sl ([.ref (a 0)]) ++ List.replicate (3 - (lg_sl ([.ref (a 0)])).length) Slot.unset).toArray = ls at hl ⊢
  have hl : lv_has ls 3 [(0, .ref (a 0))] := hl
  refine wk_start hHe hlo ?_
  rw [f_X7_read] at hf
  refine lv_aload_n hx hb dX7_read_0 rfl (lv_at hl 0 rfl) ?_
  refine lv_iconst (v := 0) hx hb dX7_read_1 (by decide) ?_
  refine va_put (D := (dC, dI)) (ci := 7) (v := .int 0) (ty := .int) (C := RX7) (T := TX7) (N := 6) hx hb hts in_X7_read_X7 tyX7 tyX7_ok nmX7 hown hK hP hD hS 0 rfl rfl 1 (by decide) (hts _ lk_X7_read_RX7_118) (fun _ h9 => h9) rfl (by decide +kernel) rfl rfl (Nat.le_of_ble_eq_true rfl) dX7_read_2 (fun H locs hP hD hS => ?_)
  have hP : va_P (dC, dI) vwCl [(a 0, .inr (7, [.ref (a 1), .int 0, .int S_count, .ref (a 2), .ref (a 3), .int S_argumentCount])), (a 1, .inr (1, [.ref Z_v, .int 0, .int Z_ml, .int Z_n])), (Z_v, .inl (Y 1, Z_m, .inl Z_f)), (a 2, .inl (Y 4, 12, .inr (.inr (.inr (.inr (wk_cm g S_cm)))))), (a 3, .inl (Y 0, 48, .inl S_arguments))] H := hP
  have hD : va_D A [(a 0, .inr (7, [.ref (a 1), .int 0, .int S_count, .ref (a 2), .ref (a 3), .int S_argumentCount])), (a 1, .inr (1, [.ref Z_v, .int 0, .int Z_ml, .int Z_n])), (Z_v, .inl (Y 1, Z_m, .inl Z_f)), (a 2, .inl (Y 4, 12, .inr (.inr (.inr (.inr (wk_cm g S_cm)))))), (a 3, .inl (Y 0, 48, .inl S_arguments))] := hD
  refine lv_aload_n hx hb dX7_read_5 rfl (lv_at hl 0 rfl) ?_
  refine lv_iconst (v := 0) hx hb dX7_read_6 (by decide) ?_
  refine va_put (D := (dC, dI)) (ci := 7) (v := .int 0) (ty := .int) (C := RX7) (T := TX7) (N := 6) hx hb hts in_X7_read_X7 tyX7 tyX7_ok nmX7 hown hK hP hD hS 0 rfl rfl 2 (by decide) (hts _ lk_X7_read_RX7_122) (fun _ h9 => h9) rfl (by decide +kernel) rfl rfl (Nat.le_of_ble_eq_true rfl) dX7_read_7 (fun H locs hP hD hS => ?_)
  have hP : va_P (dC, dI) vwCl [(a 0, .inr (7, [.ref (a 1), .int 0, .int 0, .ref (a 2), .ref (a 3), .int S_argumentCount])), (a 1, .inr (1, [.ref Z_v, .int 0, .int Z_ml, .int Z_n])), (Z_v, .inl (Y 1, Z_m, .inl Z_f)), (a 2, .inl (Y 4, 12, .inr (.inr (.inr (.inr (wk_cm g S_cm)))))), (a 3, .inl (Y 0, 48, .inl S_arguments))] H := hP
  have hD : va_D A [(a 0, .inr (7, [.ref (a 1), .int 0, .int 0, .ref (a 2), .ref (a 3), .int S_argumentCount])), (a 1, .inr (1, [.ref Z_v, .int 0, .int Z_ml, .int Z_n])), (Z_v, .inl (Y 1, Z_m, .inl Z_f)), (a 2, .inl (Y 4, 12, .inr (.inr (.inr (.inr (wk_cm g S_cm)))))), (a 3, .inl (Y 0, 48, .inl S_arguments))] := hD
  refine lv_aload_n hx hb dX7_read_10 rfl (lv_at hl 0 rfl) ?_
  obtain ⟨r1, w2, w3, w4, w5, w6, hr7, hf⟩ := wkb6_s hf
  have hPc := hP.sub (ws' := (wX7 Y a g Z_v Z_m Z_ml Z_n Z_f 0 0 S_cm S_arguments S_argumentCount)) [0, 1, 2, 3, 4] rfl
  have hDc := hD.sub (ws' := (wX7 Y a g Z_v Z_m Z_ml Z_n Z_f 0 0 S_cm S_arguments S_argumentCount)) [0, 1, 2, 3, 4] (by decide) rfl
  have hFc := va_free (wc := (wX7 Y a g Z_v Z_m Z_ml Z_n Z_f 0 0 S_cm S_arguments S_argumentCount)) hD hS hA [0, 1, 2, 3, 4] rfl
  refine wg_ei (wc := (wX7 Y a g Z_v Z_m Z_ml Z_n Z_f 0 0 S_cm S_arguments S_argumentCount)) (w1 := fun (_ : Nat) => (wX7 Y a g Z_v Z_m Z_ml Z_n Z_f w2 w3 w4 w5 w6)) (wr := []) (va_runV (As := []) (rest := []) ⟨hx, hb, hml, hown, hts⟩ (c_X7_readCommand l dC dI Y g a Z_v Z_m Z_ml Z_n Z_f 0 0 S_cm S_arguments S_argumentCount H.size r1 w2 w3 w4 w5 w6 hr7) (cwV 0 hts gX7_read_X7_readCommand rfl rfl rfl (by decide +kernel) ⟨Nat.le_of_ble_eq_true rfl, Nat.le_of_ble_eq_true rfl⟩) ⟨wk_ETb, (va_recv hK hP (ci := 7) (q0 := 0) rfl rfl), wk_ETp hK hPc hDc hT hS hFc⟩ rfl rfl hl.1 rfl (lv_room (Nat.le_of_ble_eq_true rfl)) dX7_read_11 ⟨Nat.le_of_ble_eq_true rfl, Nat.le_of_ble_eq_true rfl⟩) hP hD hS [0, 1, 2, 3, 4] [] rfl rfl (by decide) (by decide) (by decide) hFc (fun u8 H locs hP hD hS => ?_)
  have hP : va_P (dC, dI) vwCl [(a 0, .inr (7, [.ref (a 1), .int w2, .int w3, .ref (a 2), .ref (a 3), .int w6])), (a 1, .inr (1, [.ref Z_v, .int 0, .int Z_ml, .int Z_n])), (Z_v, .inl (Y 1, Z_m, .inl Z_f)), (a 2, .inl (Y 4, 12, .inr (.inr (.inr (.inr (wk_cm g w4)))))), (a 3, .inl (Y 0, 48, .inl w5))] H := hP
  have hD : va_D A [(a 0, .inr (7, [.ref (a 1), .int w2, .int w3, .ref (a 2), .ref (a 3), .int w6])), (a 1, .inr (1, [.ref Z_v, .int 0, .int Z_ml, .int Z_n])), (Z_v, .inl (Y 1, Z_m, .inl Z_f)), (a 2, .inl (Y 4, 12, .inr (.inr (.inr (.inr (wk_cm g w4)))))), (a 3, .inl (Y 0, 48, .inl w5))] := hD
  refine lv_istore_n (lv' := [(1, .int r1), (0, .ref (a 0))]) hx hb dX7_read_14 rfl hl (by decide) rfl (fun ls hl => ?_)
  refine lv_iconst (v := 1) hx hb dX7_read_15 (by decide) ?_
  refine lv_istore_n (lv' := [(2, .int 1), (1, .int r1), (0, .ref (a 0))]) hx hb dX7_read_16 rfl hl (by decide) rfl (fun ls hl => ?_)
  exact wl_X7_read_L17 C0 hK hA hT FU r1 1 w2 w3 w4 w5 w6 hf H locs hP hD hS ls (lv_sub hl [2, 1, 0] rfl)
theorem lk_X7_refusalOf_RX7_20 : Cond.fieldLink RX7 20 "CircusLedger$Script" "commands" "[LCircusLedger$Command;" ∈ wsX7_refusalOf := by decide +kernel
theorem lk_X7_refusalOf_RX7_40 : Cond.fieldLink RX7 40 "CircusLedger$1" "$SwitchMap$CircusLedger$Command" "[I" ∈ wsX7_refusalOf := by decide +kernel
theorem lk_X7_refusalOf_RX7_79 : Cond.fieldLink RX7 79 "CircusLedger$Refusal" "NONE" "LCircusLedger$Refusal;" ∈ wsX7_refusalOf := by decide +kernel
theorem in_X7_refusalOf_X7 : ∀ w ∈ u_ws RX7 TX7 6, w ∈ wsX7_refusalOf := by decide +kernel
def f_X7_refusalOf (S_cm : Nat → Option Nat) (S_arguments : Nat → Int32) (T_count : Int32) (T_weights : Nat → Int32) (T_strengths : Nat → Int32) (T_nightsToHeal : Nat → Int32) (B_accounts : Int32) (B_balances : Nat → Int32) (B_entries : Int32) (x1 : Int32) : Option (Nat) :=
  gin x1 12 (wkb1 (S_cm x1.toNatClampNeg) (fun k2 =>
  gok (k2 < 8) (wkb1 (f_Jx29ce0_ordinal_8abf5 k2) (fun r5 =>
  gin r5 8 (if (sSw r5.toNatClampNeg) = 1 then
    (wkb1 (f_X7_argument S_arguments x1 0) (fun r9 =>
    wkb1 (f_X7_argument S_arguments x1 1) (fun r11 =>
    wkb1 (f_X7_argument S_arguments x1 2) (fun r13 =>
    wkb1 (f_X7_argument S_arguments x1 3) (fun r15 =>
    wkb1 (f_X3_refusalToHire T_count r9 r11 r13 r15) (fun r17 =>
    some (r17)))))))
  else
    (if (sSw r5.toNatClampNeg) = 2 then
      (wkb1 (f_X7_argument S_arguments x1 0) (fun r20 =>
      wkb1 (f_X7_argument S_arguments x1 1) (fun r22 =>
      wkb1 (f_X7_argument S_arguments x1 2) (fun r24 =>
      wkb1 (f_X3_refusalToBook B_accounts B_balances B_entries r20 r22 r24) (fun r26 =>
      some (r26))))))
    else
      (if (sSw r5.toNatClampNeg) = 3 then
        (wkb1 (f_X7_argument S_arguments x1 0) (fun r29 =>
        wkb1 (f_X7_argument S_arguments x1 1) (fun r31 =>
        wkb1 (f_X3_refusalToPay T_count B_accounts B_balances B_entries r29 r31) (fun r33 =>
        some (r33)))))
      else
        (if (sSw r5.toNatClampNeg) = 4 then
          (wkb1 (f_X7_argument S_arguments x1 0) (fun r36 =>
          wkb1 (f_X3_refusalToShow T_count T_weights T_strengths T_nightsToHeal B_balances B_entries r36) (fun r38 =>
          some (r38))))
        else
          (if (sSw r5.toNatClampNeg) = 5 then
            (wkb1 (f_X7_argument S_arguments x1 0) (fun r41 =>
            wkb1 (f_X3_refusalToSpan r41) (fun r43 =>
            some (r43))))
          else
            (if (sSw r5.toNatClampNeg) = 6 then
              (wkb1 (f_X7_argument S_arguments x1 0) (fun r46 =>
              wkb1 (f_X3_refusalToWait r46) (fun r48 =>
              some (r48))))
            else
              (if (sSw r5.toNatClampNeg) = 7 then
                (wkb1 (f_X7_argument S_arguments x1 0) (fun r51 =>
                wkb1 (f_X7_argument S_arguments x1 1) (fun r53 =>
                wkb1 (f_X3_refusalToOffset B_accounts B_balances B_entries r51 r53) (fun r55 =>
                some (r55)))))
              else
                (some (0)))))))))))))
set_option maxHeartbeats 4000000 in
set_option maxRecDepth 100000 in
theorem c_X7_refusalOf (l : Launch) (dC : Nat → ClassId) (dI : Nat → Nat → Nat) (Y : Nat → ClassId) (g : Nat → Nat → Nat) (a : Nat → Nat) (b : Nat → Nat) (Z_v : Nat) (Z_m : Nat) (Z_ml : Int32) (Z_n : Int32) (Z_f : Nat → Int32) (S_position : Int32) (S_count : Int32) (S_cm : Nat → Option Nat) (S_arguments : Nat → Int32) (S_argumentCount : Int32) (T_count : Int32) (T_weights : Nat → Int32) (T_strengths : Nat → Int32) (T_heights : Nat → Int32) (T_wages : Nat → Int32) (T_nightsToHeal : Nat → Int32) (B_accounts : Int32) (B_balances : Nat → Int32) (B_balancesAtClosing : Nat → Int32) (B_entries : Int32) (B_debited : Nat → Int32) (B_credited : Nat → Int32) (B_amounts : Nat → Int32) (C_nights : Int32) (C_netWidth : Int32) (C_shows : Int32) (C_fallen : Int32) (x1 : Int32) (r : Nat) (hf : f_X7_refusalOf S_cm S_arguments T_count T_weights T_strengths T_nightsToHeal B_accounts B_balances B_entries x1 = some (r)) : Met l yX7_refusalOf wsX7_refusalOf ({ frames := 5, cells := 0, slots := 0, locals := 115 } : Room) (va_Pc [.ref (a 0), .int x1, .ref (b 0)] (wk_BT (dC, dI) Y g ((wX7 Y a g Z_v Z_m Z_ml Z_n Z_f S_position S_count S_cm S_arguments S_argumentCount) ++ (wX3 Y b T_count T_weights T_strengths T_heights T_wages T_nightsToHeal B_accounts B_balances B_balancesAtClosing B_entries B_debited B_credited B_amounts C_nights C_netWidth C_shows C_fallen)))) (va_Se (g 0) (fun r2 => r2 = some r)) 0 0 (fun _ => False) := by
  refine Met.ofW (cc := cX7_refusalOf) (maxL := 3) (ret := (some (.object "CircusLedger$Refusal"))) (by decide) rfl ?_
  intro p e s m args below meth c s₁ B hml hv
  obtain ⟨rfl, ⟨hP, hK⟩, hT⟩ := hv
  have hx := B.exec
  have hb := B.bytes
  have hr := B.returns
  have hts := atoms_spec (ws := wsX7_refusalOf) B.pre
  have hown : s.vm.findClass RX7 = some m.cls := findClass_of_methodNamed B.named
  have hlocks := B.notSynchronized
  have C0 : wk_C p s m _ meth c cX7_refusalOf 3 (some (.object "CircusLedger$Refusal")) wsX7_refusalOf RX7 := ⟨hx, hb, hml, hr, hlocks, hown, hts⟩
  have hP : va_P (dC, dI) vwCl [(a 0, .inr (7, [.ref (a 1), .int S_position, .int S_count, .ref (a 2), .ref (a 3), .int S_argumentCount])), (a 1, .inr (1, [.ref Z_v, .int 0, .int Z_ml, .int Z_n])), (Z_v, .inl (Y 1, Z_m, .inl Z_f)), (a 2, .inl (Y 4, 12, .inr (.inr (.inr (.inr (wk_cm g S_cm)))))), (a 3, .inl (Y 0, 48, .inl S_arguments)), (b 0, .inr (5, [.ref (b 1), .ref (b 7), .int C_nights, .int C_netWidth, .int C_shows, .int C_fallen])), (b 1, .inr (9, [.int T_count, .ref (b 2), .ref (b 3), .ref (b 4), .ref (b 5), .ref (b 6)])), (b 2, .inl (Y 0, 6, .inl T_weights)), (b 3, .inl (Y 0, 6, .inl T_strengths)), (b 4, .inl (Y 0, 6, .inl T_heights)), (b 5, .inl (Y 0, 6, .inl T_wages)), (b 6, .inl (Y 0, 6, .inl T_nightsToHeal)), (b 7, .inr (4, [.int B_accounts, .ref (b 8), .ref (b 9), .int B_entries, .ref (b 10), .ref (b 11), .ref (b 12)])), (b 8, .inl (Y 0, 11, .inl B_balances)), (b 9, .inl (Y 0, 11, .inl B_balancesAtClosing)), (b 10, .inl (Y 0, 60, .inl B_debited)), (b 11, .inl (Y 0, 60, .inl B_credited)), (b 12, .inl (Y 0, 60, .inl B_amounts))] s.heap := hP
  have hS : va_S (fun _ : Nat => False) s.heap s.heap [] := va_S.rf
  have hl := lv_entry ([.ref (a 0), .int x1, .ref (b 0)]) (n := 3) (Nat.le_of_ble_eq_true rfl)
  rw [lg_entry_eq]
  generalize (lg_sl ([.ref (a 0), .int x1, .ref (b 0)]) ++ List.replicate (3 - (lg_sl ([.ref (a 0), .int x1, .ref (b 0)])).length) Slot.unset).toArray = ls at hl ⊢
  have hl : lv_has ls 3 [(0, .ref (a 0)), (1, .int x1), (2, .ref (b 0))] := hl
  rw [f_X7_refusalOf] at hf
  refine va_gets (v := .ref (g 4 0)) hx hb hT.2.2.2.2.1 hS hown (hts _ lk_X7_refusalOf_RX7_40) (fun _ h9 => h9) dX7_refusalOf_0 ?_
  refine lv_aload_n hx hb dX7_refusalOf_3 rfl (lv_at hl 0 rfl) ?_
  refine va_get (D := (dC, dI)) (ci := 7) (v := .ref (a 2)) (C := RX7) (T := TX7) (N := 6) hx hb hts in_X7_refusalOf_X7 hown hK hP 0 rfl rfl 3 (by decide) (hts _ lk_X7_refusalOf_RX7_20) (fun _ h9 => h9) rfl dX7_refusalOf_4 ?_
  refine lv_iload_n hx hb dX7_refusalOf_7 rfl (lv_at hl 1 rfl) ?_
  obtain ⟨h1, hf⟩ := gin_s hf
  obtain ⟨k2, hk3, hf⟩ := wkb1_s hf
  refine wk_aald hx hb hK hP 3 4 rfl rfl h1 rfl (wk_cm_s hk3) dX7_refusalOf_8 ?_
  obtain ⟨h4, hf⟩ := gok_s hf
  obtain ⟨r5, hr6, hf⟩ := wkb1_s hf
  have hPc := hP.sub (ws' := ([] : va_W)) [] rfl
  refine wg_pi (va_Run.run (va_runU (As := []) (rest := [.ref (g 4 0)]) ⟨hx, hb, hml, hown, hts⟩ (c_Jx29ce0_ordinal_8abf5 l dC dI Y g k2 r5 hr6) (va_cwU (C := RX4) 0 hts gX7_refusalOf_Jx29ce0_ordinal_8abf5_u45X4 rfl rfl rfl rfl (by decide +kernel) ⟨Nat.le_of_ble_eq_true rfl, Nat.le_of_ble_eq_true rfl⟩) ⟨wk_BTb, (va_Orecv (hT.2.1 _ h4).1 hS), wk_BTp hK hPc hT hS⟩ rfl rfl hl.1 rfl (lv_room (Nat.le_of_ble_eq_true rfl)) dX7_refusalOf_9 ⟨Nat.le_of_ble_eq_true rfl, Nat.le_of_ble_eq_true rfl⟩)) ?_
  obtain ⟨h7, hf⟩ := gin_s hf
  refine va_ti hx hb hT.2.2.2.2.2.1 hS h7 rfl dX7_refusalOf_12 ?_
  by_cases q8 : (sSw r5.toNatClampNeg) = 1
  · have hf := wk_t hf q8
    refine lv_tableIn (tgt := 56) hx hb dX7_refusalOf_13 (by rw [q8]; decide) (by rw [q8]; decide) (by rw [q8]; rfl) (by decide) ?_
    refine lv_aload_n hx hb dX7_refusalOf_56 rfl (lv_at hl 2 rfl) ?_
    refine lv_aload_n hx hb dX7_refusalOf_57 rfl (lv_at hl 0 rfl) ?_
    refine lv_iload_n hx hb dX7_refusalOf_58 rfl (lv_at hl 1 rfl) ?_
    refine lv_iconst (v := 0) hx hb dX7_refusalOf_59 (by decide) ?_
    obtain ⟨r9, hr10, hf⟩ := wkb1_s hf
    have hPc := hP.sub (ws' := (wX7 Y a g Z_v Z_m Z_ml Z_n Z_f S_position S_count S_cm S_arguments S_argumentCount)) [0, 1, 2, 3, 4] rfl
    refine wk_viT (As := [.int x1, .int 0]) (rest := [.ref (b 0)]) ⟨hx, hb, hml, hown, hts⟩ (c_X7_argument l dC dI Y g a Z_v Z_m Z_ml Z_n Z_f S_position S_count S_cm S_arguments S_argumentCount x1 0 r9 hr10) (cwV 2 hts gX7_refusalOf_X7_argument rfl rfl rfl (by decide +kernel) ⟨Nat.le_of_ble_eq_true rfl, Nat.le_of_ble_eq_true rfl⟩) hK hPc hT hS (va_recv hK hP (ci := 7) (q0 := 0) rfl rfl) rfl hl.1 rfl (Nat.le_of_ble_eq_true rfl) dX7_refusalOf_60 ⟨Nat.le_of_ble_eq_true rfl, Nat.le_of_ble_eq_true rfl⟩ ?_
    refine lv_aload_n hx hb dX7_refusalOf_63 rfl (lv_at hl 0 rfl) ?_
    refine lv_iload_n hx hb dX7_refusalOf_64 rfl (lv_at hl 1 rfl) ?_
    refine lv_iconst (v := 1) hx hb dX7_refusalOf_65 (by decide) ?_
    obtain ⟨r11, hr12, hf⟩ := wkb1_s hf
    have hPc := hP.sub (ws' := (wX7 Y a g Z_v Z_m Z_ml Z_n Z_f S_position S_count S_cm S_arguments S_argumentCount)) [0, 1, 2, 3, 4] rfl
    refine wk_viT (As := [.int x1, .int 1]) (rest := [.int r9, .ref (b 0)]) ⟨hx, hb, hml, hown, hts⟩ (c_X7_argument l dC dI Y g a Z_v Z_m Z_ml Z_n Z_f S_position S_count S_cm S_arguments S_argumentCount x1 1 r11 hr12) (cwV 2 hts gX7_refusalOf_X7_argument rfl rfl rfl (by decide +kernel) ⟨Nat.le_of_ble_eq_true rfl, Nat.le_of_ble_eq_true rfl⟩) hK hPc hT hS (va_recv hK hP (ci := 7) (q0 := 0) rfl rfl) rfl hl.1 rfl (Nat.le_of_ble_eq_true rfl) dX7_refusalOf_66 ⟨Nat.le_of_ble_eq_true rfl, Nat.le_of_ble_eq_true rfl⟩ ?_
    refine lv_aload_n hx hb dX7_refusalOf_69 rfl (lv_at hl 0 rfl) ?_
    refine lv_iload_n hx hb dX7_refusalOf_70 rfl (lv_at hl 1 rfl) ?_
    refine lv_iconst (v := 2) hx hb dX7_refusalOf_71 (by decide) ?_
    obtain ⟨r13, hr14, hf⟩ := wkb1_s hf
    have hPc := hP.sub (ws' := (wX7 Y a g Z_v Z_m Z_ml Z_n Z_f S_position S_count S_cm S_arguments S_argumentCount)) [0, 1, 2, 3, 4] rfl
    refine wk_viT (As := [.int x1, .int 2]) (rest := [.int r11, .int r9, .ref (b 0)]) ⟨hx, hb, hml, hown, hts⟩ (c_X7_argument l dC dI Y g a Z_v Z_m Z_ml Z_n Z_f S_position S_count S_cm S_arguments S_argumentCount x1 2 r13 hr14) (cwV 2 hts gX7_refusalOf_X7_argument rfl rfl rfl (by decide +kernel) ⟨Nat.le_of_ble_eq_true rfl, Nat.le_of_ble_eq_true rfl⟩) hK hPc hT hS (va_recv hK hP (ci := 7) (q0 := 0) rfl rfl) rfl hl.1 rfl (Nat.le_of_ble_eq_true rfl) dX7_refusalOf_72 ⟨Nat.le_of_ble_eq_true rfl, Nat.le_of_ble_eq_true rfl⟩ ?_
    refine lv_aload_n hx hb dX7_refusalOf_75 rfl (lv_at hl 0 rfl) ?_
    refine lv_iload_n hx hb dX7_refusalOf_76 rfl (lv_at hl 1 rfl) ?_
    refine lv_iconst (v := 3) hx hb dX7_refusalOf_77 (by decide) ?_
    obtain ⟨r15, hr16, hf⟩ := wkb1_s hf
    have hPc := hP.sub (ws' := (wX7 Y a g Z_v Z_m Z_ml Z_n Z_f S_position S_count S_cm S_arguments S_argumentCount)) [0, 1, 2, 3, 4] rfl
    refine wk_viT (As := [.int x1, .int 3]) (rest := [.int r13, .int r11, .int r9, .ref (b 0)]) ⟨hx, hb, hml, hown, hts⟩ (c_X7_argument l dC dI Y g a Z_v Z_m Z_ml Z_n Z_f S_position S_count S_cm S_arguments S_argumentCount x1 3 r15 hr16) (cwV 2 hts gX7_refusalOf_X7_argument rfl rfl rfl (by decide +kernel) ⟨Nat.le_of_ble_eq_true rfl, Nat.le_of_ble_eq_true rfl⟩) hK hPc hT hS (va_recv hK hP (ci := 7) (q0 := 0) rfl rfl) rfl hl.1 rfl (Nat.le_of_ble_eq_true rfl) dX7_refusalOf_78 ⟨Nat.le_of_ble_eq_true rfl, Nat.le_of_ble_eq_true rfl⟩ ?_
    obtain ⟨r17, hr18, hf⟩ := wkb1_s hf
    have hPc := hP.sub (ws' := (wX3 Y b T_count T_weights T_strengths T_heights T_wages T_nightsToHeal B_accounts B_balances B_balancesAtClosing B_entries B_debited B_credited B_amounts C_nights C_netWidth C_shows C_fallen)) [5, 6, 7, 8, 9, 10, 11, 12, 13, 14, 15, 16, 17] rfl
    refine wk_veT (As := [.int r9, .int r11, .int r13, .int r15]) (rest := []) ⟨hx, hb, hml, hown, hts⟩ (c_X3_refusalToHire l dC dI Y g b T_count T_weights T_strengths T_heights T_wages T_nightsToHeal B_accounts B_balances B_balancesAtClosing B_entries B_debited B_credited B_amounts C_nights C_netWidth C_shows C_fallen r9 r11 r13 r15 r17 hr18) (cwV 4 hts gX7_refusalOf_X3_refusalToHire rfl rfl rfl (by decide +kernel) ⟨Nat.le_of_ble_eq_true rfl, Nat.le_of_ble_eq_true rfl⟩) hK hPc hT hS (va_recv hK hP (ci := 5) (q0 := 5) rfl rfl) rfl hl.1 rfl (Nat.le_of_ble_eq_true rfl) dX7_refusalOf_81 ⟨Nat.le_of_ble_eq_true rfl, Nat.le_of_ble_eq_true rfl⟩ ?_
    have e0 := wke1 hf
    subst e0
    exact W.aret (v := .ref (g 0 r17)) hx hb hr (Or.inl ⟨_, rfl⟩) (Or.inr ⟨_, rfl⟩) (fun t ht hW => ⟨some r17, rfl, rfl, ht⟩) (fun q h => absurd h List.not_mem_nil) dX7_refusalOf_84
  · have hf := wk_f hf q8
    by_cases q19 : (sSw r5.toNatClampNeg) = 2
    · have hf := wk_t hf q19
      refine lv_tableIn (tgt := 85) hx hb dX7_refusalOf_13 (by rw [q19]; decide) (by rw [q19]; decide) (by rw [q19]; rfl) (by decide) ?_
      refine lv_aload_n hx hb dX7_refusalOf_85 rfl (lv_at hl 2 rfl) ?_
      refine lv_aload_n hx hb dX7_refusalOf_86 rfl (lv_at hl 0 rfl) ?_
      refine lv_iload_n hx hb dX7_refusalOf_87 rfl (lv_at hl 1 rfl) ?_
      refine lv_iconst (v := 0) hx hb dX7_refusalOf_88 (by decide) ?_
      obtain ⟨r20, hr21, hf⟩ := wkb1_s hf
      have hPc := hP.sub (ws' := (wX7 Y a g Z_v Z_m Z_ml Z_n Z_f S_position S_count S_cm S_arguments S_argumentCount)) [0, 1, 2, 3, 4] rfl
      refine wk_viT (As := [.int x1, .int 0]) (rest := [.ref (b 0)]) ⟨hx, hb, hml, hown, hts⟩ (c_X7_argument l dC dI Y g a Z_v Z_m Z_ml Z_n Z_f S_position S_count S_cm S_arguments S_argumentCount x1 0 r20 hr21) (cwV 2 hts gX7_refusalOf_X7_argument rfl rfl rfl (by decide +kernel) ⟨Nat.le_of_ble_eq_true rfl, Nat.le_of_ble_eq_true rfl⟩) hK hPc hT hS (va_recv hK hP (ci := 7) (q0 := 0) rfl rfl) rfl hl.1 rfl (Nat.le_of_ble_eq_true rfl) dX7_refusalOf_89 ⟨Nat.le_of_ble_eq_true rfl, Nat.le_of_ble_eq_true rfl⟩ ?_
      refine lv_aload_n hx hb dX7_refusalOf_92 rfl (lv_at hl 0 rfl) ?_
      refine lv_iload_n hx hb dX7_refusalOf_93 rfl (lv_at hl 1 rfl) ?_
      refine lv_iconst (v := 1) hx hb dX7_refusalOf_94 (by decide) ?_
      obtain ⟨r22, hr23, hf⟩ := wkb1_s hf
      have hPc := hP.sub (ws' := (wX7 Y a g Z_v Z_m Z_ml Z_n Z_f S_position S_count S_cm S_arguments S_argumentCount)) [0, 1, 2, 3, 4] rfl
      refine wk_viT (As := [.int x1, .int 1]) (rest := [.int r20, .ref (b 0)]) ⟨hx, hb, hml, hown, hts⟩ (c_X7_argument l dC dI Y g a Z_v Z_m Z_ml Z_n Z_f S_position S_count S_cm S_arguments S_argumentCount x1 1 r22 hr23) (cwV 2 hts gX7_refusalOf_X7_argument rfl rfl rfl (by decide +kernel) ⟨Nat.le_of_ble_eq_true rfl, Nat.le_of_ble_eq_true rfl⟩) hK hPc hT hS (va_recv hK hP (ci := 7) (q0 := 0) rfl rfl) rfl hl.1 rfl (Nat.le_of_ble_eq_true rfl) dX7_refusalOf_95 ⟨Nat.le_of_ble_eq_true rfl, Nat.le_of_ble_eq_true rfl⟩ ?_
      refine lv_aload_n hx hb dX7_refusalOf_98 rfl (lv_at hl 0 rfl) ?_
      refine lv_iload_n hx hb dX7_refusalOf_99 rfl (lv_at hl 1 rfl) ?_
      refine lv_iconst (v := 2) hx hb dX7_refusalOf_100 (by decide) ?_
      obtain ⟨r24, hr25, hf⟩ := wkb1_s hf
      have hPc := hP.sub (ws' := (wX7 Y a g Z_v Z_m Z_ml Z_n Z_f S_position S_count S_cm S_arguments S_argumentCount)) [0, 1, 2, 3, 4] rfl
      refine wk_viT (As := [.int x1, .int 2]) (rest := [.int r22, .int r20, .ref (b 0)]) ⟨hx, hb, hml, hown, hts⟩ (c_X7_argument l dC dI Y g a Z_v Z_m Z_ml Z_n Z_f S_position S_count S_cm S_arguments S_argumentCount x1 2 r24 hr25) (cwV 2 hts gX7_refusalOf_X7_argument rfl rfl rfl (by decide +kernel) ⟨Nat.le_of_ble_eq_true rfl, Nat.le_of_ble_eq_true rfl⟩) hK hPc hT hS (va_recv hK hP (ci := 7) (q0 := 0) rfl rfl) rfl hl.1 rfl (Nat.le_of_ble_eq_true rfl) dX7_refusalOf_101 ⟨Nat.le_of_ble_eq_true rfl, Nat.le_of_ble_eq_true rfl⟩ ?_
      obtain ⟨r26, hr27, hf⟩ := wkb1_s hf
      have hPc := hP.sub (ws' := (wX3 Y b T_count T_weights T_strengths T_heights T_wages T_nightsToHeal B_accounts B_balances B_balancesAtClosing B_entries B_debited B_credited B_amounts C_nights C_netWidth C_shows C_fallen)) [5, 6, 7, 8, 9, 10, 11, 12, 13, 14, 15, 16, 17] rfl
      refine wk_veT (As := [.int r20, .int r22, .int r24]) (rest := []) ⟨hx, hb, hml, hown, hts⟩ (c_X3_refusalToBook l dC dI Y g b T_count T_weights T_strengths T_heights T_wages T_nightsToHeal B_accounts B_balances B_balancesAtClosing B_entries B_debited B_credited B_amounts C_nights C_netWidth C_shows C_fallen r20 r22 r24 r26 hr27) (cwV 3 hts gX7_refusalOf_X3_refusalToBook rfl rfl rfl (by decide +kernel) ⟨Nat.le_of_ble_eq_true rfl, Nat.le_of_ble_eq_true rfl⟩) hK hPc hT hS (va_recv hK hP (ci := 5) (q0 := 5) rfl rfl) rfl hl.1 rfl (Nat.le_of_ble_eq_true rfl) dX7_refusalOf_104 ⟨Nat.le_of_ble_eq_true rfl, Nat.le_of_ble_eq_true rfl⟩ ?_
      have e0 := wke1 hf
      subst e0
      exact W.aret (v := .ref (g 0 r26)) hx hb hr (Or.inl ⟨_, rfl⟩) (Or.inr ⟨_, rfl⟩) (fun t ht hW => ⟨some r26, rfl, rfl, ht⟩) (fun q h => absurd h List.not_mem_nil) dX7_refusalOf_107
    · have hf := wk_f hf q19
      by_cases q28 : (sSw r5.toNatClampNeg) = 3
      · have hf := wk_t hf q28
        refine lv_tableIn (tgt := 108) hx hb dX7_refusalOf_13 (by rw [q28]; decide) (by rw [q28]; decide) (by rw [q28]; rfl) (by decide) ?_
        refine lv_aload_n hx hb dX7_refusalOf_108 rfl (lv_at hl 2 rfl) ?_
        refine lv_aload_n hx hb dX7_refusalOf_109 rfl (lv_at hl 0 rfl) ?_
        refine lv_iload_n hx hb dX7_refusalOf_110 rfl (lv_at hl 1 rfl) ?_
        refine lv_iconst (v := 0) hx hb dX7_refusalOf_111 (by decide) ?_
        obtain ⟨r29, hr30, hf⟩ := wkb1_s hf
        have hPc := hP.sub (ws' := (wX7 Y a g Z_v Z_m Z_ml Z_n Z_f S_position S_count S_cm S_arguments S_argumentCount)) [0, 1, 2, 3, 4] rfl
        refine wk_viT (As := [.int x1, .int 0]) (rest := [.ref (b 0)]) ⟨hx, hb, hml, hown, hts⟩ (c_X7_argument l dC dI Y g a Z_v Z_m Z_ml Z_n Z_f S_position S_count S_cm S_arguments S_argumentCount x1 0 r29 hr30) (cwV 2 hts gX7_refusalOf_X7_argument rfl rfl rfl (by decide +kernel) ⟨Nat.le_of_ble_eq_true rfl, Nat.le_of_ble_eq_true rfl⟩) hK hPc hT hS (va_recv hK hP (ci := 7) (q0 := 0) rfl rfl) rfl hl.1 rfl (Nat.le_of_ble_eq_true rfl) dX7_refusalOf_112 ⟨Nat.le_of_ble_eq_true rfl, Nat.le_of_ble_eq_true rfl⟩ ?_
        refine lv_aload_n hx hb dX7_refusalOf_115 rfl (lv_at hl 0 rfl) ?_
        refine lv_iload_n hx hb dX7_refusalOf_116 rfl (lv_at hl 1 rfl) ?_
        refine lv_iconst (v := 1) hx hb dX7_refusalOf_117 (by decide) ?_
        obtain ⟨r31, hr32, hf⟩ := wkb1_s hf
        have hPc := hP.sub (ws' := (wX7 Y a g Z_v Z_m Z_ml Z_n Z_f S_position S_count S_cm S_arguments S_argumentCount)) [0, 1, 2, 3, 4] rfl
        refine wk_viT (As := [.int x1, .int 1]) (rest := [.int r29, .ref (b 0)]) ⟨hx, hb, hml, hown, hts⟩ (c_X7_argument l dC dI Y g a Z_v Z_m Z_ml Z_n Z_f S_position S_count S_cm S_arguments S_argumentCount x1 1 r31 hr32) (cwV 2 hts gX7_refusalOf_X7_argument rfl rfl rfl (by decide +kernel) ⟨Nat.le_of_ble_eq_true rfl, Nat.le_of_ble_eq_true rfl⟩) hK hPc hT hS (va_recv hK hP (ci := 7) (q0 := 0) rfl rfl) rfl hl.1 rfl (Nat.le_of_ble_eq_true rfl) dX7_refusalOf_118 ⟨Nat.le_of_ble_eq_true rfl, Nat.le_of_ble_eq_true rfl⟩ ?_
        obtain ⟨r33, hr34, hf⟩ := wkb1_s hf
        have hPc := hP.sub (ws' := (wX3 Y b T_count T_weights T_strengths T_heights T_wages T_nightsToHeal B_accounts B_balances B_balancesAtClosing B_entries B_debited B_credited B_amounts C_nights C_netWidth C_shows C_fallen)) [5, 6, 7, 8, 9, 10, 11, 12, 13, 14, 15, 16, 17] rfl
        refine wk_veT (As := [.int r29, .int r31]) (rest := []) ⟨hx, hb, hml, hown, hts⟩ (c_X3_refusalToPay l dC dI Y g b T_count T_weights T_strengths T_heights T_wages T_nightsToHeal B_accounts B_balances B_balancesAtClosing B_entries B_debited B_credited B_amounts C_nights C_netWidth C_shows C_fallen r29 r31 r33 hr34) (cwV 2 hts gX7_refusalOf_X3_refusalToPay rfl rfl rfl (by decide +kernel) ⟨Nat.le_of_ble_eq_true rfl, Nat.le_of_ble_eq_true rfl⟩) hK hPc hT hS (va_recv hK hP (ci := 5) (q0 := 5) rfl rfl) rfl hl.1 rfl (Nat.le_of_ble_eq_true rfl) dX7_refusalOf_121 ⟨Nat.le_of_ble_eq_true rfl, Nat.le_of_ble_eq_true rfl⟩ ?_
        have e0 := wke1 hf
        subst e0
        exact W.aret (v := .ref (g 0 r33)) hx hb hr (Or.inl ⟨_, rfl⟩) (Or.inr ⟨_, rfl⟩) (fun t ht hW => ⟨some r33, rfl, rfl, ht⟩) (fun q h => absurd h List.not_mem_nil) dX7_refusalOf_124
      · have hf := wk_f hf q28
        by_cases q35 : (sSw r5.toNatClampNeg) = 4
        · have hf := wk_t hf q35
          refine lv_tableIn (tgt := 125) hx hb dX7_refusalOf_13 (by rw [q35]; decide) (by rw [q35]; decide) (by rw [q35]; rfl) (by decide) ?_
          refine lv_aload_n hx hb dX7_refusalOf_125 rfl (lv_at hl 2 rfl) ?_
          refine lv_aload_n hx hb dX7_refusalOf_126 rfl (lv_at hl 0 rfl) ?_
          refine lv_iload_n hx hb dX7_refusalOf_127 rfl (lv_at hl 1 rfl) ?_
          refine lv_iconst (v := 0) hx hb dX7_refusalOf_128 (by decide) ?_
          obtain ⟨r36, hr37, hf⟩ := wkb1_s hf
          have hPc := hP.sub (ws' := (wX7 Y a g Z_v Z_m Z_ml Z_n Z_f S_position S_count S_cm S_arguments S_argumentCount)) [0, 1, 2, 3, 4] rfl
          refine wk_viT (As := [.int x1, .int 0]) (rest := [.ref (b 0)]) ⟨hx, hb, hml, hown, hts⟩ (c_X7_argument l dC dI Y g a Z_v Z_m Z_ml Z_n Z_f S_position S_count S_cm S_arguments S_argumentCount x1 0 r36 hr37) (cwV 2 hts gX7_refusalOf_X7_argument rfl rfl rfl (by decide +kernel) ⟨Nat.le_of_ble_eq_true rfl, Nat.le_of_ble_eq_true rfl⟩) hK hPc hT hS (va_recv hK hP (ci := 7) (q0 := 0) rfl rfl) rfl hl.1 rfl (Nat.le_of_ble_eq_true rfl) dX7_refusalOf_129 ⟨Nat.le_of_ble_eq_true rfl, Nat.le_of_ble_eq_true rfl⟩ ?_
          obtain ⟨r38, hr39, hf⟩ := wkb1_s hf
          have hPc := hP.sub (ws' := (wX3 Y b T_count T_weights T_strengths T_heights T_wages T_nightsToHeal B_accounts B_balances B_balancesAtClosing B_entries B_debited B_credited B_amounts C_nights C_netWidth C_shows C_fallen)) [5, 6, 7, 8, 9, 10, 11, 12, 13, 14, 15, 16, 17] rfl
          refine wk_veT (As := [.int r36]) (rest := []) ⟨hx, hb, hml, hown, hts⟩ (c_X3_refusalToShow l dC dI Y g b T_count T_weights T_strengths T_heights T_wages T_nightsToHeal B_accounts B_balances B_balancesAtClosing B_entries B_debited B_credited B_amounts C_nights C_netWidth C_shows C_fallen r36 r38 hr39) (cwV 1 hts gX7_refusalOf_X3_refusalToShow rfl rfl rfl (by decide +kernel) ⟨Nat.le_of_ble_eq_true rfl, Nat.le_of_ble_eq_true rfl⟩) hK hPc hT hS (va_recv hK hP (ci := 5) (q0 := 5) rfl rfl) rfl hl.1 rfl (Nat.le_of_ble_eq_true rfl) dX7_refusalOf_132 ⟨Nat.le_of_ble_eq_true rfl, Nat.le_of_ble_eq_true rfl⟩ ?_
          have e0 := wke1 hf
          subst e0
          exact W.aret (v := .ref (g 0 r38)) hx hb hr (Or.inl ⟨_, rfl⟩) (Or.inr ⟨_, rfl⟩) (fun t ht hW => ⟨some r38, rfl, rfl, ht⟩) (fun q h => absurd h List.not_mem_nil) dX7_refusalOf_135
        · have hf := wk_f hf q35
          by_cases q40 : (sSw r5.toNatClampNeg) = 5
          · have hf := wk_t hf q40
            refine lv_tableIn (tgt := 136) hx hb dX7_refusalOf_13 (by rw [q40]; decide) (by rw [q40]; decide) (by rw [q40]; rfl) (by decide) ?_
            refine lv_aload_n hx hb dX7_refusalOf_136 rfl (lv_at hl 2 rfl) ?_
            refine lv_aload_n hx hb dX7_refusalOf_137 rfl (lv_at hl 0 rfl) ?_
            refine lv_iload_n hx hb dX7_refusalOf_138 rfl (lv_at hl 1 rfl) ?_
            refine lv_iconst (v := 0) hx hb dX7_refusalOf_139 (by decide) ?_
            obtain ⟨r41, hr42, hf⟩ := wkb1_s hf
            have hPc := hP.sub (ws' := (wX7 Y a g Z_v Z_m Z_ml Z_n Z_f S_position S_count S_cm S_arguments S_argumentCount)) [0, 1, 2, 3, 4] rfl
            refine wk_viT (As := [.int x1, .int 0]) (rest := [.ref (b 0)]) ⟨hx, hb, hml, hown, hts⟩ (c_X7_argument l dC dI Y g a Z_v Z_m Z_ml Z_n Z_f S_position S_count S_cm S_arguments S_argumentCount x1 0 r41 hr42) (cwV 2 hts gX7_refusalOf_X7_argument rfl rfl rfl (by decide +kernel) ⟨Nat.le_of_ble_eq_true rfl, Nat.le_of_ble_eq_true rfl⟩) hK hPc hT hS (va_recv hK hP (ci := 7) (q0 := 0) rfl rfl) rfl hl.1 rfl (Nat.le_of_ble_eq_true rfl) dX7_refusalOf_140 ⟨Nat.le_of_ble_eq_true rfl, Nat.le_of_ble_eq_true rfl⟩ ?_
            obtain ⟨r43, hr44, hf⟩ := wkb1_s hf
            have hPc := hP.sub (ws' := (wX3 Y b T_count T_weights T_strengths T_heights T_wages T_nightsToHeal B_accounts B_balances B_balancesAtClosing B_entries B_debited B_credited B_amounts C_nights C_netWidth C_shows C_fallen)) [5, 6, 7, 8, 9, 10, 11, 12, 13, 14, 15, 16, 17] rfl
            refine wk_veT (As := [.int r41]) (rest := []) ⟨hx, hb, hml, hown, hts⟩ (c_X3_refusalToSpan l dC dI Y g b T_count T_weights T_strengths T_heights T_wages T_nightsToHeal B_accounts B_balances B_balancesAtClosing B_entries B_debited B_credited B_amounts C_nights C_netWidth C_shows C_fallen r41 r43 hr44) (cwV 1 hts gX7_refusalOf_X3_refusalToSpan rfl rfl rfl (by decide +kernel) ⟨Nat.le_of_ble_eq_true rfl, Nat.le_of_ble_eq_true rfl⟩) hK hPc hT hS (va_recv hK hP (ci := 5) (q0 := 5) rfl rfl) rfl hl.1 rfl (Nat.le_of_ble_eq_true rfl) dX7_refusalOf_143 ⟨Nat.le_of_ble_eq_true rfl, Nat.le_of_ble_eq_true rfl⟩ ?_
            have e0 := wke1 hf
            subst e0
            exact W.aret (v := .ref (g 0 r43)) hx hb hr (Or.inl ⟨_, rfl⟩) (Or.inr ⟨_, rfl⟩) (fun t ht hW => ⟨some r43, rfl, rfl, ht⟩) (fun q h => absurd h List.not_mem_nil) dX7_refusalOf_146
          · have hf := wk_f hf q40
            by_cases q45 : (sSw r5.toNatClampNeg) = 6
            · have hf := wk_t hf q45
              refine lv_tableIn (tgt := 147) hx hb dX7_refusalOf_13 (by rw [q45]; decide) (by rw [q45]; decide) (by rw [q45]; rfl) (by decide) ?_
              refine lv_aload_n hx hb dX7_refusalOf_147 rfl (lv_at hl 2 rfl) ?_
              refine lv_aload_n hx hb dX7_refusalOf_148 rfl (lv_at hl 0 rfl) ?_
              refine lv_iload_n hx hb dX7_refusalOf_149 rfl (lv_at hl 1 rfl) ?_
              refine lv_iconst (v := 0) hx hb dX7_refusalOf_150 (by decide) ?_
              obtain ⟨r46, hr47, hf⟩ := wkb1_s hf
              have hPc := hP.sub (ws' := (wX7 Y a g Z_v Z_m Z_ml Z_n Z_f S_position S_count S_cm S_arguments S_argumentCount)) [0, 1, 2, 3, 4] rfl
              refine wk_viT (As := [.int x1, .int 0]) (rest := [.ref (b 0)]) ⟨hx, hb, hml, hown, hts⟩ (c_X7_argument l dC dI Y g a Z_v Z_m Z_ml Z_n Z_f S_position S_count S_cm S_arguments S_argumentCount x1 0 r46 hr47) (cwV 2 hts gX7_refusalOf_X7_argument rfl rfl rfl (by decide +kernel) ⟨Nat.le_of_ble_eq_true rfl, Nat.le_of_ble_eq_true rfl⟩) hK hPc hT hS (va_recv hK hP (ci := 7) (q0 := 0) rfl rfl) rfl hl.1 rfl (Nat.le_of_ble_eq_true rfl) dX7_refusalOf_151 ⟨Nat.le_of_ble_eq_true rfl, Nat.le_of_ble_eq_true rfl⟩ ?_
              obtain ⟨r48, hr49, hf⟩ := wkb1_s hf
              have hPc := hP.sub (ws' := (wX3 Y b T_count T_weights T_strengths T_heights T_wages T_nightsToHeal B_accounts B_balances B_balancesAtClosing B_entries B_debited B_credited B_amounts C_nights C_netWidth C_shows C_fallen)) [5, 6, 7, 8, 9, 10, 11, 12, 13, 14, 15, 16, 17] rfl
              refine wk_veT (As := [.int r46]) (rest := []) ⟨hx, hb, hml, hown, hts⟩ (c_X3_refusalToWait l dC dI Y g b T_count T_weights T_strengths T_heights T_wages T_nightsToHeal B_accounts B_balances B_balancesAtClosing B_entries B_debited B_credited B_amounts C_nights C_netWidth C_shows C_fallen r46 r48 hr49) (cwV 1 hts gX7_refusalOf_X3_refusalToWait rfl rfl rfl (by decide +kernel) ⟨Nat.le_of_ble_eq_true rfl, Nat.le_of_ble_eq_true rfl⟩) hK hPc hT hS (va_recv hK hP (ci := 5) (q0 := 5) rfl rfl) rfl hl.1 rfl (Nat.le_of_ble_eq_true rfl) dX7_refusalOf_154 ⟨Nat.le_of_ble_eq_true rfl, Nat.le_of_ble_eq_true rfl⟩ ?_
              have e0 := wke1 hf
              subst e0
              exact W.aret (v := .ref (g 0 r48)) hx hb hr (Or.inl ⟨_, rfl⟩) (Or.inr ⟨_, rfl⟩) (fun t ht hW => ⟨some r48, rfl, rfl, ht⟩) (fun q h => absurd h List.not_mem_nil) dX7_refusalOf_157
            · have hf := wk_f hf q45
              by_cases q50 : (sSw r5.toNatClampNeg) = 7
              · have hf := wk_t hf q50
                refine lv_tableIn (tgt := 158) hx hb dX7_refusalOf_13 (by rw [q50]; decide) (by rw [q50]; decide) (by rw [q50]; rfl) (by decide) ?_
                refine lv_aload_n hx hb dX7_refusalOf_158 rfl (lv_at hl 2 rfl) ?_
                refine lv_aload_n hx hb dX7_refusalOf_159 rfl (lv_at hl 0 rfl) ?_
                refine lv_iload_n hx hb dX7_refusalOf_160 rfl (lv_at hl 1 rfl) ?_
                refine lv_iconst (v := 0) hx hb dX7_refusalOf_161 (by decide) ?_
                obtain ⟨r51, hr52, hf⟩ := wkb1_s hf
                have hPc := hP.sub (ws' := (wX7 Y a g Z_v Z_m Z_ml Z_n Z_f S_position S_count S_cm S_arguments S_argumentCount)) [0, 1, 2, 3, 4] rfl
                refine wk_viT (As := [.int x1, .int 0]) (rest := [.ref (b 0)]) ⟨hx, hb, hml, hown, hts⟩ (c_X7_argument l dC dI Y g a Z_v Z_m Z_ml Z_n Z_f S_position S_count S_cm S_arguments S_argumentCount x1 0 r51 hr52) (cwV 2 hts gX7_refusalOf_X7_argument rfl rfl rfl (by decide +kernel) ⟨Nat.le_of_ble_eq_true rfl, Nat.le_of_ble_eq_true rfl⟩) hK hPc hT hS (va_recv hK hP (ci := 7) (q0 := 0) rfl rfl) rfl hl.1 rfl (Nat.le_of_ble_eq_true rfl) dX7_refusalOf_162 ⟨Nat.le_of_ble_eq_true rfl, Nat.le_of_ble_eq_true rfl⟩ ?_
                refine lv_aload_n hx hb dX7_refusalOf_165 rfl (lv_at hl 0 rfl) ?_
                refine lv_iload_n hx hb dX7_refusalOf_166 rfl (lv_at hl 1 rfl) ?_
                refine lv_iconst (v := 1) hx hb dX7_refusalOf_167 (by decide) ?_
                obtain ⟨r53, hr54, hf⟩ := wkb1_s hf
                have hPc := hP.sub (ws' := (wX7 Y a g Z_v Z_m Z_ml Z_n Z_f S_position S_count S_cm S_arguments S_argumentCount)) [0, 1, 2, 3, 4] rfl
                refine wk_viT (As := [.int x1, .int 1]) (rest := [.int r51, .ref (b 0)]) ⟨hx, hb, hml, hown, hts⟩ (c_X7_argument l dC dI Y g a Z_v Z_m Z_ml Z_n Z_f S_position S_count S_cm S_arguments S_argumentCount x1 1 r53 hr54) (cwV 2 hts gX7_refusalOf_X7_argument rfl rfl rfl (by decide +kernel) ⟨Nat.le_of_ble_eq_true rfl, Nat.le_of_ble_eq_true rfl⟩) hK hPc hT hS (va_recv hK hP (ci := 7) (q0 := 0) rfl rfl) rfl hl.1 rfl (Nat.le_of_ble_eq_true rfl) dX7_refusalOf_168 ⟨Nat.le_of_ble_eq_true rfl, Nat.le_of_ble_eq_true rfl⟩ ?_
                obtain ⟨r55, hr56, hf⟩ := wkb1_s hf
                have hPc := hP.sub (ws' := (wX3 Y b T_count T_weights T_strengths T_heights T_wages T_nightsToHeal B_accounts B_balances B_balancesAtClosing B_entries B_debited B_credited B_amounts C_nights C_netWidth C_shows C_fallen)) [5, 6, 7, 8, 9, 10, 11, 12, 13, 14, 15, 16, 17] rfl
                refine wk_veT (As := [.int r51, .int r53]) (rest := []) ⟨hx, hb, hml, hown, hts⟩ (c_X3_refusalToOffset l dC dI Y g b T_count T_weights T_strengths T_heights T_wages T_nightsToHeal B_accounts B_balances B_balancesAtClosing B_entries B_debited B_credited B_amounts C_nights C_netWidth C_shows C_fallen r51 r53 r55 hr56) (cwV 2 hts gX7_refusalOf_X3_refusalToOffset rfl rfl rfl (by decide +kernel) ⟨Nat.le_of_ble_eq_true rfl, Nat.le_of_ble_eq_true rfl⟩) hK hPc hT hS (va_recv hK hP (ci := 5) (q0 := 5) rfl rfl) rfl hl.1 rfl (Nat.le_of_ble_eq_true rfl) dX7_refusalOf_171 ⟨Nat.le_of_ble_eq_true rfl, Nat.le_of_ble_eq_true rfl⟩ ?_
                have e0 := wke1 hf
                subst e0
                exact W.aret (v := .ref (g 0 r55)) hx hb hr (Or.inl ⟨_, rfl⟩) (Or.inr ⟨_, rfl⟩) (fun t ht hW => ⟨some r55, rfl, rfl, ht⟩) (fun q h => absurd h List.not_mem_nil) dX7_refusalOf_174
              · have hf := wk_f hf q50
                refine lv_tableOut (tgt := 175) hx hb dX7_refusalOf_13 (by have z0 := wk_ne (k := 1) (by decide) q8; have z1 := wk_ne (k := 2) (by decide) q19; have z2 := wk_ne (k := 3) (by decide) q28; have z3 := wk_ne (k := 4) (by decide) q35; have z4 := wk_ne (k := 5) (by decide) q40; have z5 := wk_ne (k := 6) (by decide) q45; have z6 := wk_ne (k := 7) (by decide) q50; omega) (by decide) ?_
                refine va_gets (v := .ref (g 0 0)) hx hb (hT.1.1 0 (by decide)).1 hS hown (hts _ lk_X7_refusalOf_RX7_79) (fun _ h9 => h9) dX7_refusalOf_175 ?_
                have e0 := wke1 hf
                subst e0
                exact W.aret (v := .ref (g 0 0)) hx hb hr (Or.inl ⟨_, rfl⟩) (Or.inr ⟨_, rfl⟩) (fun t ht hW => ⟨some 0, rfl, rfl, ht⟩) (fun q h => absurd h List.not_mem_nil) dX7_refusalOf_178
theorem lk_X7_execute_RX7_20 : Cond.fieldLink RX7 20 "CircusLedger$Script" "commands" "[LCircusLedger$Command;" ∈ wsX7_execute := by decide +kernel
theorem lk_X7_execute_RX7_40 : Cond.fieldLink RX7 40 "CircusLedger$1" "$SwitchMap$CircusLedger$Command" "[I" ∈ wsX7_execute := by decide +kernel
theorem lk_X7_execute_RX7_89 : Cond.fieldLink RX7 89 "CircusLedger$Circus" "books" "LCircusLedger$Books;" ∈ wsX7_execute := by decide +kernel
theorem in_X7_execute_X3 : ∀ w ∈ u_ws RX3 TX3 6, w ∈ wsX7_execute := by decide +kernel
theorem in_X7_execute_X7 : ∀ w ∈ u_ws RX7 TX7 6, w ∈ wsX7_execute := by decide +kernel
def f_X7_execute (S_cm : Nat → Option Nat) (S_arguments : Nat → Int32) (T_count : Int32) (T_weights : Nat → Int32) (T_strengths : Nat → Int32) (T_heights : Nat → Int32) (T_wages : Nat → Int32) (T_nightsToHeal : Nat → Int32) (B_accounts : Int32) (B_balances : Nat → Int32) (B_balancesAtClosing : Nat → Int32) (B_entries : Int32) (B_debited : Nat → Int32) (B_credited : Nat → Int32) (B_amounts : Nat → Int32) (C_nights : Int32) (C_netWidth : Int32) (C_shows : Int32) (C_fallen : Int32) (x1 : Int32) : Option (Int32 × (Nat → Int32) × (Nat → Int32) × (Nat → Int32) × (Nat → Int32) × (Nat → Int32) × Int32 × (Nat → Int32) × (Nat → Int32) × Int32 × (Nat → Int32) × (Nat → Int32) × (Nat → Int32) × Int32 × Int32 × Int32 × Int32) :=
  gin x1 12 (wkb1 (S_cm x1.toNatClampNeg) (fun k2 =>
  gok (k2 < 8) (wkb1 (f_Jx29ce0_ordinal_8abf5 k2) (fun r5 =>
  gin r5 8 (if (sSw r5.toNatClampNeg) = 1 then
    (wkb1 (f_X7_argument S_arguments x1 0) (fun r9 =>
    wkb1 (f_X7_argument S_arguments x1 1) (fun r11 =>
    wkb1 (f_X7_argument S_arguments x1 2) (fun r13 =>
    wkb1 (f_X7_argument S_arguments x1 3) (fun r15 =>
    wkb7 (f_X3_hire T_count T_weights T_strengths T_heights T_wages B_accounts r9 r11 r13 r15) (fun r17 w18 w19 w20 w21 w22 w23 =>
    some (w18, w19, w20, w21, w22, T_nightsToHeal, w23, B_balances, B_balancesAtClosing, B_entries, B_debited, B_credited, B_amounts, C_nights, C_netWidth, C_shows, C_fallen)))))))
  else
    (if (sSw r5.toNatClampNeg) = 2 then
      (wkb1 (f_X7_argument S_arguments x1 0) (fun r27 =>
      wkb1 (f_X7_argument S_arguments x1 1) (fun r29 =>
      wkb1 (f_X7_argument S_arguments x1 2) (fun r31 =>
      wkb6 (f_X2_book B_balances B_entries B_debited B_credited B_amounts r27 r29 r31) (fun r33 w34 w35 w36 w37 w38 =>
      some (T_count, T_weights, T_strengths, T_heights, T_wages, T_nightsToHeal, B_accounts, w34, B_balancesAtClosing, w35, w36, w37, w38, C_nights, C_netWidth, C_shows, C_fallen))))))
    else
      (if (sSw r5.toNatClampNeg) = 3 then
        (wkb1 (f_X7_argument S_arguments x1 0) (fun r42 =>
        wkb1 (f_X7_argument S_arguments x1 1) (fun r44 =>
        wkb6 (f_X3_pay B_balances B_entries B_debited B_credited B_amounts r42 r44) (fun r46 w47 w48 w49 w50 w51 =>
        some (T_count, T_weights, T_strengths, T_heights, T_wages, T_nightsToHeal, B_accounts, w47, B_balancesAtClosing, w48, w49, w50, w51, C_nights, C_netWidth, C_shows, C_fallen)))))
      else
        (if (sSw r5.toNatClampNeg) = 4 then
          (wkb1 (f_X7_argument S_arguments x1 0) (fun r55 =>
          wkb10 (f_X3_giveShow T_count T_weights T_strengths T_heights T_wages T_nightsToHeal B_balances B_entries B_debited B_credited B_amounts C_nights C_netWidth C_shows C_fallen r55) (fun r57 w58 w59 w60 w61 w62 w63 w64 w65 w66 =>
          some (T_count, T_weights, T_strengths, T_heights, T_wages, w58, B_accounts, w59, B_balancesAtClosing, w60, w61, w62, w63, w64, C_netWidth, w65, w66))))
        else
          (if (sSw r5.toNatClampNeg) = 5 then
            (wkb1 (f_X7_argument S_arguments x1 0) (fun r70 =>
            wkb2 (f_X3_spanNet C_netWidth r70) (fun r72 w73 =>
            some (T_count, T_weights, T_strengths, T_heights, T_wages, T_nightsToHeal, B_accounts, B_balances, B_balancesAtClosing, B_entries, B_debited, B_credited, B_amounts, C_nights, w73, C_shows, C_fallen))))
          else
            (if (sSw r5.toNatClampNeg) = 6 then
              (wkb1 (f_X7_argument S_arguments x1 0) (fun r77 =>
              wkb3 (f_X3_waitNights T_count T_nightsToHeal C_nights r77) (fun r79 w80 w81 =>
              some (T_count, T_weights, T_strengths, T_heights, T_wages, w80, B_accounts, B_balances, B_balancesAtClosing, B_entries, B_debited, B_credited, B_amounts, w81, C_netWidth, C_shows, C_fallen))))
            else
              (if (sSw r5.toNatClampNeg) = 7 then
                (wkb1 (f_X7_argument S_arguments x1 0) (fun r85 =>
                wkb1 (f_X7_argument S_arguments x1 1) (fun r87 =>
                wkb6 (f_X2_offset B_balances B_entries B_debited B_credited B_amounts r85 r87) (fun r89 w90 w91 w92 w93 w94 =>
                some (T_count, T_weights, T_strengths, T_heights, T_wages, T_nightsToHeal, B_accounts, w90, B_balancesAtClosing, w91, w92, w93, w94, C_nights, C_netWidth, C_shows, C_fallen)))))
              else
                (if (sSw r5.toNatClampNeg) = 8 then
                  (wkb3 (f_X2_close B_balances B_balancesAtClosing B_entries) (fun r98 w99 w100 =>
                  some (T_count, T_weights, T_strengths, T_heights, T_wages, T_nightsToHeal, B_accounts, B_balances, w99, w100, B_debited, B_credited, B_amounts, C_nights, C_netWidth, C_shows, C_fallen)))
                else
                  (some (T_count, T_weights, T_strengths, T_heights, T_wages, T_nightsToHeal, B_accounts, B_balances, B_balancesAtClosing, B_entries, B_debited, B_credited, B_amounts, C_nights, C_netWidth, C_shows, C_fallen))))))))))))))
set_option maxHeartbeats 4000000 in
set_option maxRecDepth 100000 in
theorem c_X7_execute (l : Launch) (dC : Nat → ClassId) (dI : Nat → Nat → Nat) (Y : Nat → ClassId) (g : Nat → Nat → Nat) (a : Nat → Nat) (b : Nat → Nat) (Z_v : Nat) (Z_m : Nat) (Z_ml : Int32) (Z_n : Int32) (Z_f : Nat → Int32) (S_position : Int32) (S_count : Int32) (S_cm : Nat → Option Nat) (S_arguments : Nat → Int32) (S_argumentCount : Int32) (T_count : Int32) (T_weights : Nat → Int32) (T_strengths : Nat → Int32) (T_heights : Nat → Int32) (T_wages : Nat → Int32) (T_nightsToHeal : Nat → Int32) (B_accounts : Int32) (B_balances : Nat → Int32) (B_balancesAtClosing : Nat → Int32) (B_entries : Int32) (B_debited : Nat → Int32) (B_credited : Nat → Int32) (B_amounts : Nat → Int32) (C_nights : Int32) (C_netWidth : Int32) (C_shows : Int32) (C_fallen : Int32) (x1 : Int32) (sz : Nat) (zT_count : Int32) (zT_weights : Nat → Int32) (zT_strengths : Nat → Int32) (zT_heights : Nat → Int32) (zT_wages : Nat → Int32) (zT_nightsToHeal : Nat → Int32) (zB_accounts : Int32) (zB_balances : Nat → Int32) (zB_balancesAtClosing : Nat → Int32) (zB_entries : Int32) (zB_debited : Nat → Int32) (zB_credited : Nat → Int32) (zB_amounts : Nat → Int32) (zC_nights : Int32) (zC_netWidth : Int32) (zC_shows : Int32) (zC_fallen : Int32) (hf : f_X7_execute S_cm S_arguments T_count T_weights T_strengths T_heights T_wages T_nightsToHeal B_accounts B_balances B_balancesAtClosing B_entries B_debited B_credited B_amounts C_nights C_netWidth C_shows C_fallen x1 = some (zT_count, zT_weights, zT_strengths, zT_heights, zT_wages, zT_nightsToHeal, zB_accounts, zB_balances, zB_balancesAtClosing, zB_entries, zB_debited, zB_credited, zB_amounts, zC_nights, zC_netWidth, zC_shows, zC_fallen)) : Met l yX7_execute wsX7_execute ({ frames := 5, cells := 0, slots := 0, locals := 221 } : Room) (va_Pc [.ref (a 0), .int x1, .ref (b 0)] (wk_ET (dC, dI) Y g ((wX7 Y a g Z_v Z_m Z_ml Z_n Z_f S_position S_count S_cm S_arguments S_argumentCount) ++ (wX3 Y b T_count T_weights T_strengths T_heights T_wages T_nightsToHeal B_accounts B_balances B_balancesAtClosing B_entries B_debited B_credited B_amounts C_nights C_netWidth C_shows C_fallen)) sz)) (va_Qv (fun (_ : Nat) => True) (fun u9 t => wk_X (dC, dI) Y ((wX7 Y a g Z_v Z_m Z_ml Z_n Z_f S_position S_count S_cm S_arguments S_argumentCount) ++ (wX3 Y b zT_count zT_weights zT_strengths zT_heights zT_wages zT_nightsToHeal zB_accounts zB_balances zB_balancesAtClosing zB_entries zB_debited zB_credited zB_amounts zC_nights zC_netWidth zC_shows zC_fallen)) (va_A ((wX7 Y a g Z_v Z_m Z_ml Z_n Z_f S_position S_count S_cm S_arguments S_argumentCount) ++ (wX3 Y b T_count T_weights T_strengths T_heights T_wages T_nightsToHeal B_accounts B_balances B_balancesAtClosing B_entries B_debited B_credited B_amounts C_nights C_netWidth C_shows C_fallen)) sz) t) (va_A ((wX7 Y a g Z_v Z_m Z_ml Z_n Z_f S_position S_count S_cm S_arguments S_argumentCount) ++ (wX3 Y b T_count T_weights T_strengths T_heights T_wages T_nightsToHeal B_accounts B_balances B_balancesAtClosing B_entries B_debited B_credited B_amounts C_nights C_netWidth C_shows C_fallen)) sz)) 0 0 (va_A ((wX7 Y a g Z_v Z_m Z_ml Z_n Z_f S_position S_count S_cm S_arguments S_argumentCount) ++ (wX3 Y b T_count T_weights T_strengths T_heights T_wages T_nightsToHeal B_accounts B_balances B_balancesAtClosing B_entries B_debited B_credited B_amounts C_nights C_netWidth C_shows C_fallen)) sz) := by
  refine Met.ofW (cc := cX7_execute) (maxL := 3) (ret := none) (by decide) rfl ?_
  intro p e s m args below meth c s₁ B hml hv
  obtain ⟨rfl, ⟨hsz, hP, hK, hD0⟩, hT⟩ := hv
  have hx := B.exec
  have hb := B.bytes
  have hr := B.returns
  have hts := atoms_spec (ws := wsX7_execute) B.pre
  have hown : s.vm.findClass RX7 = some m.cls := findClass_of_methodNamed B.named
  have hlocks := B.notSynchronized
  have C0 : wk_C p s m _ meth c cX7_execute 3 none wsX7_execute RX7 := ⟨hx, hb, hml, hr, hlocks, hown, hts⟩
  subst hsz
  have hD := hD0.self (sz := s.heap.size)
  generalize hAe : va_A ((wX7 Y a g Z_v Z_m Z_ml Z_n Z_f S_position S_count S_cm S_arguments S_argumentCount) ++ (wX3 Y b T_count T_weights T_strengths T_heights T_wages T_nightsToHeal B_accounts B_balances B_balancesAtClosing B_entries B_debited B_credited B_amounts C_nights C_netWidth C_shows C_fallen)) s.heap.size = A at hD hT ⊢
  have hA : ∀ q : Nat, s.heap.size ≤ q → A q := fun q h => by rw [← hAe]; exact Or.inr h
  have hS : va_S A s.heap s.heap [] := va_S.rf
  obtain ⟨H, hHe⟩ : ∃ H, H = s.heap := ⟨_, rfl⟩
  have hS : va_S A s.heap H [] := by rw [hHe]; exact hS
  have hP : va_P (dC, dI) vwCl [(a 0, .inr (7, [.ref (a 1), .int S_position, .int S_count, .ref (a 2), .ref (a 3), .int S_argumentCount])), (a 1, .inr (1, [.ref Z_v, .int 0, .int Z_ml, .int Z_n])), (Z_v, .inl (Y 1, Z_m, .inl Z_f)), (a 2, .inl (Y 4, 12, .inr (.inr (.inr (.inr (wk_cm g S_cm)))))), (a 3, .inl (Y 0, 48, .inl S_arguments)), (b 0, .inr (5, [.ref (b 1), .ref (b 7), .int C_nights, .int C_netWidth, .int C_shows, .int C_fallen])), (b 1, .inr (9, [.int T_count, .ref (b 2), .ref (b 3), .ref (b 4), .ref (b 5), .ref (b 6)])), (b 2, .inl (Y 0, 6, .inl T_weights)), (b 3, .inl (Y 0, 6, .inl T_strengths)), (b 4, .inl (Y 0, 6, .inl T_heights)), (b 5, .inl (Y 0, 6, .inl T_wages)), (b 6, .inl (Y 0, 6, .inl T_nightsToHeal)), (b 7, .inr (4, [.int B_accounts, .ref (b 8), .ref (b 9), .int B_entries, .ref (b 10), .ref (b 11), .ref (b 12)])), (b 8, .inl (Y 0, 11, .inl B_balances)), (b 9, .inl (Y 0, 11, .inl B_balancesAtClosing)), (b 10, .inl (Y 0, 60, .inl B_debited)), (b 11, .inl (Y 0, 60, .inl B_credited)), (b 12, .inl (Y 0, 60, .inl B_amounts))] H := by rw [hHe]; exact hP
  have hD : va_D A [(a 0, .inr (7, [.ref (a 1), .int S_position, .int S_count, .ref (a 2), .ref (a 3), .int S_argumentCount])), (a 1, .inr (1, [.ref Z_v, .int 0, .int Z_ml, .int Z_n])), (Z_v, .inl (Y 1, Z_m, .inl Z_f)), (a 2, .inl (Y 4, 12, .inr (.inr (.inr (.inr (wk_cm g S_cm)))))), (a 3, .inl (Y 0, 48, .inl S_arguments)), (b 0, .inr (5, [.ref (b 1), .ref (b 7), .int C_nights, .int C_netWidth, .int C_shows, .int C_fallen])), (b 1, .inr (9, [.int T_count, .ref (b 2), .ref (b 3), .ref (b 4), .ref (b 5), .ref (b 6)])), (b 2, .inl (Y 0, 6, .inl T_weights)), (b 3, .inl (Y 0, 6, .inl T_strengths)), (b 4, .inl (Y 0, 6, .inl T_heights)), (b 5, .inl (Y 0, 6, .inl T_wages)), (b 6, .inl (Y 0, 6, .inl T_nightsToHeal)), (b 7, .inr (4, [.int B_accounts, .ref (b 8), .ref (b 9), .int B_entries, .ref (b 10), .ref (b 11), .ref (b 12)])), (b 8, .inl (Y 0, 11, .inl B_balances)), (b 9, .inl (Y 0, 11, .inl B_balancesAtClosing)), (b 10, .inl (Y 0, 60, .inl B_debited)), (b 11, .inl (Y 0, 60, .inl B_credited)), (b 12, .inl (Y 0, 60, .inl B_amounts))] := hD
  obtain ⟨locs, hlo⟩ : ∃ locs : List Loc, locs = [] := ⟨_, rfl⟩
  have hS : va_S A s.heap H locs := by rw [hlo]; exact hS
  have hl := lv_entry ([.ref (a 0), .int x1, .ref (b 0)]) (n := 3) (Nat.le_of_ble_eq_true rfl)
  rw [lg_entry_eq]
  generalize (lg_sl ([.ref (a 0), .int x1, .ref (b 0)]) ++ List.replicate (3 - (lg_sl ([.ref (a 0), .int x1, .ref (b 0)])).length) Slot.unset).toArray = ls at hl ⊢
  have hl : lv_has ls 3 [(0, .ref (a 0)), (1, .int x1), (2, .ref (b 0))] := hl
  refine wk_start hHe hlo ?_
  rw [f_X7_execute] at hf
  refine va_gets (v := .ref (g 4 0)) hx hb hT.2.2.2.2.1 hS hown (hts _ lk_X7_execute_RX7_40) (fun _ h9 => h9) dX7_execute_0 ?_
  refine lv_aload_n hx hb dX7_execute_3 rfl (lv_at hl 0 rfl) ?_
  refine va_get (D := (dC, dI)) (ci := 7) (v := .ref (a 2)) (C := RX7) (T := TX7) (N := 6) hx hb hts in_X7_execute_X7 hown hK hP 0 rfl rfl 3 (by decide) (hts _ lk_X7_execute_RX7_20) (fun _ h9 => h9) rfl dX7_execute_4 ?_
  refine lv_iload_n hx hb dX7_execute_7 rfl (lv_at hl 1 rfl) ?_
  obtain ⟨h1, hf⟩ := gin_s hf
  obtain ⟨k2, hk3, hf⟩ := wkb1_s hf
  refine wk_aald hx hb hK hP 3 4 rfl rfl h1 rfl (wk_cm_s hk3) dX7_execute_8 ?_
  obtain ⟨h4, hf⟩ := gok_s hf
  obtain ⟨r5, hr6, hf⟩ := wkb1_s hf
  have hPc := hP.sub (ws' := ([] : va_W)) [] rfl
  refine wg_pi (va_Run.run (va_runU (As := []) (rest := [.ref (g 4 0)]) ⟨hx, hb, hml, hown, hts⟩ (c_Jx29ce0_ordinal_8abf5 l dC dI Y g k2 r5 hr6) (va_cwU (C := RX4) 0 hts gX7_execute_Jx29ce0_ordinal_8abf5_u45X4 rfl rfl rfl rfl (by decide +kernel) ⟨Nat.le_of_ble_eq_true rfl, Nat.le_of_ble_eq_true rfl⟩) ⟨wk_BTb, (va_Orecv (hT.2.1 _ h4).1 hS), wk_BTp hK hPc hT hS⟩ rfl rfl hl.1 rfl (lv_room (Nat.le_of_ble_eq_true rfl)) dX7_execute_9 ⟨Nat.le_of_ble_eq_true rfl, Nat.le_of_ble_eq_true rfl⟩)) ?_
  obtain ⟨h7, hf⟩ := gin_s hf
  refine va_ti hx hb hT.2.2.2.2.2.1 hS h7 rfl dX7_execute_12 ?_
  by_cases q8 : (sSw r5.toNatClampNeg) = 1
  · have hf := wk_t hf q8
    refine lv_tableIn (tgt := 60) hx hb dX7_execute_13 (by rw [q8]; decide) (by rw [q8]; decide) (by rw [q8]; rfl) (by decide) ?_
    refine lv_aload_n hx hb dX7_execute_60 rfl (lv_at hl 2 rfl) ?_
    refine lv_aload_n hx hb dX7_execute_61 rfl (lv_at hl 0 rfl) ?_
    refine lv_iload_n hx hb dX7_execute_62 rfl (lv_at hl 1 rfl) ?_
    refine lv_iconst (v := 0) hx hb dX7_execute_63 (by decide) ?_
    obtain ⟨r9, hr10, hf⟩ := wkb1_s hf
    have hPc := hP.sub (ws' := (wX7 Y a g Z_v Z_m Z_ml Z_n Z_f S_position S_count S_cm S_arguments S_argumentCount)) [0, 1, 2, 3, 4] rfl
    refine wk_viT (As := [.int x1, .int 0]) (rest := [.ref (b 0)]) ⟨hx, hb, hml, hown, hts⟩ (c_X7_argument l dC dI Y g a Z_v Z_m Z_ml Z_n Z_f S_position S_count S_cm S_arguments S_argumentCount x1 0 r9 hr10) (cwV 2 hts gX7_execute_X7_argument rfl rfl rfl (by decide +kernel) ⟨Nat.le_of_ble_eq_true rfl, Nat.le_of_ble_eq_true rfl⟩) hK hPc hT hS (va_recv hK hP (ci := 7) (q0 := 0) rfl rfl) rfl hl.1 rfl (Nat.le_of_ble_eq_true rfl) dX7_execute_64 ⟨Nat.le_of_ble_eq_true rfl, Nat.le_of_ble_eq_true rfl⟩ ?_
    refine lv_aload_n hx hb dX7_execute_67 rfl (lv_at hl 0 rfl) ?_
    refine lv_iload_n hx hb dX7_execute_68 rfl (lv_at hl 1 rfl) ?_
    refine lv_iconst (v := 1) hx hb dX7_execute_69 (by decide) ?_
    obtain ⟨r11, hr12, hf⟩ := wkb1_s hf
    have hPc := hP.sub (ws' := (wX7 Y a g Z_v Z_m Z_ml Z_n Z_f S_position S_count S_cm S_arguments S_argumentCount)) [0, 1, 2, 3, 4] rfl
    refine wk_viT (As := [.int x1, .int 1]) (rest := [.int r9, .ref (b 0)]) ⟨hx, hb, hml, hown, hts⟩ (c_X7_argument l dC dI Y g a Z_v Z_m Z_ml Z_n Z_f S_position S_count S_cm S_arguments S_argumentCount x1 1 r11 hr12) (cwV 2 hts gX7_execute_X7_argument rfl rfl rfl (by decide +kernel) ⟨Nat.le_of_ble_eq_true rfl, Nat.le_of_ble_eq_true rfl⟩) hK hPc hT hS (va_recv hK hP (ci := 7) (q0 := 0) rfl rfl) rfl hl.1 rfl (Nat.le_of_ble_eq_true rfl) dX7_execute_70 ⟨Nat.le_of_ble_eq_true rfl, Nat.le_of_ble_eq_true rfl⟩ ?_
    refine lv_aload_n hx hb dX7_execute_73 rfl (lv_at hl 0 rfl) ?_
    refine lv_iload_n hx hb dX7_execute_74 rfl (lv_at hl 1 rfl) ?_
    refine lv_iconst (v := 2) hx hb dX7_execute_75 (by decide) ?_
    obtain ⟨r13, hr14, hf⟩ := wkb1_s hf
    have hPc := hP.sub (ws' := (wX7 Y a g Z_v Z_m Z_ml Z_n Z_f S_position S_count S_cm S_arguments S_argumentCount)) [0, 1, 2, 3, 4] rfl
    refine wk_viT (As := [.int x1, .int 2]) (rest := [.int r11, .int r9, .ref (b 0)]) ⟨hx, hb, hml, hown, hts⟩ (c_X7_argument l dC dI Y g a Z_v Z_m Z_ml Z_n Z_f S_position S_count S_cm S_arguments S_argumentCount x1 2 r13 hr14) (cwV 2 hts gX7_execute_X7_argument rfl rfl rfl (by decide +kernel) ⟨Nat.le_of_ble_eq_true rfl, Nat.le_of_ble_eq_true rfl⟩) hK hPc hT hS (va_recv hK hP (ci := 7) (q0 := 0) rfl rfl) rfl hl.1 rfl (Nat.le_of_ble_eq_true rfl) dX7_execute_76 ⟨Nat.le_of_ble_eq_true rfl, Nat.le_of_ble_eq_true rfl⟩ ?_
    refine lv_aload_n hx hb dX7_execute_79 rfl (lv_at hl 0 rfl) ?_
    refine lv_iload_n hx hb dX7_execute_80 rfl (lv_at hl 1 rfl) ?_
    refine lv_iconst (v := 3) hx hb dX7_execute_81 (by decide) ?_
    obtain ⟨r15, hr16, hf⟩ := wkb1_s hf
    have hPc := hP.sub (ws' := (wX7 Y a g Z_v Z_m Z_ml Z_n Z_f S_position S_count S_cm S_arguments S_argumentCount)) [0, 1, 2, 3, 4] rfl
    refine wk_viT (As := [.int x1, .int 3]) (rest := [.int r13, .int r11, .int r9, .ref (b 0)]) ⟨hx, hb, hml, hown, hts⟩ (c_X7_argument l dC dI Y g a Z_v Z_m Z_ml Z_n Z_f S_position S_count S_cm S_arguments S_argumentCount x1 3 r15 hr16) (cwV 2 hts gX7_execute_X7_argument rfl rfl rfl (by decide +kernel) ⟨Nat.le_of_ble_eq_true rfl, Nat.le_of_ble_eq_true rfl⟩) hK hPc hT hS (va_recv hK hP (ci := 7) (q0 := 0) rfl rfl) rfl hl.1 rfl (Nat.le_of_ble_eq_true rfl) dX7_execute_82 ⟨Nat.le_of_ble_eq_true rfl, Nat.le_of_ble_eq_true rfl⟩ ?_
    obtain ⟨r17, w18, w19, w20, w21, w22, w23, hr24, hf⟩ := wkb7_s hf
    refine wk_evi (As := [.int r9, .int r11, .int r13, .int r15]) (rest := []) (wc := (wX3 Y b T_count T_weights T_strengths T_heights T_wages T_nightsToHeal B_accounts B_balances B_balancesAtClosing B_entries B_debited B_credited B_amounts C_nights C_netWidth C_shows C_fallen)) (w1 := (wX3 Y b w18 w19 w20 w21 w22 T_nightsToHeal w23 B_balances B_balancesAtClosing B_entries B_debited B_credited B_amounts C_nights C_netWidth C_shows C_fallen)) (wr := [(a 0, .inr (7, [.ref (a 1), .int S_position, .int S_count, .ref (a 2), .ref (a 3), .int S_argumentCount])), (a 1, .inr (1, [.ref Z_v, .int 0, .int Z_ml, .int Z_n])), (Z_v, .inl (Y 1, Z_m, .inl Z_f)), (a 2, .inl (Y 4, 12, .inr (.inr (.inr (.inr (wk_cm g S_cm)))))), (a 3, .inl (Y 0, 48, .inl S_arguments))]) ⟨hx, hb, hml, hown, hts⟩ (c_X3_hire l dC dI Y b T_count T_weights T_strengths T_heights T_wages T_nightsToHeal B_accounts B_balances B_balancesAtClosing B_entries B_debited B_credited B_amounts C_nights C_netWidth C_shows C_fallen r9 r11 r13 r15 H.size r17 w18 w19 w20 w21 w22 w23 hr24) (cwV 4 hts gX7_execute_X3_hire rfl rfl rfl (by decide +kernel) ⟨Nat.le_of_ble_eq_true rfl, Nat.le_of_ble_eq_true rfl⟩) hK hP hD hS hA [5, 6, 7, 8, 9, 10, 11, 12, 13, 14, 15, 16, 17] [0, 1, 2, 3, 4] rfl rfl (by decide) (by decide) (by decide) (va_recv hK hP (ci := 5) (q0 := 5) rfl rfl) rfl hl.1 rfl (Nat.le_of_ble_eq_true rfl) dX7_execute_85 ⟨Nat.le_of_ble_eq_true rfl, Nat.le_of_ble_eq_true rfl⟩ (fun H locs hP hD hS => ?_)
    have hP : va_P (dC, dI) vwCl [(a 0, .inr (7, [.ref (a 1), .int S_position, .int S_count, .ref (a 2), .ref (a 3), .int S_argumentCount])), (a 1, .inr (1, [.ref Z_v, .int 0, .int Z_ml, .int Z_n])), (Z_v, .inl (Y 1, Z_m, .inl Z_f)), (a 2, .inl (Y 4, 12, .inr (.inr (.inr (.inr (wk_cm g S_cm)))))), (a 3, .inl (Y 0, 48, .inl S_arguments)), (b 0, .inr (5, [.ref (b 1), .ref (b 7), .int C_nights, .int C_netWidth, .int C_shows, .int C_fallen])), (b 1, .inr (9, [.int w18, .ref (b 2), .ref (b 3), .ref (b 4), .ref (b 5), .ref (b 6)])), (b 2, .inl (Y 0, 6, .inl w19)), (b 3, .inl (Y 0, 6, .inl w20)), (b 4, .inl (Y 0, 6, .inl w21)), (b 5, .inl (Y 0, 6, .inl w22)), (b 6, .inl (Y 0, 6, .inl T_nightsToHeal)), (b 7, .inr (4, [.int w23, .ref (b 8), .ref (b 9), .int B_entries, .ref (b 10), .ref (b 11), .ref (b 12)])), (b 8, .inl (Y 0, 11, .inl B_balances)), (b 9, .inl (Y 0, 11, .inl B_balancesAtClosing)), (b 10, .inl (Y 0, 60, .inl B_debited)), (b 11, .inl (Y 0, 60, .inl B_credited)), (b 12, .inl (Y 0, 60, .inl B_amounts))] H := hP
    have hD : va_D A [(a 0, .inr (7, [.ref (a 1), .int S_position, .int S_count, .ref (a 2), .ref (a 3), .int S_argumentCount])), (a 1, .inr (1, [.ref Z_v, .int 0, .int Z_ml, .int Z_n])), (Z_v, .inl (Y 1, Z_m, .inl Z_f)), (a 2, .inl (Y 4, 12, .inr (.inr (.inr (.inr (wk_cm g S_cm)))))), (a 3, .inl (Y 0, 48, .inl S_arguments)), (b 0, .inr (5, [.ref (b 1), .ref (b 7), .int C_nights, .int C_netWidth, .int C_shows, .int C_fallen])), (b 1, .inr (9, [.int w18, .ref (b 2), .ref (b 3), .ref (b 4), .ref (b 5), .ref (b 6)])), (b 2, .inl (Y 0, 6, .inl w19)), (b 3, .inl (Y 0, 6, .inl w20)), (b 4, .inl (Y 0, 6, .inl w21)), (b 5, .inl (Y 0, 6, .inl w22)), (b 6, .inl (Y 0, 6, .inl T_nightsToHeal)), (b 7, .inr (4, [.int w23, .ref (b 8), .ref (b 9), .int B_entries, .ref (b 10), .ref (b 11), .ref (b 12)])), (b 8, .inl (Y 0, 11, .inl B_balances)), (b 9, .inl (Y 0, 11, .inl B_balancesAtClosing)), (b 10, .inl (Y 0, 60, .inl B_debited)), (b 11, .inl (Y 0, 60, .inl B_credited)), (b 12, .inl (Y 0, 60, .inl B_amounts))] := hD
    refine lv_pop hx hb dX7_execute_88 rfl ?_
    refine lv_goto (tgt := 217) hx hb dX7_execute_89 (by decide) ?_
    obtain ⟨e0, e1, e2, e3, e4, e5, e6, e7, e8, e9, e10, e11, e12, e13, e14, e15, e16⟩ := wke17 hf
    subst e0
    subst e1
    subst e2
    subst e3
    subst e4
    subst e5
    subst e6
    subst e7
    subst e8
    subst e9
    subst e10
    subst e11
    subst e12
    subst e13
    subst e14
    subst e15
    subst e16
    have hP9 := hP.sub (ws' := ((wX7 Y a g Z_v Z_m Z_ml Z_n Z_f S_position S_count S_cm S_arguments S_argumentCount) ++ (wX3 Y b w18 w19 w20 w21 w22 T_nightsToHeal w23 B_balances B_balancesAtClosing B_entries B_debited B_credited B_amounts C_nights C_netWidth C_shows C_fallen))) [0, 1, 2, 3, 4, 5, 6, 7, 8, 9, 10, 11, 12, 13, 14, 15, 16, 17] rfl
    have hD9 := hD.sub (ws' := ((wX7 Y a g Z_v Z_m Z_ml Z_n Z_f S_position S_count S_cm S_arguments S_argumentCount) ++ (wX3 Y b w18 w19 w20 w21 w22 T_nightsToHeal w23 B_balances B_balancesAtClosing B_entries B_debited B_credited B_amounts C_nights C_netWidth C_shows C_fallen))) [0, 1, 2, 3, 4, 5, 6, 7, 8, 9, 10, 11, 12, 13, 14, 15, 16, 17] (by decide) rfl
    exact W.vret hx hb hr (fun t ht hW => ⟨⟨Z_v, rfl, trivial, by rw [ht]; exact hP9, va_K.moved hW.alike hK, hD9⟩, hS.F ht⟩) hS.2.2 dX7_execute_217
  · have hf := wk_f hf q8
    by_cases q26 : (sSw r5.toNatClampNeg) = 2
    · have hf := wk_t hf q26
      refine lv_tableIn (tgt := 92) hx hb dX7_execute_13 (by rw [q26]; decide) (by rw [q26]; decide) (by rw [q26]; rfl) (by decide) ?_
      refine lv_aload_n hx hb dX7_execute_92 rfl (lv_at hl 2 rfl) ?_
      refine va_get (D := (dC, dI)) (ci := 5) (v := .ref (b 7)) (C := RX3) (T := TX3) (N := 6) hx hb hts in_X7_execute_X3 hown hK hP 5 rfl rfl 1 (by decide) (hts _ lk_X7_execute_RX7_89) (fun _ h9 => h9) rfl dX7_execute_93 ?_
      refine lv_aload_n hx hb dX7_execute_96 rfl (lv_at hl 0 rfl) ?_
      refine lv_iload_n hx hb dX7_execute_97 rfl (lv_at hl 1 rfl) ?_
      refine lv_iconst (v := 0) hx hb dX7_execute_98 (by decide) ?_
      obtain ⟨r27, hr28, hf⟩ := wkb1_s hf
      have hPc := hP.sub (ws' := (wX7 Y a g Z_v Z_m Z_ml Z_n Z_f S_position S_count S_cm S_arguments S_argumentCount)) [0, 1, 2, 3, 4] rfl
      refine wk_viT (As := [.int x1, .int 0]) (rest := [.ref (b 7)]) ⟨hx, hb, hml, hown, hts⟩ (c_X7_argument l dC dI Y g a Z_v Z_m Z_ml Z_n Z_f S_position S_count S_cm S_arguments S_argumentCount x1 0 r27 hr28) (cwV 2 hts gX7_execute_X7_argument rfl rfl rfl (by decide +kernel) ⟨Nat.le_of_ble_eq_true rfl, Nat.le_of_ble_eq_true rfl⟩) hK hPc hT hS (va_recv hK hP (ci := 7) (q0 := 0) rfl rfl) rfl hl.1 rfl (Nat.le_of_ble_eq_true rfl) dX7_execute_99 ⟨Nat.le_of_ble_eq_true rfl, Nat.le_of_ble_eq_true rfl⟩ ?_
      refine lv_aload_n hx hb dX7_execute_102 rfl (lv_at hl 0 rfl) ?_
      refine lv_iload_n hx hb dX7_execute_103 rfl (lv_at hl 1 rfl) ?_
      refine lv_iconst (v := 1) hx hb dX7_execute_104 (by decide) ?_
      obtain ⟨r29, hr30, hf⟩ := wkb1_s hf
      have hPc := hP.sub (ws' := (wX7 Y a g Z_v Z_m Z_ml Z_n Z_f S_position S_count S_cm S_arguments S_argumentCount)) [0, 1, 2, 3, 4] rfl
      refine wk_viT (As := [.int x1, .int 1]) (rest := [.int r27, .ref (b 7)]) ⟨hx, hb, hml, hown, hts⟩ (c_X7_argument l dC dI Y g a Z_v Z_m Z_ml Z_n Z_f S_position S_count S_cm S_arguments S_argumentCount x1 1 r29 hr30) (cwV 2 hts gX7_execute_X7_argument rfl rfl rfl (by decide +kernel) ⟨Nat.le_of_ble_eq_true rfl, Nat.le_of_ble_eq_true rfl⟩) hK hPc hT hS (va_recv hK hP (ci := 7) (q0 := 0) rfl rfl) rfl hl.1 rfl (Nat.le_of_ble_eq_true rfl) dX7_execute_105 ⟨Nat.le_of_ble_eq_true rfl, Nat.le_of_ble_eq_true rfl⟩ ?_
      refine lv_aload_n hx hb dX7_execute_108 rfl (lv_at hl 0 rfl) ?_
      refine lv_iload_n hx hb dX7_execute_109 rfl (lv_at hl 1 rfl) ?_
      refine lv_iconst (v := 2) hx hb dX7_execute_110 (by decide) ?_
      obtain ⟨r31, hr32, hf⟩ := wkb1_s hf
      have hPc := hP.sub (ws' := (wX7 Y a g Z_v Z_m Z_ml Z_n Z_f S_position S_count S_cm S_arguments S_argumentCount)) [0, 1, 2, 3, 4] rfl
      refine wk_viT (As := [.int x1, .int 2]) (rest := [.int r29, .int r27, .ref (b 7)]) ⟨hx, hb, hml, hown, hts⟩ (c_X7_argument l dC dI Y g a Z_v Z_m Z_ml Z_n Z_f S_position S_count S_cm S_arguments S_argumentCount x1 2 r31 hr32) (cwV 2 hts gX7_execute_X7_argument rfl rfl rfl (by decide +kernel) ⟨Nat.le_of_ble_eq_true rfl, Nat.le_of_ble_eq_true rfl⟩) hK hPc hT hS (va_recv hK hP (ci := 7) (q0 := 0) rfl rfl) rfl hl.1 rfl (Nat.le_of_ble_eq_true rfl) dX7_execute_111 ⟨Nat.le_of_ble_eq_true rfl, Nat.le_of_ble_eq_true rfl⟩ ?_
      obtain ⟨r33, w34, w35, w36, w37, w38, hr39, hf⟩ := wkb6_s hf
      refine wk_evi (As := [.int r27, .int r29, .int r31]) (rest := []) (wc := (wX2 Y (fun k => b (k + 7)) B_accounts B_balances B_balancesAtClosing B_entries B_debited B_credited B_amounts)) (w1 := (wX2 Y (fun k => b (k + 7)) B_accounts w34 B_balancesAtClosing w35 w36 w37 w38)) (wr := [(a 0, .inr (7, [.ref (a 1), .int S_position, .int S_count, .ref (a 2), .ref (a 3), .int S_argumentCount])), (a 1, .inr (1, [.ref Z_v, .int 0, .int Z_ml, .int Z_n])), (Z_v, .inl (Y 1, Z_m, .inl Z_f)), (a 2, .inl (Y 4, 12, .inr (.inr (.inr (.inr (wk_cm g S_cm)))))), (a 3, .inl (Y 0, 48, .inl S_arguments)), (b 0, .inr (5, [.ref (b 1), .ref (b 7), .int C_nights, .int C_netWidth, .int C_shows, .int C_fallen])), (b 1, .inr (9, [.int T_count, .ref (b 2), .ref (b 3), .ref (b 4), .ref (b 5), .ref (b 6)])), (b 2, .inl (Y 0, 6, .inl T_weights)), (b 3, .inl (Y 0, 6, .inl T_strengths)), (b 4, .inl (Y 0, 6, .inl T_heights)), (b 5, .inl (Y 0, 6, .inl T_wages)), (b 6, .inl (Y 0, 6, .inl T_nightsToHeal))]) ⟨hx, hb, hml, hown, hts⟩ (c_X2_book l dC dI Y (fun k => b (k + 7)) B_accounts B_balances B_balancesAtClosing B_entries B_debited B_credited B_amounts r27 r29 r31 H.size r33 w34 w35 w36 w37 w38 hr39) (cwV 3 hts gX7_execute_X2_book rfl rfl rfl (by decide +kernel) ⟨Nat.le_of_ble_eq_true rfl, Nat.le_of_ble_eq_true rfl⟩) hK hP hD hS hA [12, 13, 14, 15, 16, 17] [0, 1, 2, 3, 4, 5, 6, 7, 8, 9, 10, 11] rfl rfl (by decide) (by decide) (by decide) (va_recv hK hP (ci := 4) (q0 := 12) rfl rfl) rfl hl.1 rfl (Nat.le_of_ble_eq_true rfl) dX7_execute_114 ⟨Nat.le_of_ble_eq_true rfl, Nat.le_of_ble_eq_true rfl⟩ (fun H locs hP hD hS => ?_)
      have hP : va_P (dC, dI) vwCl [(a 0, .inr (7, [.ref (a 1), .int S_position, .int S_count, .ref (a 2), .ref (a 3), .int S_argumentCount])), (a 1, .inr (1, [.ref Z_v, .int 0, .int Z_ml, .int Z_n])), (Z_v, .inl (Y 1, Z_m, .inl Z_f)), (a 2, .inl (Y 4, 12, .inr (.inr (.inr (.inr (wk_cm g S_cm)))))), (a 3, .inl (Y 0, 48, .inl S_arguments)), (b 0, .inr (5, [.ref (b 1), .ref (b 7), .int C_nights, .int C_netWidth, .int C_shows, .int C_fallen])), (b 1, .inr (9, [.int T_count, .ref (b 2), .ref (b 3), .ref (b 4), .ref (b 5), .ref (b 6)])), (b 2, .inl (Y 0, 6, .inl T_weights)), (b 3, .inl (Y 0, 6, .inl T_strengths)), (b 4, .inl (Y 0, 6, .inl T_heights)), (b 5, .inl (Y 0, 6, .inl T_wages)), (b 6, .inl (Y 0, 6, .inl T_nightsToHeal)), (b 7, .inr (4, [.int B_accounts, .ref (b 8), .ref (b 9), .int w35, .ref (b 10), .ref (b 11), .ref (b 12)])), (b 8, .inl (Y 0, 11, .inl w34)), (b 9, .inl (Y 0, 11, .inl B_balancesAtClosing)), (b 10, .inl (Y 0, 60, .inl w36)), (b 11, .inl (Y 0, 60, .inl w37)), (b 12, .inl (Y 0, 60, .inl w38))] H := hP
      have hD : va_D A [(a 0, .inr (7, [.ref (a 1), .int S_position, .int S_count, .ref (a 2), .ref (a 3), .int S_argumentCount])), (a 1, .inr (1, [.ref Z_v, .int 0, .int Z_ml, .int Z_n])), (Z_v, .inl (Y 1, Z_m, .inl Z_f)), (a 2, .inl (Y 4, 12, .inr (.inr (.inr (.inr (wk_cm g S_cm)))))), (a 3, .inl (Y 0, 48, .inl S_arguments)), (b 0, .inr (5, [.ref (b 1), .ref (b 7), .int C_nights, .int C_netWidth, .int C_shows, .int C_fallen])), (b 1, .inr (9, [.int T_count, .ref (b 2), .ref (b 3), .ref (b 4), .ref (b 5), .ref (b 6)])), (b 2, .inl (Y 0, 6, .inl T_weights)), (b 3, .inl (Y 0, 6, .inl T_strengths)), (b 4, .inl (Y 0, 6, .inl T_heights)), (b 5, .inl (Y 0, 6, .inl T_wages)), (b 6, .inl (Y 0, 6, .inl T_nightsToHeal)), (b 7, .inr (4, [.int B_accounts, .ref (b 8), .ref (b 9), .int w35, .ref (b 10), .ref (b 11), .ref (b 12)])), (b 8, .inl (Y 0, 11, .inl w34)), (b 9, .inl (Y 0, 11, .inl B_balancesAtClosing)), (b 10, .inl (Y 0, 60, .inl w36)), (b 11, .inl (Y 0, 60, .inl w37)), (b 12, .inl (Y 0, 60, .inl w38))] := hD
      refine lv_pop hx hb dX7_execute_117 rfl ?_
      refine lv_goto (tgt := 217) hx hb dX7_execute_118 (by decide) ?_
      obtain ⟨e0, e1, e2, e3, e4, e5, e6, e7, e8, e9, e10, e11, e12, e13, e14, e15, e16⟩ := wke17 hf
      subst e0
      subst e1
      subst e2
      subst e3
      subst e4
      subst e5
      subst e6
      subst e7
      subst e8
      subst e9
      subst e10
      subst e11
      subst e12
      subst e13
      subst e14
      subst e15
      subst e16
      have hP9 := hP.sub (ws' := ((wX7 Y a g Z_v Z_m Z_ml Z_n Z_f S_position S_count S_cm S_arguments S_argumentCount) ++ (wX3 Y b T_count T_weights T_strengths T_heights T_wages T_nightsToHeal B_accounts w34 B_balancesAtClosing w35 w36 w37 w38 C_nights C_netWidth C_shows C_fallen))) [0, 1, 2, 3, 4, 5, 6, 7, 8, 9, 10, 11, 12, 13, 14, 15, 16, 17] rfl
      have hD9 := hD.sub (ws' := ((wX7 Y a g Z_v Z_m Z_ml Z_n Z_f S_position S_count S_cm S_arguments S_argumentCount) ++ (wX3 Y b T_count T_weights T_strengths T_heights T_wages T_nightsToHeal B_accounts w34 B_balancesAtClosing w35 w36 w37 w38 C_nights C_netWidth C_shows C_fallen))) [0, 1, 2, 3, 4, 5, 6, 7, 8, 9, 10, 11, 12, 13, 14, 15, 16, 17] (by decide) rfl
      exact W.vret hx hb hr (fun t ht hW => ⟨⟨Z_v, rfl, trivial, by rw [ht]; exact hP9, va_K.moved hW.alike hK, hD9⟩, hS.F ht⟩) hS.2.2 dX7_execute_217
    · have hf := wk_f hf q26
      by_cases q41 : (sSw r5.toNatClampNeg) = 3
      · have hf := wk_t hf q41
        refine lv_tableIn (tgt := 121) hx hb dX7_execute_13 (by rw [q41]; decide) (by rw [q41]; decide) (by rw [q41]; rfl) (by decide) ?_
        refine lv_aload_n hx hb dX7_execute_121 rfl (lv_at hl 2 rfl) ?_
        refine lv_aload_n hx hb dX7_execute_122 rfl (lv_at hl 0 rfl) ?_
        refine lv_iload_n hx hb dX7_execute_123 rfl (lv_at hl 1 rfl) ?_
        refine lv_iconst (v := 0) hx hb dX7_execute_124 (by decide) ?_
        obtain ⟨r42, hr43, hf⟩ := wkb1_s hf
        have hPc := hP.sub (ws' := (wX7 Y a g Z_v Z_m Z_ml Z_n Z_f S_position S_count S_cm S_arguments S_argumentCount)) [0, 1, 2, 3, 4] rfl
        refine wk_viT (As := [.int x1, .int 0]) (rest := [.ref (b 0)]) ⟨hx, hb, hml, hown, hts⟩ (c_X7_argument l dC dI Y g a Z_v Z_m Z_ml Z_n Z_f S_position S_count S_cm S_arguments S_argumentCount x1 0 r42 hr43) (cwV 2 hts gX7_execute_X7_argument rfl rfl rfl (by decide +kernel) ⟨Nat.le_of_ble_eq_true rfl, Nat.le_of_ble_eq_true rfl⟩) hK hPc hT hS (va_recv hK hP (ci := 7) (q0 := 0) rfl rfl) rfl hl.1 rfl (Nat.le_of_ble_eq_true rfl) dX7_execute_125 ⟨Nat.le_of_ble_eq_true rfl, Nat.le_of_ble_eq_true rfl⟩ ?_
        refine lv_aload_n hx hb dX7_execute_128 rfl (lv_at hl 0 rfl) ?_
        refine lv_iload_n hx hb dX7_execute_129 rfl (lv_at hl 1 rfl) ?_
        refine lv_iconst (v := 1) hx hb dX7_execute_130 (by decide) ?_
        obtain ⟨r44, hr45, hf⟩ := wkb1_s hf
        have hPc := hP.sub (ws' := (wX7 Y a g Z_v Z_m Z_ml Z_n Z_f S_position S_count S_cm S_arguments S_argumentCount)) [0, 1, 2, 3, 4] rfl
        refine wk_viT (As := [.int x1, .int 1]) (rest := [.int r42, .ref (b 0)]) ⟨hx, hb, hml, hown, hts⟩ (c_X7_argument l dC dI Y g a Z_v Z_m Z_ml Z_n Z_f S_position S_count S_cm S_arguments S_argumentCount x1 1 r44 hr45) (cwV 2 hts gX7_execute_X7_argument rfl rfl rfl (by decide +kernel) ⟨Nat.le_of_ble_eq_true rfl, Nat.le_of_ble_eq_true rfl⟩) hK hPc hT hS (va_recv hK hP (ci := 7) (q0 := 0) rfl rfl) rfl hl.1 rfl (Nat.le_of_ble_eq_true rfl) dX7_execute_131 ⟨Nat.le_of_ble_eq_true rfl, Nat.le_of_ble_eq_true rfl⟩ ?_
        obtain ⟨r46, w47, w48, w49, w50, w51, hr52, hf⟩ := wkb6_s hf
        refine wk_evi (As := [.int r42, .int r44]) (rest := []) (wc := (wX3 Y b T_count T_weights T_strengths T_heights T_wages T_nightsToHeal B_accounts B_balances B_balancesAtClosing B_entries B_debited B_credited B_amounts C_nights C_netWidth C_shows C_fallen)) (w1 := (wX3 Y b T_count T_weights T_strengths T_heights T_wages T_nightsToHeal B_accounts w47 B_balancesAtClosing w48 w49 w50 w51 C_nights C_netWidth C_shows C_fallen)) (wr := [(a 0, .inr (7, [.ref (a 1), .int S_position, .int S_count, .ref (a 2), .ref (a 3), .int S_argumentCount])), (a 1, .inr (1, [.ref Z_v, .int 0, .int Z_ml, .int Z_n])), (Z_v, .inl (Y 1, Z_m, .inl Z_f)), (a 2, .inl (Y 4, 12, .inr (.inr (.inr (.inr (wk_cm g S_cm)))))), (a 3, .inl (Y 0, 48, .inl S_arguments))]) ⟨hx, hb, hml, hown, hts⟩ (c_X3_pay l dC dI Y b T_count T_weights T_strengths T_heights T_wages T_nightsToHeal B_accounts B_balances B_balancesAtClosing B_entries B_debited B_credited B_amounts C_nights C_netWidth C_shows C_fallen r42 r44 H.size r46 w47 w48 w49 w50 w51 hr52) (cwV 2 hts gX7_execute_X3_pay rfl rfl rfl (by decide +kernel) ⟨Nat.le_of_ble_eq_true rfl, Nat.le_of_ble_eq_true rfl⟩) hK hP hD hS hA [5, 6, 7, 8, 9, 10, 11, 12, 13, 14, 15, 16, 17] [0, 1, 2, 3, 4] rfl rfl (by decide) (by decide) (by decide) (va_recv hK hP (ci := 5) (q0 := 5) rfl rfl) rfl hl.1 rfl (Nat.le_of_ble_eq_true rfl) dX7_execute_134 ⟨Nat.le_of_ble_eq_true rfl, Nat.le_of_ble_eq_true rfl⟩ (fun H locs hP hD hS => ?_)
        have hP : va_P (dC, dI) vwCl [(a 0, .inr (7, [.ref (a 1), .int S_position, .int S_count, .ref (a 2), .ref (a 3), .int S_argumentCount])), (a 1, .inr (1, [.ref Z_v, .int 0, .int Z_ml, .int Z_n])), (Z_v, .inl (Y 1, Z_m, .inl Z_f)), (a 2, .inl (Y 4, 12, .inr (.inr (.inr (.inr (wk_cm g S_cm)))))), (a 3, .inl (Y 0, 48, .inl S_arguments)), (b 0, .inr (5, [.ref (b 1), .ref (b 7), .int C_nights, .int C_netWidth, .int C_shows, .int C_fallen])), (b 1, .inr (9, [.int T_count, .ref (b 2), .ref (b 3), .ref (b 4), .ref (b 5), .ref (b 6)])), (b 2, .inl (Y 0, 6, .inl T_weights)), (b 3, .inl (Y 0, 6, .inl T_strengths)), (b 4, .inl (Y 0, 6, .inl T_heights)), (b 5, .inl (Y 0, 6, .inl T_wages)), (b 6, .inl (Y 0, 6, .inl T_nightsToHeal)), (b 7, .inr (4, [.int B_accounts, .ref (b 8), .ref (b 9), .int w48, .ref (b 10), .ref (b 11), .ref (b 12)])), (b 8, .inl (Y 0, 11, .inl w47)), (b 9, .inl (Y 0, 11, .inl B_balancesAtClosing)), (b 10, .inl (Y 0, 60, .inl w49)), (b 11, .inl (Y 0, 60, .inl w50)), (b 12, .inl (Y 0, 60, .inl w51))] H := hP
        have hD : va_D A [(a 0, .inr (7, [.ref (a 1), .int S_position, .int S_count, .ref (a 2), .ref (a 3), .int S_argumentCount])), (a 1, .inr (1, [.ref Z_v, .int 0, .int Z_ml, .int Z_n])), (Z_v, .inl (Y 1, Z_m, .inl Z_f)), (a 2, .inl (Y 4, 12, .inr (.inr (.inr (.inr (wk_cm g S_cm)))))), (a 3, .inl (Y 0, 48, .inl S_arguments)), (b 0, .inr (5, [.ref (b 1), .ref (b 7), .int C_nights, .int C_netWidth, .int C_shows, .int C_fallen])), (b 1, .inr (9, [.int T_count, .ref (b 2), .ref (b 3), .ref (b 4), .ref (b 5), .ref (b 6)])), (b 2, .inl (Y 0, 6, .inl T_weights)), (b 3, .inl (Y 0, 6, .inl T_strengths)), (b 4, .inl (Y 0, 6, .inl T_heights)), (b 5, .inl (Y 0, 6, .inl T_wages)), (b 6, .inl (Y 0, 6, .inl T_nightsToHeal)), (b 7, .inr (4, [.int B_accounts, .ref (b 8), .ref (b 9), .int w48, .ref (b 10), .ref (b 11), .ref (b 12)])), (b 8, .inl (Y 0, 11, .inl w47)), (b 9, .inl (Y 0, 11, .inl B_balancesAtClosing)), (b 10, .inl (Y 0, 60, .inl w49)), (b 11, .inl (Y 0, 60, .inl w50)), (b 12, .inl (Y 0, 60, .inl w51))] := hD
        refine lv_pop hx hb dX7_execute_137 rfl ?_
        refine lv_goto (tgt := 217) hx hb dX7_execute_138 (by decide) ?_
        obtain ⟨e0, e1, e2, e3, e4, e5, e6, e7, e8, e9, e10, e11, e12, e13, e14, e15, e16⟩ := wke17 hf
        subst e0
        subst e1
        subst e2
        subst e3
        subst e4
        subst e5
        subst e6
        subst e7
        subst e8
        subst e9
        subst e10
        subst e11
        subst e12
        subst e13
        subst e14
        subst e15
        subst e16
        have hP9 := hP.sub (ws' := ((wX7 Y a g Z_v Z_m Z_ml Z_n Z_f S_position S_count S_cm S_arguments S_argumentCount) ++ (wX3 Y b T_count T_weights T_strengths T_heights T_wages T_nightsToHeal B_accounts w47 B_balancesAtClosing w48 w49 w50 w51 C_nights C_netWidth C_shows C_fallen))) [0, 1, 2, 3, 4, 5, 6, 7, 8, 9, 10, 11, 12, 13, 14, 15, 16, 17] rfl
        have hD9 := hD.sub (ws' := ((wX7 Y a g Z_v Z_m Z_ml Z_n Z_f S_position S_count S_cm S_arguments S_argumentCount) ++ (wX3 Y b T_count T_weights T_strengths T_heights T_wages T_nightsToHeal B_accounts w47 B_balancesAtClosing w48 w49 w50 w51 C_nights C_netWidth C_shows C_fallen))) [0, 1, 2, 3, 4, 5, 6, 7, 8, 9, 10, 11, 12, 13, 14, 15, 16, 17] (by decide) rfl
        exact W.vret hx hb hr (fun t ht hW => ⟨⟨Z_v, rfl, trivial, by rw [ht]; exact hP9, va_K.moved hW.alike hK, hD9⟩, hS.F ht⟩) hS.2.2 dX7_execute_217
      · have hf := wk_f hf q41
        by_cases q54 : (sSw r5.toNatClampNeg) = 4
        · have hf := wk_t hf q54
          refine lv_tableIn (tgt := 141) hx hb dX7_execute_13 (by rw [q54]; decide) (by rw [q54]; decide) (by rw [q54]; rfl) (by decide) ?_
          refine lv_aload_n hx hb dX7_execute_141 rfl (lv_at hl 2 rfl) ?_
          refine lv_aload_n hx hb dX7_execute_142 rfl (lv_at hl 0 rfl) ?_
          refine lv_iload_n hx hb dX7_execute_143 rfl (lv_at hl 1 rfl) ?_
          refine lv_iconst (v := 0) hx hb dX7_execute_144 (by decide) ?_
          obtain ⟨r55, hr56, hf⟩ := wkb1_s hf
          have hPc := hP.sub (ws' := (wX7 Y a g Z_v Z_m Z_ml Z_n Z_f S_position S_count S_cm S_arguments S_argumentCount)) [0, 1, 2, 3, 4] rfl
          refine wk_viT (As := [.int x1, .int 0]) (rest := [.ref (b 0)]) ⟨hx, hb, hml, hown, hts⟩ (c_X7_argument l dC dI Y g a Z_v Z_m Z_ml Z_n Z_f S_position S_count S_cm S_arguments S_argumentCount x1 0 r55 hr56) (cwV 2 hts gX7_execute_X7_argument rfl rfl rfl (by decide +kernel) ⟨Nat.le_of_ble_eq_true rfl, Nat.le_of_ble_eq_true rfl⟩) hK hPc hT hS (va_recv hK hP (ci := 7) (q0 := 0) rfl rfl) rfl hl.1 rfl (Nat.le_of_ble_eq_true rfl) dX7_execute_145 ⟨Nat.le_of_ble_eq_true rfl, Nat.le_of_ble_eq_true rfl⟩ ?_
          obtain ⟨r57, w58, w59, w60, w61, w62, w63, w64, w65, w66, hr67, hf⟩ := wkb10_s hf
          refine wk_evi (As := [.int r55]) (rest := []) (wc := (wX3 Y b T_count T_weights T_strengths T_heights T_wages T_nightsToHeal B_accounts B_balances B_balancesAtClosing B_entries B_debited B_credited B_amounts C_nights C_netWidth C_shows C_fallen)) (w1 := (wX3 Y b T_count T_weights T_strengths T_heights T_wages w58 B_accounts w59 B_balancesAtClosing w60 w61 w62 w63 w64 C_netWidth w65 w66)) (wr := [(a 0, .inr (7, [.ref (a 1), .int S_position, .int S_count, .ref (a 2), .ref (a 3), .int S_argumentCount])), (a 1, .inr (1, [.ref Z_v, .int 0, .int Z_ml, .int Z_n])), (Z_v, .inl (Y 1, Z_m, .inl Z_f)), (a 2, .inl (Y 4, 12, .inr (.inr (.inr (.inr (wk_cm g S_cm)))))), (a 3, .inl (Y 0, 48, .inl S_arguments))]) ⟨hx, hb, hml, hown, hts⟩ (c_X3_giveShow l dC dI Y b T_count T_weights T_strengths T_heights T_wages T_nightsToHeal B_accounts B_balances B_balancesAtClosing B_entries B_debited B_credited B_amounts C_nights C_netWidth C_shows C_fallen r55 H.size r57 w58 w59 w60 w61 w62 w63 w64 w65 w66 hr67) (cwV 1 hts gX7_execute_X3_giveShow rfl rfl rfl (by decide +kernel) ⟨Nat.le_of_ble_eq_true rfl, Nat.le_of_ble_eq_true rfl⟩) hK hP hD hS hA [5, 6, 7, 8, 9, 10, 11, 12, 13, 14, 15, 16, 17] [0, 1, 2, 3, 4] rfl rfl (by decide) (by decide) (by decide) (va_recv hK hP (ci := 5) (q0 := 5) rfl rfl) rfl hl.1 rfl (Nat.le_of_ble_eq_true rfl) dX7_execute_148 ⟨Nat.le_of_ble_eq_true rfl, Nat.le_of_ble_eq_true rfl⟩ (fun H locs hP hD hS => ?_)
          have hP : va_P (dC, dI) vwCl [(a 0, .inr (7, [.ref (a 1), .int S_position, .int S_count, .ref (a 2), .ref (a 3), .int S_argumentCount])), (a 1, .inr (1, [.ref Z_v, .int 0, .int Z_ml, .int Z_n])), (Z_v, .inl (Y 1, Z_m, .inl Z_f)), (a 2, .inl (Y 4, 12, .inr (.inr (.inr (.inr (wk_cm g S_cm)))))), (a 3, .inl (Y 0, 48, .inl S_arguments)), (b 0, .inr (5, [.ref (b 1), .ref (b 7), .int w64, .int C_netWidth, .int w65, .int w66])), (b 1, .inr (9, [.int T_count, .ref (b 2), .ref (b 3), .ref (b 4), .ref (b 5), .ref (b 6)])), (b 2, .inl (Y 0, 6, .inl T_weights)), (b 3, .inl (Y 0, 6, .inl T_strengths)), (b 4, .inl (Y 0, 6, .inl T_heights)), (b 5, .inl (Y 0, 6, .inl T_wages)), (b 6, .inl (Y 0, 6, .inl w58)), (b 7, .inr (4, [.int B_accounts, .ref (b 8), .ref (b 9), .int w60, .ref (b 10), .ref (b 11), .ref (b 12)])), (b 8, .inl (Y 0, 11, .inl w59)), (b 9, .inl (Y 0, 11, .inl B_balancesAtClosing)), (b 10, .inl (Y 0, 60, .inl w61)), (b 11, .inl (Y 0, 60, .inl w62)), (b 12, .inl (Y 0, 60, .inl w63))] H := hP
          have hD : va_D A [(a 0, .inr (7, [.ref (a 1), .int S_position, .int S_count, .ref (a 2), .ref (a 3), .int S_argumentCount])), (a 1, .inr (1, [.ref Z_v, .int 0, .int Z_ml, .int Z_n])), (Z_v, .inl (Y 1, Z_m, .inl Z_f)), (a 2, .inl (Y 4, 12, .inr (.inr (.inr (.inr (wk_cm g S_cm)))))), (a 3, .inl (Y 0, 48, .inl S_arguments)), (b 0, .inr (5, [.ref (b 1), .ref (b 7), .int w64, .int C_netWidth, .int w65, .int w66])), (b 1, .inr (9, [.int T_count, .ref (b 2), .ref (b 3), .ref (b 4), .ref (b 5), .ref (b 6)])), (b 2, .inl (Y 0, 6, .inl T_weights)), (b 3, .inl (Y 0, 6, .inl T_strengths)), (b 4, .inl (Y 0, 6, .inl T_heights)), (b 5, .inl (Y 0, 6, .inl T_wages)), (b 6, .inl (Y 0, 6, .inl w58)), (b 7, .inr (4, [.int B_accounts, .ref (b 8), .ref (b 9), .int w60, .ref (b 10), .ref (b 11), .ref (b 12)])), (b 8, .inl (Y 0, 11, .inl w59)), (b 9, .inl (Y 0, 11, .inl B_balancesAtClosing)), (b 10, .inl (Y 0, 60, .inl w61)), (b 11, .inl (Y 0, 60, .inl w62)), (b 12, .inl (Y 0, 60, .inl w63))] := hD
          refine lv_pop hx hb dX7_execute_151 rfl ?_
          refine lv_goto (tgt := 217) hx hb dX7_execute_152 (by decide) ?_
          obtain ⟨e0, e1, e2, e3, e4, e5, e6, e7, e8, e9, e10, e11, e12, e13, e14, e15, e16⟩ := wke17 hf
          subst e0
          subst e1
          subst e2
          subst e3
          subst e4
          subst e5
          subst e6
          subst e7
          subst e8
          subst e9
          subst e10
          subst e11
          subst e12
          subst e13
          subst e14
          subst e15
          subst e16
          have hP9 := hP.sub (ws' := ((wX7 Y a g Z_v Z_m Z_ml Z_n Z_f S_position S_count S_cm S_arguments S_argumentCount) ++ (wX3 Y b T_count T_weights T_strengths T_heights T_wages w58 B_accounts w59 B_balancesAtClosing w60 w61 w62 w63 w64 C_netWidth w65 w66))) [0, 1, 2, 3, 4, 5, 6, 7, 8, 9, 10, 11, 12, 13, 14, 15, 16, 17] rfl
          have hD9 := hD.sub (ws' := ((wX7 Y a g Z_v Z_m Z_ml Z_n Z_f S_position S_count S_cm S_arguments S_argumentCount) ++ (wX3 Y b T_count T_weights T_strengths T_heights T_wages w58 B_accounts w59 B_balancesAtClosing w60 w61 w62 w63 w64 C_netWidth w65 w66))) [0, 1, 2, 3, 4, 5, 6, 7, 8, 9, 10, 11, 12, 13, 14, 15, 16, 17] (by decide) rfl
          exact W.vret hx hb hr (fun t ht hW => ⟨⟨Z_v, rfl, trivial, by rw [ht]; exact hP9, va_K.moved hW.alike hK, hD9⟩, hS.F ht⟩) hS.2.2 dX7_execute_217
        · have hf := wk_f hf q54
          by_cases q69 : (sSw r5.toNatClampNeg) = 5
          · have hf := wk_t hf q69
            refine lv_tableIn (tgt := 155) hx hb dX7_execute_13 (by rw [q69]; decide) (by rw [q69]; decide) (by rw [q69]; rfl) (by decide) ?_
            refine lv_aload_n hx hb dX7_execute_155 rfl (lv_at hl 2 rfl) ?_
            refine lv_aload_n hx hb dX7_execute_156 rfl (lv_at hl 0 rfl) ?_
            refine lv_iload_n hx hb dX7_execute_157 rfl (lv_at hl 1 rfl) ?_
            refine lv_iconst (v := 0) hx hb dX7_execute_158 (by decide) ?_
            obtain ⟨r70, hr71, hf⟩ := wkb1_s hf
            have hPc := hP.sub (ws' := (wX7 Y a g Z_v Z_m Z_ml Z_n Z_f S_position S_count S_cm S_arguments S_argumentCount)) [0, 1, 2, 3, 4] rfl
            refine wk_viT (As := [.int x1, .int 0]) (rest := [.ref (b 0)]) ⟨hx, hb, hml, hown, hts⟩ (c_X7_argument l dC dI Y g a Z_v Z_m Z_ml Z_n Z_f S_position S_count S_cm S_arguments S_argumentCount x1 0 r70 hr71) (cwV 2 hts gX7_execute_X7_argument rfl rfl rfl (by decide +kernel) ⟨Nat.le_of_ble_eq_true rfl, Nat.le_of_ble_eq_true rfl⟩) hK hPc hT hS (va_recv hK hP (ci := 7) (q0 := 0) rfl rfl) rfl hl.1 rfl (Nat.le_of_ble_eq_true rfl) dX7_execute_159 ⟨Nat.le_of_ble_eq_true rfl, Nat.le_of_ble_eq_true rfl⟩ ?_
            obtain ⟨r72, w73, hr74, hf⟩ := wkb2_s hf
            refine wk_evi (As := [.int r70]) (rest := []) (wc := (wX3 Y b T_count T_weights T_strengths T_heights T_wages T_nightsToHeal B_accounts B_balances B_balancesAtClosing B_entries B_debited B_credited B_amounts C_nights C_netWidth C_shows C_fallen)) (w1 := (wX3 Y b T_count T_weights T_strengths T_heights T_wages T_nightsToHeal B_accounts B_balances B_balancesAtClosing B_entries B_debited B_credited B_amounts C_nights w73 C_shows C_fallen)) (wr := [(a 0, .inr (7, [.ref (a 1), .int S_position, .int S_count, .ref (a 2), .ref (a 3), .int S_argumentCount])), (a 1, .inr (1, [.ref Z_v, .int 0, .int Z_ml, .int Z_n])), (Z_v, .inl (Y 1, Z_m, .inl Z_f)), (a 2, .inl (Y 4, 12, .inr (.inr (.inr (.inr (wk_cm g S_cm)))))), (a 3, .inl (Y 0, 48, .inl S_arguments))]) ⟨hx, hb, hml, hown, hts⟩ (c_X3_spanNet l dC dI Y b T_count T_weights T_strengths T_heights T_wages T_nightsToHeal B_accounts B_balances B_balancesAtClosing B_entries B_debited B_credited B_amounts C_nights C_netWidth C_shows C_fallen r70 H.size r72 w73 hr74) (cwV 1 hts gX7_execute_X3_spanNet rfl rfl rfl (by decide +kernel) ⟨Nat.le_of_ble_eq_true rfl, Nat.le_of_ble_eq_true rfl⟩) hK hP hD hS hA [5, 6, 7, 8, 9, 10, 11, 12, 13, 14, 15, 16, 17] [0, 1, 2, 3, 4] rfl rfl (by decide) (by decide) (by decide) (va_recv hK hP (ci := 5) (q0 := 5) rfl rfl) rfl hl.1 rfl (Nat.le_of_ble_eq_true rfl) dX7_execute_162 ⟨Nat.le_of_ble_eq_true rfl, Nat.le_of_ble_eq_true rfl⟩ (fun H locs hP hD hS => ?_)
            have hP : va_P (dC, dI) vwCl [(a 0, .inr (7, [.ref (a 1), .int S_position, .int S_count, .ref (a 2), .ref (a 3), .int S_argumentCount])), (a 1, .inr (1, [.ref Z_v, .int 0, .int Z_ml, .int Z_n])), (Z_v, .inl (Y 1, Z_m, .inl Z_f)), (a 2, .inl (Y 4, 12, .inr (.inr (.inr (.inr (wk_cm g S_cm)))))), (a 3, .inl (Y 0, 48, .inl S_arguments)), (b 0, .inr (5, [.ref (b 1), .ref (b 7), .int C_nights, .int w73, .int C_shows, .int C_fallen])), (b 1, .inr (9, [.int T_count, .ref (b 2), .ref (b 3), .ref (b 4), .ref (b 5), .ref (b 6)])), (b 2, .inl (Y 0, 6, .inl T_weights)), (b 3, .inl (Y 0, 6, .inl T_strengths)), (b 4, .inl (Y 0, 6, .inl T_heights)), (b 5, .inl (Y 0, 6, .inl T_wages)), (b 6, .inl (Y 0, 6, .inl T_nightsToHeal)), (b 7, .inr (4, [.int B_accounts, .ref (b 8), .ref (b 9), .int B_entries, .ref (b 10), .ref (b 11), .ref (b 12)])), (b 8, .inl (Y 0, 11, .inl B_balances)), (b 9, .inl (Y 0, 11, .inl B_balancesAtClosing)), (b 10, .inl (Y 0, 60, .inl B_debited)), (b 11, .inl (Y 0, 60, .inl B_credited)), (b 12, .inl (Y 0, 60, .inl B_amounts))] H := hP
            have hD : va_D A [(a 0, .inr (7, [.ref (a 1), .int S_position, .int S_count, .ref (a 2), .ref (a 3), .int S_argumentCount])), (a 1, .inr (1, [.ref Z_v, .int 0, .int Z_ml, .int Z_n])), (Z_v, .inl (Y 1, Z_m, .inl Z_f)), (a 2, .inl (Y 4, 12, .inr (.inr (.inr (.inr (wk_cm g S_cm)))))), (a 3, .inl (Y 0, 48, .inl S_arguments)), (b 0, .inr (5, [.ref (b 1), .ref (b 7), .int C_nights, .int w73, .int C_shows, .int C_fallen])), (b 1, .inr (9, [.int T_count, .ref (b 2), .ref (b 3), .ref (b 4), .ref (b 5), .ref (b 6)])), (b 2, .inl (Y 0, 6, .inl T_weights)), (b 3, .inl (Y 0, 6, .inl T_strengths)), (b 4, .inl (Y 0, 6, .inl T_heights)), (b 5, .inl (Y 0, 6, .inl T_wages)), (b 6, .inl (Y 0, 6, .inl T_nightsToHeal)), (b 7, .inr (4, [.int B_accounts, .ref (b 8), .ref (b 9), .int B_entries, .ref (b 10), .ref (b 11), .ref (b 12)])), (b 8, .inl (Y 0, 11, .inl B_balances)), (b 9, .inl (Y 0, 11, .inl B_balancesAtClosing)), (b 10, .inl (Y 0, 60, .inl B_debited)), (b 11, .inl (Y 0, 60, .inl B_credited)), (b 12, .inl (Y 0, 60, .inl B_amounts))] := hD
            refine lv_pop hx hb dX7_execute_165 rfl ?_
            refine lv_goto (tgt := 217) hx hb dX7_execute_166 (by decide) ?_
            obtain ⟨e0, e1, e2, e3, e4, e5, e6, e7, e8, e9, e10, e11, e12, e13, e14, e15, e16⟩ := wke17 hf
            subst e0
            subst e1
            subst e2
            subst e3
            subst e4
            subst e5
            subst e6
            subst e7
            subst e8
            subst e9
            subst e10
            subst e11
            subst e12
            subst e13
            subst e14
            subst e15
            subst e16
            have hP9 := hP.sub (ws' := ((wX7 Y a g Z_v Z_m Z_ml Z_n Z_f S_position S_count S_cm S_arguments S_argumentCount) ++ (wX3 Y b T_count T_weights T_strengths T_heights T_wages T_nightsToHeal B_accounts B_balances B_balancesAtClosing B_entries B_debited B_credited B_amounts C_nights w73 C_shows C_fallen))) [0, 1, 2, 3, 4, 5, 6, 7, 8, 9, 10, 11, 12, 13, 14, 15, 16, 17] rfl
            have hD9 := hD.sub (ws' := ((wX7 Y a g Z_v Z_m Z_ml Z_n Z_f S_position S_count S_cm S_arguments S_argumentCount) ++ (wX3 Y b T_count T_weights T_strengths T_heights T_wages T_nightsToHeal B_accounts B_balances B_balancesAtClosing B_entries B_debited B_credited B_amounts C_nights w73 C_shows C_fallen))) [0, 1, 2, 3, 4, 5, 6, 7, 8, 9, 10, 11, 12, 13, 14, 15, 16, 17] (by decide) rfl
            exact W.vret hx hb hr (fun t ht hW => ⟨⟨Z_v, rfl, trivial, by rw [ht]; exact hP9, va_K.moved hW.alike hK, hD9⟩, hS.F ht⟩) hS.2.2 dX7_execute_217
          · have hf := wk_f hf q69
            by_cases q76 : (sSw r5.toNatClampNeg) = 6
            · have hf := wk_t hf q76
              refine lv_tableIn (tgt := 169) hx hb dX7_execute_13 (by rw [q76]; decide) (by rw [q76]; decide) (by rw [q76]; rfl) (by decide) ?_
              refine lv_aload_n hx hb dX7_execute_169 rfl (lv_at hl 2 rfl) ?_
              refine lv_aload_n hx hb dX7_execute_170 rfl (lv_at hl 0 rfl) ?_
              refine lv_iload_n hx hb dX7_execute_171 rfl (lv_at hl 1 rfl) ?_
              refine lv_iconst (v := 0) hx hb dX7_execute_172 (by decide) ?_
              obtain ⟨r77, hr78, hf⟩ := wkb1_s hf
              have hPc := hP.sub (ws' := (wX7 Y a g Z_v Z_m Z_ml Z_n Z_f S_position S_count S_cm S_arguments S_argumentCount)) [0, 1, 2, 3, 4] rfl
              refine wk_viT (As := [.int x1, .int 0]) (rest := [.ref (b 0)]) ⟨hx, hb, hml, hown, hts⟩ (c_X7_argument l dC dI Y g a Z_v Z_m Z_ml Z_n Z_f S_position S_count S_cm S_arguments S_argumentCount x1 0 r77 hr78) (cwV 2 hts gX7_execute_X7_argument rfl rfl rfl (by decide +kernel) ⟨Nat.le_of_ble_eq_true rfl, Nat.le_of_ble_eq_true rfl⟩) hK hPc hT hS (va_recv hK hP (ci := 7) (q0 := 0) rfl rfl) rfl hl.1 rfl (Nat.le_of_ble_eq_true rfl) dX7_execute_173 ⟨Nat.le_of_ble_eq_true rfl, Nat.le_of_ble_eq_true rfl⟩ ?_
              obtain ⟨r79, w80, w81, hr82, hf⟩ := wkb3_s hf
              refine wk_evi (As := [.int r77]) (rest := []) (wc := (wX3 Y b T_count T_weights T_strengths T_heights T_wages T_nightsToHeal B_accounts B_balances B_balancesAtClosing B_entries B_debited B_credited B_amounts C_nights C_netWidth C_shows C_fallen)) (w1 := (wX3 Y b T_count T_weights T_strengths T_heights T_wages w80 B_accounts B_balances B_balancesAtClosing B_entries B_debited B_credited B_amounts w81 C_netWidth C_shows C_fallen)) (wr := [(a 0, .inr (7, [.ref (a 1), .int S_position, .int S_count, .ref (a 2), .ref (a 3), .int S_argumentCount])), (a 1, .inr (1, [.ref Z_v, .int 0, .int Z_ml, .int Z_n])), (Z_v, .inl (Y 1, Z_m, .inl Z_f)), (a 2, .inl (Y 4, 12, .inr (.inr (.inr (.inr (wk_cm g S_cm)))))), (a 3, .inl (Y 0, 48, .inl S_arguments))]) ⟨hx, hb, hml, hown, hts⟩ (c_X3_waitNights l dC dI Y b T_count T_weights T_strengths T_heights T_wages T_nightsToHeal B_accounts B_balances B_balancesAtClosing B_entries B_debited B_credited B_amounts C_nights C_netWidth C_shows C_fallen r77 H.size r79 w80 w81 hr82) (cwV 1 hts gX7_execute_X3_waitNights rfl rfl rfl (by decide +kernel) ⟨Nat.le_of_ble_eq_true rfl, Nat.le_of_ble_eq_true rfl⟩) hK hP hD hS hA [5, 6, 7, 8, 9, 10, 11, 12, 13, 14, 15, 16, 17] [0, 1, 2, 3, 4] rfl rfl (by decide) (by decide) (by decide) (va_recv hK hP (ci := 5) (q0 := 5) rfl rfl) rfl hl.1 rfl (Nat.le_of_ble_eq_true rfl) dX7_execute_176 ⟨Nat.le_of_ble_eq_true rfl, Nat.le_of_ble_eq_true rfl⟩ (fun H locs hP hD hS => ?_)
              have hP : va_P (dC, dI) vwCl [(a 0, .inr (7, [.ref (a 1), .int S_position, .int S_count, .ref (a 2), .ref (a 3), .int S_argumentCount])), (a 1, .inr (1, [.ref Z_v, .int 0, .int Z_ml, .int Z_n])), (Z_v, .inl (Y 1, Z_m, .inl Z_f)), (a 2, .inl (Y 4, 12, .inr (.inr (.inr (.inr (wk_cm g S_cm)))))), (a 3, .inl (Y 0, 48, .inl S_arguments)), (b 0, .inr (5, [.ref (b 1), .ref (b 7), .int w81, .int C_netWidth, .int C_shows, .int C_fallen])), (b 1, .inr (9, [.int T_count, .ref (b 2), .ref (b 3), .ref (b 4), .ref (b 5), .ref (b 6)])), (b 2, .inl (Y 0, 6, .inl T_weights)), (b 3, .inl (Y 0, 6, .inl T_strengths)), (b 4, .inl (Y 0, 6, .inl T_heights)), (b 5, .inl (Y 0, 6, .inl T_wages)), (b 6, .inl (Y 0, 6, .inl w80)), (b 7, .inr (4, [.int B_accounts, .ref (b 8), .ref (b 9), .int B_entries, .ref (b 10), .ref (b 11), .ref (b 12)])), (b 8, .inl (Y 0, 11, .inl B_balances)), (b 9, .inl (Y 0, 11, .inl B_balancesAtClosing)), (b 10, .inl (Y 0, 60, .inl B_debited)), (b 11, .inl (Y 0, 60, .inl B_credited)), (b 12, .inl (Y 0, 60, .inl B_amounts))] H := hP
              have hD : va_D A [(a 0, .inr (7, [.ref (a 1), .int S_position, .int S_count, .ref (a 2), .ref (a 3), .int S_argumentCount])), (a 1, .inr (1, [.ref Z_v, .int 0, .int Z_ml, .int Z_n])), (Z_v, .inl (Y 1, Z_m, .inl Z_f)), (a 2, .inl (Y 4, 12, .inr (.inr (.inr (.inr (wk_cm g S_cm)))))), (a 3, .inl (Y 0, 48, .inl S_arguments)), (b 0, .inr (5, [.ref (b 1), .ref (b 7), .int w81, .int C_netWidth, .int C_shows, .int C_fallen])), (b 1, .inr (9, [.int T_count, .ref (b 2), .ref (b 3), .ref (b 4), .ref (b 5), .ref (b 6)])), (b 2, .inl (Y 0, 6, .inl T_weights)), (b 3, .inl (Y 0, 6, .inl T_strengths)), (b 4, .inl (Y 0, 6, .inl T_heights)), (b 5, .inl (Y 0, 6, .inl T_wages)), (b 6, .inl (Y 0, 6, .inl w80)), (b 7, .inr (4, [.int B_accounts, .ref (b 8), .ref (b 9), .int B_entries, .ref (b 10), .ref (b 11), .ref (b 12)])), (b 8, .inl (Y 0, 11, .inl B_balances)), (b 9, .inl (Y 0, 11, .inl B_balancesAtClosing)), (b 10, .inl (Y 0, 60, .inl B_debited)), (b 11, .inl (Y 0, 60, .inl B_credited)), (b 12, .inl (Y 0, 60, .inl B_amounts))] := hD
              refine lv_pop hx hb dX7_execute_179 rfl ?_
              refine lv_goto (tgt := 217) hx hb dX7_execute_180 (by decide) ?_
              obtain ⟨e0, e1, e2, e3, e4, e5, e6, e7, e8, e9, e10, e11, e12, e13, e14, e15, e16⟩ := wke17 hf
              subst e0
              subst e1
              subst e2
              subst e3
              subst e4
              subst e5
              subst e6
              subst e7
              subst e8
              subst e9
              subst e10
              subst e11
              subst e12
              subst e13
              subst e14
              subst e15
              subst e16
              have hP9 := hP.sub (ws' := ((wX7 Y a g Z_v Z_m Z_ml Z_n Z_f S_position S_count S_cm S_arguments S_argumentCount) ++ (wX3 Y b T_count T_weights T_strengths T_heights T_wages w80 B_accounts B_balances B_balancesAtClosing B_entries B_debited B_credited B_amounts w81 C_netWidth C_shows C_fallen))) [0, 1, 2, 3, 4, 5, 6, 7, 8, 9, 10, 11, 12, 13, 14, 15, 16, 17] rfl
              have hD9 := hD.sub (ws' := ((wX7 Y a g Z_v Z_m Z_ml Z_n Z_f S_position S_count S_cm S_arguments S_argumentCount) ++ (wX3 Y b T_count T_weights T_strengths T_heights T_wages w80 B_accounts B_balances B_balancesAtClosing B_entries B_debited B_credited B_amounts w81 C_netWidth C_shows C_fallen))) [0, 1, 2, 3, 4, 5, 6, 7, 8, 9, 10, 11, 12, 13, 14, 15, 16, 17] (by decide) rfl
              exact W.vret hx hb hr (fun t ht hW => ⟨⟨Z_v, rfl, trivial, by rw [ht]; exact hP9, va_K.moved hW.alike hK, hD9⟩, hS.F ht⟩) hS.2.2 dX7_execute_217
            · have hf := wk_f hf q76
              by_cases q84 : (sSw r5.toNatClampNeg) = 7
              · have hf := wk_t hf q84
                refine lv_tableIn (tgt := 194) hx hb dX7_execute_13 (by rw [q84]; decide) (by rw [q84]; decide) (by rw [q84]; rfl) (by decide) ?_
                refine lv_aload_n hx hb dX7_execute_194 rfl (lv_at hl 2 rfl) ?_
                refine va_get (D := (dC, dI)) (ci := 5) (v := .ref (b 7)) (C := RX3) (T := TX3) (N := 6) hx hb hts in_X7_execute_X3 hown hK hP 5 rfl rfl 1 (by decide) (hts _ lk_X7_execute_RX7_89) (fun _ h9 => h9) rfl dX7_execute_195 ?_
                refine lv_aload_n hx hb dX7_execute_198 rfl (lv_at hl 0 rfl) ?_
                refine lv_iload_n hx hb dX7_execute_199 rfl (lv_at hl 1 rfl) ?_
                refine lv_iconst (v := 0) hx hb dX7_execute_200 (by decide) ?_
                obtain ⟨r85, hr86, hf⟩ := wkb1_s hf
                have hPc := hP.sub (ws' := (wX7 Y a g Z_v Z_m Z_ml Z_n Z_f S_position S_count S_cm S_arguments S_argumentCount)) [0, 1, 2, 3, 4] rfl
                refine wk_viT (As := [.int x1, .int 0]) (rest := [.ref (b 7)]) ⟨hx, hb, hml, hown, hts⟩ (c_X7_argument l dC dI Y g a Z_v Z_m Z_ml Z_n Z_f S_position S_count S_cm S_arguments S_argumentCount x1 0 r85 hr86) (cwV 2 hts gX7_execute_X7_argument rfl rfl rfl (by decide +kernel) ⟨Nat.le_of_ble_eq_true rfl, Nat.le_of_ble_eq_true rfl⟩) hK hPc hT hS (va_recv hK hP (ci := 7) (q0 := 0) rfl rfl) rfl hl.1 rfl (Nat.le_of_ble_eq_true rfl) dX7_execute_201 ⟨Nat.le_of_ble_eq_true rfl, Nat.le_of_ble_eq_true rfl⟩ ?_
                refine lv_aload_n hx hb dX7_execute_204 rfl (lv_at hl 0 rfl) ?_
                refine lv_iload_n hx hb dX7_execute_205 rfl (lv_at hl 1 rfl) ?_
                refine lv_iconst (v := 1) hx hb dX7_execute_206 (by decide) ?_
                obtain ⟨r87, hr88, hf⟩ := wkb1_s hf
                have hPc := hP.sub (ws' := (wX7 Y a g Z_v Z_m Z_ml Z_n Z_f S_position S_count S_cm S_arguments S_argumentCount)) [0, 1, 2, 3, 4] rfl
                refine wk_viT (As := [.int x1, .int 1]) (rest := [.int r85, .ref (b 7)]) ⟨hx, hb, hml, hown, hts⟩ (c_X7_argument l dC dI Y g a Z_v Z_m Z_ml Z_n Z_f S_position S_count S_cm S_arguments S_argumentCount x1 1 r87 hr88) (cwV 2 hts gX7_execute_X7_argument rfl rfl rfl (by decide +kernel) ⟨Nat.le_of_ble_eq_true rfl, Nat.le_of_ble_eq_true rfl⟩) hK hPc hT hS (va_recv hK hP (ci := 7) (q0 := 0) rfl rfl) rfl hl.1 rfl (Nat.le_of_ble_eq_true rfl) dX7_execute_207 ⟨Nat.le_of_ble_eq_true rfl, Nat.le_of_ble_eq_true rfl⟩ ?_
                obtain ⟨r89, w90, w91, w92, w93, w94, hr95, hf⟩ := wkb6_s hf
                refine wk_evi (As := [.int r85, .int r87]) (rest := []) (wc := (wX2 Y (fun k => b (k + 7)) B_accounts B_balances B_balancesAtClosing B_entries B_debited B_credited B_amounts)) (w1 := (wX2 Y (fun k => b (k + 7)) B_accounts w90 B_balancesAtClosing w91 w92 w93 w94)) (wr := [(a 0, .inr (7, [.ref (a 1), .int S_position, .int S_count, .ref (a 2), .ref (a 3), .int S_argumentCount])), (a 1, .inr (1, [.ref Z_v, .int 0, .int Z_ml, .int Z_n])), (Z_v, .inl (Y 1, Z_m, .inl Z_f)), (a 2, .inl (Y 4, 12, .inr (.inr (.inr (.inr (wk_cm g S_cm)))))), (a 3, .inl (Y 0, 48, .inl S_arguments)), (b 0, .inr (5, [.ref (b 1), .ref (b 7), .int C_nights, .int C_netWidth, .int C_shows, .int C_fallen])), (b 1, .inr (9, [.int T_count, .ref (b 2), .ref (b 3), .ref (b 4), .ref (b 5), .ref (b 6)])), (b 2, .inl (Y 0, 6, .inl T_weights)), (b 3, .inl (Y 0, 6, .inl T_strengths)), (b 4, .inl (Y 0, 6, .inl T_heights)), (b 5, .inl (Y 0, 6, .inl T_wages)), (b 6, .inl (Y 0, 6, .inl T_nightsToHeal))]) ⟨hx, hb, hml, hown, hts⟩ (c_X2_offset l dC dI Y (fun k => b (k + 7)) B_accounts B_balances B_balancesAtClosing B_entries B_debited B_credited B_amounts r85 r87 H.size r89 w90 w91 w92 w93 w94 hr95) (cwV 2 hts gX7_execute_X2_offset rfl rfl rfl (by decide +kernel) ⟨Nat.le_of_ble_eq_true rfl, Nat.le_of_ble_eq_true rfl⟩) hK hP hD hS hA [12, 13, 14, 15, 16, 17] [0, 1, 2, 3, 4, 5, 6, 7, 8, 9, 10, 11] rfl rfl (by decide) (by decide) (by decide) (va_recv hK hP (ci := 4) (q0 := 12) rfl rfl) rfl hl.1 rfl (Nat.le_of_ble_eq_true rfl) dX7_execute_210 ⟨Nat.le_of_ble_eq_true rfl, Nat.le_of_ble_eq_true rfl⟩ (fun H locs hP hD hS => ?_)
                have hP : va_P (dC, dI) vwCl [(a 0, .inr (7, [.ref (a 1), .int S_position, .int S_count, .ref (a 2), .ref (a 3), .int S_argumentCount])), (a 1, .inr (1, [.ref Z_v, .int 0, .int Z_ml, .int Z_n])), (Z_v, .inl (Y 1, Z_m, .inl Z_f)), (a 2, .inl (Y 4, 12, .inr (.inr (.inr (.inr (wk_cm g S_cm)))))), (a 3, .inl (Y 0, 48, .inl S_arguments)), (b 0, .inr (5, [.ref (b 1), .ref (b 7), .int C_nights, .int C_netWidth, .int C_shows, .int C_fallen])), (b 1, .inr (9, [.int T_count, .ref (b 2), .ref (b 3), .ref (b 4), .ref (b 5), .ref (b 6)])), (b 2, .inl (Y 0, 6, .inl T_weights)), (b 3, .inl (Y 0, 6, .inl T_strengths)), (b 4, .inl (Y 0, 6, .inl T_heights)), (b 5, .inl (Y 0, 6, .inl T_wages)), (b 6, .inl (Y 0, 6, .inl T_nightsToHeal)), (b 7, .inr (4, [.int B_accounts, .ref (b 8), .ref (b 9), .int w91, .ref (b 10), .ref (b 11), .ref (b 12)])), (b 8, .inl (Y 0, 11, .inl w90)), (b 9, .inl (Y 0, 11, .inl B_balancesAtClosing)), (b 10, .inl (Y 0, 60, .inl w92)), (b 11, .inl (Y 0, 60, .inl w93)), (b 12, .inl (Y 0, 60, .inl w94))] H := hP
                have hD : va_D A [(a 0, .inr (7, [.ref (a 1), .int S_position, .int S_count, .ref (a 2), .ref (a 3), .int S_argumentCount])), (a 1, .inr (1, [.ref Z_v, .int 0, .int Z_ml, .int Z_n])), (Z_v, .inl (Y 1, Z_m, .inl Z_f)), (a 2, .inl (Y 4, 12, .inr (.inr (.inr (.inr (wk_cm g S_cm)))))), (a 3, .inl (Y 0, 48, .inl S_arguments)), (b 0, .inr (5, [.ref (b 1), .ref (b 7), .int C_nights, .int C_netWidth, .int C_shows, .int C_fallen])), (b 1, .inr (9, [.int T_count, .ref (b 2), .ref (b 3), .ref (b 4), .ref (b 5), .ref (b 6)])), (b 2, .inl (Y 0, 6, .inl T_weights)), (b 3, .inl (Y 0, 6, .inl T_strengths)), (b 4, .inl (Y 0, 6, .inl T_heights)), (b 5, .inl (Y 0, 6, .inl T_wages)), (b 6, .inl (Y 0, 6, .inl T_nightsToHeal)), (b 7, .inr (4, [.int B_accounts, .ref (b 8), .ref (b 9), .int w91, .ref (b 10), .ref (b 11), .ref (b 12)])), (b 8, .inl (Y 0, 11, .inl w90)), (b 9, .inl (Y 0, 11, .inl B_balancesAtClosing)), (b 10, .inl (Y 0, 60, .inl w92)), (b 11, .inl (Y 0, 60, .inl w93)), (b 12, .inl (Y 0, 60, .inl w94))] := hD
                refine lv_pop hx hb dX7_execute_213 rfl ?_
                refine lv_goto (tgt := 217) hx hb dX7_execute_214 (by decide) ?_
                obtain ⟨e0, e1, e2, e3, e4, e5, e6, e7, e8, e9, e10, e11, e12, e13, e14, e15, e16⟩ := wke17 hf
                subst e0
                subst e1
                subst e2
                subst e3
                subst e4
                subst e5
                subst e6
                subst e7
                subst e8
                subst e9
                subst e10
                subst e11
                subst e12
                subst e13
                subst e14
                subst e15
                subst e16
                have hP9 := hP.sub (ws' := ((wX7 Y a g Z_v Z_m Z_ml Z_n Z_f S_position S_count S_cm S_arguments S_argumentCount) ++ (wX3 Y b T_count T_weights T_strengths T_heights T_wages T_nightsToHeal B_accounts w90 B_balancesAtClosing w91 w92 w93 w94 C_nights C_netWidth C_shows C_fallen))) [0, 1, 2, 3, 4, 5, 6, 7, 8, 9, 10, 11, 12, 13, 14, 15, 16, 17] rfl
                have hD9 := hD.sub (ws' := ((wX7 Y a g Z_v Z_m Z_ml Z_n Z_f S_position S_count S_cm S_arguments S_argumentCount) ++ (wX3 Y b T_count T_weights T_strengths T_heights T_wages T_nightsToHeal B_accounts w90 B_balancesAtClosing w91 w92 w93 w94 C_nights C_netWidth C_shows C_fallen))) [0, 1, 2, 3, 4, 5, 6, 7, 8, 9, 10, 11, 12, 13, 14, 15, 16, 17] (by decide) rfl
                exact W.vret hx hb hr (fun t ht hW => ⟨⟨Z_v, rfl, trivial, by rw [ht]; exact hP9, va_K.moved hW.alike hK, hD9⟩, hS.F ht⟩) hS.2.2 dX7_execute_217
              · have hf := wk_f hf q84
                by_cases q97 : (sSw r5.toNatClampNeg) = 8
                · have hf := wk_t hf q97
                  refine lv_tableIn (tgt := 183) hx hb dX7_execute_13 (by rw [q97]; decide) (by rw [q97]; decide) (by rw [q97]; rfl) (by decide) ?_
                  refine lv_aload_n hx hb dX7_execute_183 rfl (lv_at hl 2 rfl) ?_
                  refine va_get (D := (dC, dI)) (ci := 5) (v := .ref (b 7)) (C := RX3) (T := TX3) (N := 6) hx hb hts in_X7_execute_X3 hown hK hP 5 rfl rfl 1 (by decide) (hts _ lk_X7_execute_RX7_89) (fun _ h9 => h9) rfl dX7_execute_184 ?_
                  obtain ⟨r98, w99, w100, hr101, hf⟩ := wkb3_s hf
                  refine wk_evi (As := []) (rest := []) (wc := (wX2 Y (fun k => b (k + 7)) B_accounts B_balances B_balancesAtClosing B_entries B_debited B_credited B_amounts)) (w1 := (wX2 Y (fun k => b (k + 7)) B_accounts B_balances w99 w100 B_debited B_credited B_amounts)) (wr := [(a 0, .inr (7, [.ref (a 1), .int S_position, .int S_count, .ref (a 2), .ref (a 3), .int S_argumentCount])), (a 1, .inr (1, [.ref Z_v, .int 0, .int Z_ml, .int Z_n])), (Z_v, .inl (Y 1, Z_m, .inl Z_f)), (a 2, .inl (Y 4, 12, .inr (.inr (.inr (.inr (wk_cm g S_cm)))))), (a 3, .inl (Y 0, 48, .inl S_arguments)), (b 0, .inr (5, [.ref (b 1), .ref (b 7), .int C_nights, .int C_netWidth, .int C_shows, .int C_fallen])), (b 1, .inr (9, [.int T_count, .ref (b 2), .ref (b 3), .ref (b 4), .ref (b 5), .ref (b 6)])), (b 2, .inl (Y 0, 6, .inl T_weights)), (b 3, .inl (Y 0, 6, .inl T_strengths)), (b 4, .inl (Y 0, 6, .inl T_heights)), (b 5, .inl (Y 0, 6, .inl T_wages)), (b 6, .inl (Y 0, 6, .inl T_nightsToHeal))]) ⟨hx, hb, hml, hown, hts⟩ (c_X2_close l dC dI Y (fun k => b (k + 7)) B_accounts B_balances B_balancesAtClosing B_entries B_debited B_credited B_amounts H.size r98 w99 w100 hr101) (cwV 0 hts gX7_execute_X2_close rfl rfl rfl (by decide +kernel) ⟨Nat.le_of_ble_eq_true rfl, Nat.le_of_ble_eq_true rfl⟩) hK hP hD hS hA [12, 13, 14, 15, 16, 17] [0, 1, 2, 3, 4, 5, 6, 7, 8, 9, 10, 11] rfl rfl (by decide) (by decide) (by decide) (va_recv hK hP (ci := 4) (q0 := 12) rfl rfl) rfl hl.1 rfl (Nat.le_of_ble_eq_true rfl) dX7_execute_187 ⟨Nat.le_of_ble_eq_true rfl, Nat.le_of_ble_eq_true rfl⟩ (fun H locs hP hD hS => ?_)
                  have hP : va_P (dC, dI) vwCl [(a 0, .inr (7, [.ref (a 1), .int S_position, .int S_count, .ref (a 2), .ref (a 3), .int S_argumentCount])), (a 1, .inr (1, [.ref Z_v, .int 0, .int Z_ml, .int Z_n])), (Z_v, .inl (Y 1, Z_m, .inl Z_f)), (a 2, .inl (Y 4, 12, .inr (.inr (.inr (.inr (wk_cm g S_cm)))))), (a 3, .inl (Y 0, 48, .inl S_arguments)), (b 0, .inr (5, [.ref (b 1), .ref (b 7), .int C_nights, .int C_netWidth, .int C_shows, .int C_fallen])), (b 1, .inr (9, [.int T_count, .ref (b 2), .ref (b 3), .ref (b 4), .ref (b 5), .ref (b 6)])), (b 2, .inl (Y 0, 6, .inl T_weights)), (b 3, .inl (Y 0, 6, .inl T_strengths)), (b 4, .inl (Y 0, 6, .inl T_heights)), (b 5, .inl (Y 0, 6, .inl T_wages)), (b 6, .inl (Y 0, 6, .inl T_nightsToHeal)), (b 7, .inr (4, [.int B_accounts, .ref (b 8), .ref (b 9), .int w100, .ref (b 10), .ref (b 11), .ref (b 12)])), (b 8, .inl (Y 0, 11, .inl B_balances)), (b 9, .inl (Y 0, 11, .inl w99)), (b 10, .inl (Y 0, 60, .inl B_debited)), (b 11, .inl (Y 0, 60, .inl B_credited)), (b 12, .inl (Y 0, 60, .inl B_amounts))] H := hP
                  have hD : va_D A [(a 0, .inr (7, [.ref (a 1), .int S_position, .int S_count, .ref (a 2), .ref (a 3), .int S_argumentCount])), (a 1, .inr (1, [.ref Z_v, .int 0, .int Z_ml, .int Z_n])), (Z_v, .inl (Y 1, Z_m, .inl Z_f)), (a 2, .inl (Y 4, 12, .inr (.inr (.inr (.inr (wk_cm g S_cm)))))), (a 3, .inl (Y 0, 48, .inl S_arguments)), (b 0, .inr (5, [.ref (b 1), .ref (b 7), .int C_nights, .int C_netWidth, .int C_shows, .int C_fallen])), (b 1, .inr (9, [.int T_count, .ref (b 2), .ref (b 3), .ref (b 4), .ref (b 5), .ref (b 6)])), (b 2, .inl (Y 0, 6, .inl T_weights)), (b 3, .inl (Y 0, 6, .inl T_strengths)), (b 4, .inl (Y 0, 6, .inl T_heights)), (b 5, .inl (Y 0, 6, .inl T_wages)), (b 6, .inl (Y 0, 6, .inl T_nightsToHeal)), (b 7, .inr (4, [.int B_accounts, .ref (b 8), .ref (b 9), .int w100, .ref (b 10), .ref (b 11), .ref (b 12)])), (b 8, .inl (Y 0, 11, .inl B_balances)), (b 9, .inl (Y 0, 11, .inl w99)), (b 10, .inl (Y 0, 60, .inl B_debited)), (b 11, .inl (Y 0, 60, .inl B_credited)), (b 12, .inl (Y 0, 60, .inl B_amounts))] := hD
                  refine lv_pop hx hb dX7_execute_190 rfl ?_
                  refine lv_goto (tgt := 217) hx hb dX7_execute_191 (by decide) ?_
                  obtain ⟨e0, e1, e2, e3, e4, e5, e6, e7, e8, e9, e10, e11, e12, e13, e14, e15, e16⟩ := wke17 hf
                  subst e0
                  subst e1
                  subst e2
                  subst e3
                  subst e4
                  subst e5
                  subst e6
                  subst e7
                  subst e8
                  subst e9
                  subst e10
                  subst e11
                  subst e12
                  subst e13
                  subst e14
                  subst e15
                  subst e16
                  have hP9 := hP.sub (ws' := ((wX7 Y a g Z_v Z_m Z_ml Z_n Z_f S_position S_count S_cm S_arguments S_argumentCount) ++ (wX3 Y b T_count T_weights T_strengths T_heights T_wages T_nightsToHeal B_accounts B_balances w99 w100 B_debited B_credited B_amounts C_nights C_netWidth C_shows C_fallen))) [0, 1, 2, 3, 4, 5, 6, 7, 8, 9, 10, 11, 12, 13, 14, 15, 16, 17] rfl
                  have hD9 := hD.sub (ws' := ((wX7 Y a g Z_v Z_m Z_ml Z_n Z_f S_position S_count S_cm S_arguments S_argumentCount) ++ (wX3 Y b T_count T_weights T_strengths T_heights T_wages T_nightsToHeal B_accounts B_balances w99 w100 B_debited B_credited B_amounts C_nights C_netWidth C_shows C_fallen))) [0, 1, 2, 3, 4, 5, 6, 7, 8, 9, 10, 11, 12, 13, 14, 15, 16, 17] (by decide) rfl
                  exact W.vret hx hb hr (fun t ht hW => ⟨⟨Z_v, rfl, trivial, by rw [ht]; exact hP9, va_K.moved hW.alike hK, hD9⟩, hS.F ht⟩) hS.2.2 dX7_execute_217
                · have hf := wk_f hf q97
                  refine lv_tableOut (tgt := 217) hx hb dX7_execute_13 (by have z0 := wk_ne (k := 1) (by decide) q8; have z1 := wk_ne (k := 2) (by decide) q26; have z2 := wk_ne (k := 3) (by decide) q41; have z3 := wk_ne (k := 4) (by decide) q54; have z4 := wk_ne (k := 5) (by decide) q69; have z5 := wk_ne (k := 6) (by decide) q76; have z6 := wk_ne (k := 7) (by decide) q84; have z7 := wk_ne (k := 8) (by decide) q97; omega) (by decide) ?_
                  obtain ⟨e0, e1, e2, e3, e4, e5, e6, e7, e8, e9, e10, e11, e12, e13, e14, e15, e16⟩ := wke17 hf
                  subst e0
                  subst e1
                  subst e2
                  subst e3
                  subst e4
                  subst e5
                  subst e6
                  subst e7
                  subst e8
                  subst e9
                  subst e10
                  subst e11
                  subst e12
                  subst e13
                  subst e14
                  subst e15
                  subst e16
                  have hP9 := hP.sub (ws' := ((wX7 Y a g Z_v Z_m Z_ml Z_n Z_f S_position S_count S_cm S_arguments S_argumentCount) ++ (wX3 Y b T_count T_weights T_strengths T_heights T_wages T_nightsToHeal B_accounts B_balances B_balancesAtClosing B_entries B_debited B_credited B_amounts C_nights C_netWidth C_shows C_fallen))) [0, 1, 2, 3, 4, 5, 6, 7, 8, 9, 10, 11, 12, 13, 14, 15, 16, 17] rfl
                  have hD9 := hD.sub (ws' := ((wX7 Y a g Z_v Z_m Z_ml Z_n Z_f S_position S_count S_cm S_arguments S_argumentCount) ++ (wX3 Y b T_count T_weights T_strengths T_heights T_wages T_nightsToHeal B_accounts B_balances B_balancesAtClosing B_entries B_debited B_credited B_amounts C_nights C_netWidth C_shows C_fallen))) [0, 1, 2, 3, 4, 5, 6, 7, 8, 9, 10, 11, 12, 13, 14, 15, 16, 17] (by decide) rfl
                  exact W.vret hx hb hr (fun t ht hW => ⟨⟨Z_v, rfl, trivial, by rw [ht]; exact hP9, va_K.moved hW.alike hK, hD9⟩, hS.F ht⟩) hS.2.2 dX7_execute_217
