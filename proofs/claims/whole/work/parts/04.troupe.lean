abbrev wX9 (Y : Nat → ClassId) (a : Nat → Nat) (T_count : Int32) (T_weights : Nat → Int32) (T_strengths : Nat → Int32) (T_heights : Nat → Int32) (T_wages : Nat → Int32) (T_nightsToHeal : Nat → Int32) : va_W := [(a 0, .inr (9, [.int T_count, .ref (a 1), .ref (a 2), .ref (a 3), .ref (a 4), .ref (a 5)])), (a 1, .inl (Y 0, 6, .inl T_weights)), (a 2, .inl (Y 0, 6, .inl T_strengths)), (a 3, .inl (Y 0, 6, .inl T_heights)), (a 4, .inl (Y 0, 6, .inl T_wages)), (a 5, .inl (Y 0, 6, .inl T_nightsToHeal))]
theorem kc_J6_bitCount_0f7a4_RJ6_265 : Cond.constant RJ6 265 (1431655765) ∈ wsJ6_bitCount_0f7a4 := by decide +kernel
theorem kc_J6_bitCount_0f7a4_RJ6_266 : Cond.constant RJ6 266 (858993459) ∈ wsJ6_bitCount_0f7a4 := by decide +kernel
theorem kc_J6_bitCount_0f7a4_RJ6_267 : Cond.constant RJ6 267 (252645135) ∈ wsJ6_bitCount_0f7a4 := by decide +kernel
def f_J6_bitCount_0f7a4 (x0 : Int32) : Option (Int32) :=
  wkl ((x0 - ((((x0).toUInt32 >>> ((1 : Int32).toUInt32 &&& Int32.toUInt32 31)).toInt32) &&& (1431655765)))) (fun v1 =>
  wkl (((v1 &&& (858993459)) + ((((v1).toUInt32 >>> ((2 : Int32).toUInt32 &&& Int32.toUInt32 31)).toInt32) &&& (858993459)))) (fun v2 =>
  wkl (((v2 + (((v2).toUInt32 >>> ((4 : Int32).toUInt32 &&& Int32.toUInt32 31)).toInt32)) &&& (252645135))) (fun v3 =>
  wkl ((v3 + (((v3).toUInt32 >>> ((8 : Int32).toUInt32 &&& Int32.toUInt32 31)).toInt32))) (fun v4 =>
  wkl ((v4 + (((v4).toUInt32 >>> ((16 : Int32).toUInt32 &&& Int32.toUInt32 31)).toInt32))) (fun v5 =>
  some ((v5 &&& 63)))))))
set_option maxHeartbeats 4000000 in
set_option maxRecDepth 100000 in
theorem c_J6_bitCount_0f7a4 (l : Launch) (dC : Nat → ClassId) (dI : Nat → Nat → Nat) (Y : Nat → ClassId)   (x0 : Int32) (r : Int32) (hf : f_J6_bitCount_0f7a4 x0 = some (r)) : Met l yJ6_bitCount_0f7a4 wsJ6_bitCount_0f7a4 ({ frames := 0, cells := 0, slots := 0, locals := 0 } : Room) (va_Pc [.int x0] (wk_B (dC, dI) Y ([] : va_W))) (vp_Si (fun r2 => r2 = r)) 0 0 (fun _ => False) := by
  refine Met.ofW (cc := cJ6_bitCount_0f7a4) (maxL := 1) (ret := (some .int)) (by decide) rfl ?_
  intro p e s m args below meth c s₁ B hml hv
  obtain ⟨rfl, hP, hK⟩ := hv
  have hx := B.exec
  have hb := B.bytes
  have hr := B.returns
  have hts := atoms_spec (ws := wsJ6_bitCount_0f7a4) B.pre
  have hown : s.vm.findClass RJ6 = some m.cls := findClass_of_methodNamed B.named
  have hlocks := B.notSynchronized
  have C0 : wk_C p s m _ meth c cJ6_bitCount_0f7a4 1 (some .int) wsJ6_bitCount_0f7a4 RJ6 := ⟨hx, hb, hml, hr, hlocks, hown, hts⟩
  have hP : va_P (dC, dI) vwCl [] s.heap := hP
  have hl := lv_entry ([.int x0]) (n := 1) (Nat.le_of_ble_eq_true rfl)
  rw [lg_entry_eq]
  generalize (lg_sl ([.int x0]) ++ List.replicate (1 - (lg_sl ([.int x0])).length) Slot.unset).toArray = ls at hl ⊢
  have hl : lv_has ls 1 [(0, .int x0)] := hl
  rw [f_J6_bitCount_0f7a4] at hf
  refine lv_iload_n hx hb dJ6_bitCount_0f7a4_0 rfl (lv_at hl 0 rfl) ?_
  refine lv_iload_n hx hb dJ6_bitCount_0f7a4_1 rfl (lv_at hl 0 rfl) ?_
  refine lv_iconst (v := 1) hx hb dJ6_bitCount_0f7a4_2 (by decide) ?_
  refine lv_iushr hx hb dJ6_bitCount_0f7a4_3 rfl ?_
  refine lv_ldcw hx hb hown (hts _ kc_J6_bitCount_0f7a4_RJ6_265) dJ6_bitCount_0f7a4_4 ?_
  refine lv_iand hx hb dJ6_bitCount_0f7a4_7 ?_
  refine lv_isub hx hb dJ6_bitCount_0f7a4_8 ?_
  refine lv_topi (fun v1 ev1 => ?_)
  have hf := wkl_s hf ev1
  refine lv_istore_n (lv' := [(0, .int v1)]) hx hb dJ6_bitCount_0f7a4_9 rfl hl (by decide) rfl (fun ls hl => ?_)
  refine lv_iload_n hx hb dJ6_bitCount_0f7a4_10 rfl (lv_at hl 0 rfl) ?_
  refine lv_ldcw hx hb hown (hts _ kc_J6_bitCount_0f7a4_RJ6_266) dJ6_bitCount_0f7a4_11 ?_
  refine lv_iand hx hb dJ6_bitCount_0f7a4_14 ?_
  refine lv_iload_n hx hb dJ6_bitCount_0f7a4_15 rfl (lv_at hl 0 rfl) ?_
  refine lv_iconst (v := 2) hx hb dJ6_bitCount_0f7a4_16 (by decide) ?_
  refine lv_iushr hx hb dJ6_bitCount_0f7a4_17 rfl ?_
  refine lv_ldcw hx hb hown (hts _ kc_J6_bitCount_0f7a4_RJ6_266) dJ6_bitCount_0f7a4_18 ?_
  refine lv_iand hx hb dJ6_bitCount_0f7a4_21 ?_
  refine lv_iadd hx hb dJ6_bitCount_0f7a4_22 ?_
  refine lv_topi (fun v2 ev2 => ?_)
  have hf := wkl_s hf ev2
  refine lv_istore_n (lv' := [(0, .int v2)]) hx hb dJ6_bitCount_0f7a4_23 rfl hl (by decide) rfl (fun ls hl => ?_)
  refine lv_iload_n hx hb dJ6_bitCount_0f7a4_24 rfl (lv_at hl 0 rfl) ?_
  refine lv_iload_n hx hb dJ6_bitCount_0f7a4_25 rfl (lv_at hl 0 rfl) ?_
  refine lv_iconst (v := 4) hx hb dJ6_bitCount_0f7a4_26 (by decide) ?_
  refine lv_iushr hx hb dJ6_bitCount_0f7a4_27 rfl ?_
  refine lv_iadd hx hb dJ6_bitCount_0f7a4_28 ?_
  refine lv_ldcw hx hb hown (hts _ kc_J6_bitCount_0f7a4_RJ6_267) dJ6_bitCount_0f7a4_29 ?_
  refine lv_iand hx hb dJ6_bitCount_0f7a4_32 ?_
  refine lv_topi (fun v3 ev3 => ?_)
  have hf := wkl_s hf ev3
  refine lv_istore_n (lv' := [(0, .int v3)]) hx hb dJ6_bitCount_0f7a4_33 rfl hl (by decide) rfl (fun ls hl => ?_)
  refine lv_iload_n hx hb dJ6_bitCount_0f7a4_34 rfl (lv_at hl 0 rfl) ?_
  refine lv_iload_n hx hb dJ6_bitCount_0f7a4_35 rfl (lv_at hl 0 rfl) ?_
  refine lv_bipush (v := 8) hx hb dJ6_bitCount_0f7a4_36 (by decide) ?_
  refine lv_iushr hx hb dJ6_bitCount_0f7a4_38 rfl ?_
  refine lv_iadd hx hb dJ6_bitCount_0f7a4_39 ?_
  refine lv_topi (fun v4 ev4 => ?_)
  have hf := wkl_s hf ev4
  refine lv_istore_n (lv' := [(0, .int v4)]) hx hb dJ6_bitCount_0f7a4_40 rfl hl (by decide) rfl (fun ls hl => ?_)
  refine lv_iload_n hx hb dJ6_bitCount_0f7a4_41 rfl (lv_at hl 0 rfl) ?_
  refine lv_iload_n hx hb dJ6_bitCount_0f7a4_42 rfl (lv_at hl 0 rfl) ?_
  refine lv_bipush (v := 16) hx hb dJ6_bitCount_0f7a4_43 (by decide) ?_
  refine lv_iushr hx hb dJ6_bitCount_0f7a4_45 rfl ?_
  refine lv_iadd hx hb dJ6_bitCount_0f7a4_46 ?_
  refine lv_topi (fun v5 ev5 => ?_)
  have hf := wkl_s hf ev5
  refine lv_istore_n (lv' := [(0, .int v5)]) hx hb dJ6_bitCount_0f7a4_47 rfl hl (by decide) rfl (fun ls hl => ?_)
  refine lv_iload_n hx hb dJ6_bitCount_0f7a4_48 rfl (lv_at hl 0 rfl) ?_
  refine lv_bipush (v := 63) hx hb dJ6_bitCount_0f7a4_49 (by decide) ?_
  refine lv_iand hx hb dJ6_bitCount_0f7a4_51 ?_
  have e0 := wke1 hf
  subst e0
  exact W.iret (v := (v5 &&& 63)) hx hb hr (fun t ht hW => ⟨(v5 &&& 63), rfl, rfl, ht⟩) (fun q h => absurd h List.not_mem_nil) dJ6_bitCount_0f7a4_52
theorem lk_X9_copyFrom_RX9_9 : Cond.fieldLink RX9 9 "CircusLedger$Troupe" "weights" "[I" ∈ wsX9_copyFrom := by decide +kernel
theorem lk_X9_copyFrom_RX9_15 : Cond.fieldLink RX9 15 "CircusLedger$Troupe" "strengths" "[I" ∈ wsX9_copyFrom := by decide +kernel
theorem lk_X9_copyFrom_RX9_18 : Cond.fieldLink RX9 18 "CircusLedger$Troupe" "heights" "[I" ∈ wsX9_copyFrom := by decide +kernel
theorem lk_X9_copyFrom_RX9_21 : Cond.fieldLink RX9 21 "CircusLedger$Troupe" "wages" "[I" ∈ wsX9_copyFrom := by decide +kernel
theorem lk_X9_copyFrom_RX9_24 : Cond.fieldLink RX9 24 "CircusLedger$Troupe" "nightsToHeal" "[I" ∈ wsX9_copyFrom := by decide +kernel
theorem lk_X9_copyFrom_RX9_27 : Cond.fieldLink RX9 27 "CircusLedger$Troupe" "count" "I" ∈ wsX9_copyFrom := by decide +kernel
theorem ac_X9_copyFrom_RX9_31 : Cond.methodLink RX9 31 arraycopyName ∈ wsX9_copyFrom ∧ Cond.native arraycopyName ∈ wsX9_copyFrom ∧ Cond.static arraycopyName ∈ wsX9_copyFrom ∧ Cond.initialized "java/lang/System" ∈ wsX9_copyFrom := ⟨by decide +kernel, by decide +kernel, by decide +kernel, by decide +kernel⟩
theorem in_X9_copyFrom_X9 : ∀ w ∈ u_ws RX9 TX9 6, w ∈ wsX9_copyFrom := by decide +kernel
def f_X9_copyFrom (T_count : Int32) (T_weights : Nat → Int32) (T_strengths : Nat → Int32) (T_heights : Nat → Int32) (T_wages : Nat → Int32) (T_nightsToHeal : Nat → Int32) (OT_count : Int32) (OT_weights : Nat → Int32) (OT_strengths : Nat → Int32) (OT_heights : Nat → Int32) (OT_wages : Nat → Int32) (OT_nightsToHeal : Nat → Int32) : Option (Int32 × (Nat → Int32) × (Nat → Int32) × (Nat → Int32) × (Nat → Int32) × (Nat → Int32)) :=
  wkl (va_cpy OT_weights T_weights 0 0 6) (fun g1 =>
  wkl (va_cpy OT_strengths T_strengths 0 0 6) (fun g2 =>
  wkl (va_cpy OT_heights T_heights 0 0 6) (fun g3 =>
  wkl (va_cpy OT_wages T_wages 0 0 6) (fun g4 =>
  wkl (va_cpy OT_nightsToHeal T_nightsToHeal 0 0 6) (fun g5 =>
  some (OT_count, g1, g2, g3, g4, g5))))))
set_option maxHeartbeats 4000000 in
set_option maxRecDepth 100000 in
theorem c_X9_copyFrom (l : Launch) (dC : Nat → ClassId) (dI : Nat → Nat → Nat) (Y : Nat → ClassId) (a : Nat → Nat) (b : Nat → Nat) (T_count : Int32) (T_weights : Nat → Int32) (T_strengths : Nat → Int32) (T_heights : Nat → Int32) (T_wages : Nat → Int32) (T_nightsToHeal : Nat → Int32) (OT_count : Int32) (OT_weights : Nat → Int32) (OT_strengths : Nat → Int32) (OT_heights : Nat → Int32) (OT_wages : Nat → Int32) (OT_nightsToHeal : Nat → Int32)  (sz : Nat) (zT_count : Int32) (zT_weights : Nat → Int32) (zT_strengths : Nat → Int32) (zT_heights : Nat → Int32) (zT_wages : Nat → Int32) (zT_nightsToHeal : Nat → Int32) (hf : f_X9_copyFrom T_count T_weights T_strengths T_heights T_wages T_nightsToHeal OT_count OT_weights OT_strengths OT_heights OT_wages OT_nightsToHeal = some (zT_count, zT_weights, zT_strengths, zT_heights, zT_wages, zT_nightsToHeal)) : Met l yX9_copyFrom wsX9_copyFrom ({ frames := 1, cells := 0, slots := 0, locals := 200 } : Room) (va_Pc [.ref (a 0), .ref (b 0)] (wk_E (dC, dI) Y ((wX9 Y a T_count T_weights T_strengths T_heights T_wages T_nightsToHeal) ++ (wX9 Y b OT_count OT_weights OT_strengths OT_heights OT_wages OT_nightsToHeal)) sz)) (va_Qv (fun (_ : Unit) => True) (fun _ t => wk_X (dC, dI) Y ((wX9 Y a zT_count zT_weights zT_strengths zT_heights zT_wages zT_nightsToHeal) ++ (wX9 Y b OT_count OT_weights OT_strengths OT_heights OT_wages OT_nightsToHeal)) (va_A ((wX9 Y a T_count T_weights T_strengths T_heights T_wages T_nightsToHeal) ++ (wX9 Y b OT_count OT_weights OT_strengths OT_heights OT_wages OT_nightsToHeal)) sz) t) (va_A ((wX9 Y a T_count T_weights T_strengths T_heights T_wages T_nightsToHeal) ++ (wX9 Y b OT_count OT_weights OT_strengths OT_heights OT_wages OT_nightsToHeal)) sz)) 0 0 (va_A ((wX9 Y a T_count T_weights T_strengths T_heights T_wages T_nightsToHeal) ++ (wX9 Y b OT_count OT_weights OT_strengths OT_heights OT_wages OT_nightsToHeal)) sz) := by
  refine Met.ofW (cc := cX9_copyFrom) (maxL := 2) (ret := none) (by decide) rfl ?_
  intro p e s m args below meth c s₁ B hml hv
  obtain ⟨rfl, hsz, hP, hK, hD0⟩ := hv
  have hx := B.exec
  have hb := B.bytes
  have hr := B.returns
  have hts := atoms_spec (ws := wsX9_copyFrom) B.pre
  have hown : s.vm.findClass RX9 = some m.cls := findClass_of_methodNamed B.named
  have hlocks := B.notSynchronized
  have C0 : wk_C p s m _ meth c cX9_copyFrom 2 none wsX9_copyFrom RX9 := ⟨hx, hb, hml, hr, hlocks, hown, hts⟩
  subst hsz
  have hD := hD0.self (sz := s.heap.size)
  generalize hAe : va_A ((wX9 Y a T_count T_weights T_strengths T_heights T_wages T_nightsToHeal) ++ (wX9 Y b OT_count OT_weights OT_strengths OT_heights OT_wages OT_nightsToHeal)) s.heap.size = A at hD ⊢
  have hA : ∀ q : Nat, s.heap.size ≤ q → A q := fun q h => by rw [← hAe]; exact Or.inr h
  have hS : va_S A s.heap s.heap [] := va_S.rf
  obtain ⟨H, hHe⟩ : ∃ H, H = s.heap := ⟨_, rfl⟩
  have hS : va_S A s.heap H [] := by rw [hHe]; exact hS
  have hP : va_P (dC, dI) vwCl [(a 0, .inr (9, [.int T_count, .ref (a 1), .ref (a 2), .ref (a 3), .ref (a 4), .ref (a 5)])), (a 1, .inl (Y 0, 6, .inl T_weights)), (a 2, .inl (Y 0, 6, .inl T_strengths)), (a 3, .inl (Y 0, 6, .inl T_heights)), (a 4, .inl (Y 0, 6, .inl T_wages)), (a 5, .inl (Y 0, 6, .inl T_nightsToHeal)), (b 0, .inr (9, [.int OT_count, .ref (b 1), .ref (b 2), .ref (b 3), .ref (b 4), .ref (b 5)])), (b 1, .inl (Y 0, 6, .inl OT_weights)), (b 2, .inl (Y 0, 6, .inl OT_strengths)), (b 3, .inl (Y 0, 6, .inl OT_heights)), (b 4, .inl (Y 0, 6, .inl OT_wages)), (b 5, .inl (Y 0, 6, .inl OT_nightsToHeal))] H := by rw [hHe]; exact hP
  have hD : va_D A [(a 0, .inr (9, [.int T_count, .ref (a 1), .ref (a 2), .ref (a 3), .ref (a 4), .ref (a 5)])), (a 1, .inl (Y 0, 6, .inl T_weights)), (a 2, .inl (Y 0, 6, .inl T_strengths)), (a 3, .inl (Y 0, 6, .inl T_heights)), (a 4, .inl (Y 0, 6, .inl T_wages)), (a 5, .inl (Y 0, 6, .inl T_nightsToHeal)), (b 0, .inr (9, [.int OT_count, .ref (b 1), .ref (b 2), .ref (b 3), .ref (b 4), .ref (b 5)])), (b 1, .inl (Y 0, 6, .inl OT_weights)), (b 2, .inl (Y 0, 6, .inl OT_strengths)), (b 3, .inl (Y 0, 6, .inl OT_heights)), (b 4, .inl (Y 0, 6, .inl OT_wages)), (b 5, .inl (Y 0, 6, .inl OT_nightsToHeal))] := hD
  obtain ⟨locs, hlo⟩ : ∃ locs : List Loc, locs = [] := ⟨_, rfl⟩
  have hS : va_S A s.heap H locs := by rw [hlo]; exact hS
  have hl := lv_entry ([.ref (a 0), .ref (b 0)]) (n := 2) (Nat.le_of_ble_eq_true rfl)
  rw [lg_entry_eq]
  generalize (lg_sl ([.ref (a 0), .ref (b 0)]) ++ List.replicate (2 - (lg_sl ([.ref (a 0), .ref (b 0)])).length) Slot.unset).toArray = ls at hl ⊢
  have hl : lv_has ls 2 [(0, .ref (a 0)), (1, .ref (b 0))] := hl
  refine wk_start hHe hlo ?_
  rw [f_X9_copyFrom] at hf
  refine lv_aload_n hx hb dX9_copyFrom_0 rfl (lv_at hl 0 rfl) ?_
  refine lv_aload_n hx hb dX9_copyFrom_1 rfl (lv_at hl 1 rfl) ?_
  refine va_get (D := (dC, dI)) (ci := 9) (v := .int OT_count) (C := RX9) (T := TX9) (N := 6) hx hb hts in_X9_copyFrom_X9 hown hK hP 6 rfl rfl 0 (by decide) (hts _ lk_X9_copyFrom_RX9_27) (fun _ h9 => h9) rfl dX9_copyFrom_2 ?_
  refine va_put (D := (dC, dI)) (ci := 9) (v := .int OT_count) (ty := .int) (C := RX9) (T := TX9) (N := 6) hx hb hts in_X9_copyFrom_X9 tyX9 tyX9_ok nmX9 hown hK hP hD hS 0 rfl rfl 0 (by decide) (hts _ lk_X9_copyFrom_RX9_27) (fun _ h9 => h9) rfl (by decide +kernel) rfl rfl (Nat.le_of_ble_eq_true rfl) dX9_copyFrom_5 (fun H locs hP hD hS => ?_)
  have hP : va_P (dC, dI) vwCl [(a 0, .inr (9, [.int OT_count, .ref (a 1), .ref (a 2), .ref (a 3), .ref (a 4), .ref (a 5)])), (a 1, .inl (Y 0, 6, .inl T_weights)), (a 2, .inl (Y 0, 6, .inl T_strengths)), (a 3, .inl (Y 0, 6, .inl T_heights)), (a 4, .inl (Y 0, 6, .inl T_wages)), (a 5, .inl (Y 0, 6, .inl T_nightsToHeal)), (b 0, .inr (9, [.int OT_count, .ref (b 1), .ref (b 2), .ref (b 3), .ref (b 4), .ref (b 5)])), (b 1, .inl (Y 0, 6, .inl OT_weights)), (b 2, .inl (Y 0, 6, .inl OT_strengths)), (b 3, .inl (Y 0, 6, .inl OT_heights)), (b 4, .inl (Y 0, 6, .inl OT_wages)), (b 5, .inl (Y 0, 6, .inl OT_nightsToHeal))] H := hP
  have hD : va_D A [(a 0, .inr (9, [.int OT_count, .ref (a 1), .ref (a 2), .ref (a 3), .ref (a 4), .ref (a 5)])), (a 1, .inl (Y 0, 6, .inl T_weights)), (a 2, .inl (Y 0, 6, .inl T_strengths)), (a 3, .inl (Y 0, 6, .inl T_heights)), (a 4, .inl (Y 0, 6, .inl T_wages)), (a 5, .inl (Y 0, 6, .inl T_nightsToHeal)), (b 0, .inr (9, [.int OT_count, .ref (b 1), .ref (b 2), .ref (b 3), .ref (b 4), .ref (b 5)])), (b 1, .inl (Y 0, 6, .inl OT_weights)), (b 2, .inl (Y 0, 6, .inl OT_strengths)), (b 3, .inl (Y 0, 6, .inl OT_heights)), (b 4, .inl (Y 0, 6, .inl OT_wages)), (b 5, .inl (Y 0, 6, .inl OT_nightsToHeal))] := hD
  refine lv_aload_n hx hb dX9_copyFrom_8 rfl (lv_at hl 1 rfl) ?_
  refine va_get (D := (dC, dI)) (ci := 9) (v := .ref (b 1)) (C := RX9) (T := TX9) (N := 6) hx hb hts in_X9_copyFrom_X9 hown hK hP 6 rfl rfl 1 (by decide) (hts _ lk_X9_copyFrom_RX9_9) (fun _ h9 => h9) rfl dX9_copyFrom_9 ?_
  refine lv_iconst (v := 0) hx hb dX9_copyFrom_12 (by decide) ?_
  refine lv_aload_n hx hb dX9_copyFrom_13 rfl (lv_at hl 0 rfl) ?_
  refine va_get (D := (dC, dI)) (ci := 9) (v := .ref (a 1)) (C := RX9) (T := TX9) (N := 6) hx hb hts in_X9_copyFrom_X9 hown hK hP 0 rfl rfl 1 (by decide) (hts _ lk_X9_copyFrom_RX9_9) (fun _ h9 => h9) rfl dX9_copyFrom_14 ?_
  refine lv_iconst (v := 0) hx hb dX9_copyFrom_17 (by decide) ?_
  refine lv_bipush (v := 6) hx hb dX9_copyFrom_18 (by decide) ?_
  refine wk_acopy (s1 := 0) (d1 := 0) (k1 := 6) (rest := []) hx hb (hml.trans hl.1.symm) hown (hts _ ac_X9_copyFrom_RX9_31.1) (hts _ ac_X9_copyFrom_RX9_31.2.1) (hts _ ac_X9_copyFrom_RX9_31.2.2.1) (hts _ ac_X9_copyFrom_RX9_31.2.2.2) hK hP hD hS 7 1 rfl rfl (by decide) (by decide) (by decide) (by decide) (by decide) (Nat.le_of_ble_eq_true rfl) (Nat.le_of_ble_eq_true rfl) dX9_copyFrom_20 (fun g1 H locs eg1 hP hD hS => ?_)
  have hP : va_P (dC, dI) vwCl [(a 0, .inr (9, [.int OT_count, .ref (a 1), .ref (a 2), .ref (a 3), .ref (a 4), .ref (a 5)])), (a 1, .inl (Y 0, 6, .inl g1)), (a 2, .inl (Y 0, 6, .inl T_strengths)), (a 3, .inl (Y 0, 6, .inl T_heights)), (a 4, .inl (Y 0, 6, .inl T_wages)), (a 5, .inl (Y 0, 6, .inl T_nightsToHeal)), (b 0, .inr (9, [.int OT_count, .ref (b 1), .ref (b 2), .ref (b 3), .ref (b 4), .ref (b 5)])), (b 1, .inl (Y 0, 6, .inl OT_weights)), (b 2, .inl (Y 0, 6, .inl OT_strengths)), (b 3, .inl (Y 0, 6, .inl OT_heights)), (b 4, .inl (Y 0, 6, .inl OT_wages)), (b 5, .inl (Y 0, 6, .inl OT_nightsToHeal))] H := hP
  have hD : va_D A [(a 0, .inr (9, [.int OT_count, .ref (a 1), .ref (a 2), .ref (a 3), .ref (a 4), .ref (a 5)])), (a 1, .inl (Y 0, 6, .inl g1)), (a 2, .inl (Y 0, 6, .inl T_strengths)), (a 3, .inl (Y 0, 6, .inl T_heights)), (a 4, .inl (Y 0, 6, .inl T_wages)), (a 5, .inl (Y 0, 6, .inl T_nightsToHeal)), (b 0, .inr (9, [.int OT_count, .ref (b 1), .ref (b 2), .ref (b 3), .ref (b 4), .ref (b 5)])), (b 1, .inl (Y 0, 6, .inl OT_weights)), (b 2, .inl (Y 0, 6, .inl OT_strengths)), (b 3, .inl (Y 0, 6, .inl OT_heights)), (b 4, .inl (Y 0, 6, .inl OT_wages)), (b 5, .inl (Y 0, 6, .inl OT_nightsToHeal))] := hD
  have hf := wkl_s hf eg1
  refine lv_aload_n hx hb dX9_copyFrom_23 rfl (lv_at hl 1 rfl) ?_
  refine va_get (D := (dC, dI)) (ci := 9) (v := .ref (b 2)) (C := RX9) (T := TX9) (N := 6) hx hb hts in_X9_copyFrom_X9 hown hK hP 6 rfl rfl 2 (by decide) (hts _ lk_X9_copyFrom_RX9_15) (fun _ h9 => h9) rfl dX9_copyFrom_24 ?_
  refine lv_iconst (v := 0) hx hb dX9_copyFrom_27 (by decide) ?_
  refine lv_aload_n hx hb dX9_copyFrom_28 rfl (lv_at hl 0 rfl) ?_
  refine va_get (D := (dC, dI)) (ci := 9) (v := .ref (a 2)) (C := RX9) (T := TX9) (N := 6) hx hb hts in_X9_copyFrom_X9 hown hK hP 0 rfl rfl 2 (by decide) (hts _ lk_X9_copyFrom_RX9_15) (fun _ h9 => h9) rfl dX9_copyFrom_29 ?_
  refine lv_iconst (v := 0) hx hb dX9_copyFrom_32 (by decide) ?_
  refine lv_bipush (v := 6) hx hb dX9_copyFrom_33 (by decide) ?_
  refine wk_acopy (s1 := 0) (d1 := 0) (k1 := 6) (rest := []) hx hb (hml.trans hl.1.symm) hown (hts _ ac_X9_copyFrom_RX9_31.1) (hts _ ac_X9_copyFrom_RX9_31.2.1) (hts _ ac_X9_copyFrom_RX9_31.2.2.1) (hts _ ac_X9_copyFrom_RX9_31.2.2.2) hK hP hD hS 8 2 rfl rfl (by decide) (by decide) (by decide) (by decide) (by decide) (Nat.le_of_ble_eq_true rfl) (Nat.le_of_ble_eq_true rfl) dX9_copyFrom_35 (fun g2 H locs eg2 hP hD hS => ?_)
  have hP : va_P (dC, dI) vwCl [(a 0, .inr (9, [.int OT_count, .ref (a 1), .ref (a 2), .ref (a 3), .ref (a 4), .ref (a 5)])), (a 1, .inl (Y 0, 6, .inl g1)), (a 2, .inl (Y 0, 6, .inl g2)), (a 3, .inl (Y 0, 6, .inl T_heights)), (a 4, .inl (Y 0, 6, .inl T_wages)), (a 5, .inl (Y 0, 6, .inl T_nightsToHeal)), (b 0, .inr (9, [.int OT_count, .ref (b 1), .ref (b 2), .ref (b 3), .ref (b 4), .ref (b 5)])), (b 1, .inl (Y 0, 6, .inl OT_weights)), (b 2, .inl (Y 0, 6, .inl OT_strengths)), (b 3, .inl (Y 0, 6, .inl OT_heights)), (b 4, .inl (Y 0, 6, .inl OT_wages)), (b 5, .inl (Y 0, 6, .inl OT_nightsToHeal))] H := hP
  have hD : va_D A [(a 0, .inr (9, [.int OT_count, .ref (a 1), .ref (a 2), .ref (a 3), .ref (a 4), .ref (a 5)])), (a 1, .inl (Y 0, 6, .inl g1)), (a 2, .inl (Y 0, 6, .inl g2)), (a 3, .inl (Y 0, 6, .inl T_heights)), (a 4, .inl (Y 0, 6, .inl T_wages)), (a 5, .inl (Y 0, 6, .inl T_nightsToHeal)), (b 0, .inr (9, [.int OT_count, .ref (b 1), .ref (b 2), .ref (b 3), .ref (b 4), .ref (b 5)])), (b 1, .inl (Y 0, 6, .inl OT_weights)), (b 2, .inl (Y 0, 6, .inl OT_strengths)), (b 3, .inl (Y 0, 6, .inl OT_heights)), (b 4, .inl (Y 0, 6, .inl OT_wages)), (b 5, .inl (Y 0, 6, .inl OT_nightsToHeal))] := hD
  have hf := wkl_s hf eg2
  refine lv_aload_n hx hb dX9_copyFrom_38 rfl (lv_at hl 1 rfl) ?_
  refine va_get (D := (dC, dI)) (ci := 9) (v := .ref (b 3)) (C := RX9) (T := TX9) (N := 6) hx hb hts in_X9_copyFrom_X9 hown hK hP 6 rfl rfl 3 (by decide) (hts _ lk_X9_copyFrom_RX9_18) (fun _ h9 => h9) rfl dX9_copyFrom_39 ?_
  refine lv_iconst (v := 0) hx hb dX9_copyFrom_42 (by decide) ?_
  refine lv_aload_n hx hb dX9_copyFrom_43 rfl (lv_at hl 0 rfl) ?_
  refine va_get (D := (dC, dI)) (ci := 9) (v := .ref (a 3)) (C := RX9) (T := TX9) (N := 6) hx hb hts in_X9_copyFrom_X9 hown hK hP 0 rfl rfl 3 (by decide) (hts _ lk_X9_copyFrom_RX9_18) (fun _ h9 => h9) rfl dX9_copyFrom_44 ?_
  refine lv_iconst (v := 0) hx hb dX9_copyFrom_47 (by decide) ?_
  refine lv_bipush (v := 6) hx hb dX9_copyFrom_48 (by decide) ?_
  refine wk_acopy (s1 := 0) (d1 := 0) (k1 := 6) (rest := []) hx hb (hml.trans hl.1.symm) hown (hts _ ac_X9_copyFrom_RX9_31.1) (hts _ ac_X9_copyFrom_RX9_31.2.1) (hts _ ac_X9_copyFrom_RX9_31.2.2.1) (hts _ ac_X9_copyFrom_RX9_31.2.2.2) hK hP hD hS 9 3 rfl rfl (by decide) (by decide) (by decide) (by decide) (by decide) (Nat.le_of_ble_eq_true rfl) (Nat.le_of_ble_eq_true rfl) dX9_copyFrom_50 (fun g3 H locs eg3 hP hD hS => ?_)
  have hP : va_P (dC, dI) vwCl [(a 0, .inr (9, [.int OT_count, .ref (a 1), .ref (a 2), .ref (a 3), .ref (a 4), .ref (a 5)])), (a 1, .inl (Y 0, 6, .inl g1)), (a 2, .inl (Y 0, 6, .inl g2)), (a 3, .inl (Y 0, 6, .inl g3)), (a 4, .inl (Y 0, 6, .inl T_wages)), (a 5, .inl (Y 0, 6, .inl T_nightsToHeal)), (b 0, .inr (9, [.int OT_count, .ref (b 1), .ref (b 2), .ref (b 3), .ref (b 4), .ref (b 5)])), (b 1, .inl (Y 0, 6, .inl OT_weights)), (b 2, .inl (Y 0, 6, .inl OT_strengths)), (b 3, .inl (Y 0, 6, .inl OT_heights)), (b 4, .inl (Y 0, 6, .inl OT_wages)), (b 5, .inl (Y 0, 6, .inl OT_nightsToHeal))] H := hP
  have hD : va_D A [(a 0, .inr (9, [.int OT_count, .ref (a 1), .ref (a 2), .ref (a 3), .ref (a 4), .ref (a 5)])), (a 1, .inl (Y 0, 6, .inl g1)), (a 2, .inl (Y 0, 6, .inl g2)), (a 3, .inl (Y 0, 6, .inl g3)), (a 4, .inl (Y 0, 6, .inl T_wages)), (a 5, .inl (Y 0, 6, .inl T_nightsToHeal)), (b 0, .inr (9, [.int OT_count, .ref (b 1), .ref (b 2), .ref (b 3), .ref (b 4), .ref (b 5)])), (b 1, .inl (Y 0, 6, .inl OT_weights)), (b 2, .inl (Y 0, 6, .inl OT_strengths)), (b 3, .inl (Y 0, 6, .inl OT_heights)), (b 4, .inl (Y 0, 6, .inl OT_wages)), (b 5, .inl (Y 0, 6, .inl OT_nightsToHeal))] := hD
  have hf := wkl_s hf eg3
  refine lv_aload_n hx hb dX9_copyFrom_53 rfl (lv_at hl 1 rfl) ?_
  refine va_get (D := (dC, dI)) (ci := 9) (v := .ref (b 4)) (C := RX9) (T := TX9) (N := 6) hx hb hts in_X9_copyFrom_X9 hown hK hP 6 rfl rfl 4 (by decide) (hts _ lk_X9_copyFrom_RX9_21) (fun _ h9 => h9) rfl dX9_copyFrom_54 ?_
  refine lv_iconst (v := 0) hx hb dX9_copyFrom_57 (by decide) ?_
  refine lv_aload_n hx hb dX9_copyFrom_58 rfl (lv_at hl 0 rfl) ?_
  refine va_get (D := (dC, dI)) (ci := 9) (v := .ref (a 4)) (C := RX9) (T := TX9) (N := 6) hx hb hts in_X9_copyFrom_X9 hown hK hP 0 rfl rfl 4 (by decide) (hts _ lk_X9_copyFrom_RX9_21) (fun _ h9 => h9) rfl dX9_copyFrom_59 ?_
  refine lv_iconst (v := 0) hx hb dX9_copyFrom_62 (by decide) ?_
  refine lv_bipush (v := 6) hx hb dX9_copyFrom_63 (by decide) ?_
  refine wk_acopy (s1 := 0) (d1 := 0) (k1 := 6) (rest := []) hx hb (hml.trans hl.1.symm) hown (hts _ ac_X9_copyFrom_RX9_31.1) (hts _ ac_X9_copyFrom_RX9_31.2.1) (hts _ ac_X9_copyFrom_RX9_31.2.2.1) (hts _ ac_X9_copyFrom_RX9_31.2.2.2) hK hP hD hS 10 4 rfl rfl (by decide) (by decide) (by decide) (by decide) (by decide) (Nat.le_of_ble_eq_true rfl) (Nat.le_of_ble_eq_true rfl) dX9_copyFrom_65 (fun g4 H locs eg4 hP hD hS => ?_)
  have hP : va_P (dC, dI) vwCl [(a 0, .inr (9, [.int OT_count, .ref (a 1), .ref (a 2), .ref (a 3), .ref (a 4), .ref (a 5)])), (a 1, .inl (Y 0, 6, .inl g1)), (a 2, .inl (Y 0, 6, .inl g2)), (a 3, .inl (Y 0, 6, .inl g3)), (a 4, .inl (Y 0, 6, .inl g4)), (a 5, .inl (Y 0, 6, .inl T_nightsToHeal)), (b 0, .inr (9, [.int OT_count, .ref (b 1), .ref (b 2), .ref (b 3), .ref (b 4), .ref (b 5)])), (b 1, .inl (Y 0, 6, .inl OT_weights)), (b 2, .inl (Y 0, 6, .inl OT_strengths)), (b 3, .inl (Y 0, 6, .inl OT_heights)), (b 4, .inl (Y 0, 6, .inl OT_wages)), (b 5, .inl (Y 0, 6, .inl OT_nightsToHeal))] H := hP
  have hD : va_D A [(a 0, .inr (9, [.int OT_count, .ref (a 1), .ref (a 2), .ref (a 3), .ref (a 4), .ref (a 5)])), (a 1, .inl (Y 0, 6, .inl g1)), (a 2, .inl (Y 0, 6, .inl g2)), (a 3, .inl (Y 0, 6, .inl g3)), (a 4, .inl (Y 0, 6, .inl g4)), (a 5, .inl (Y 0, 6, .inl T_nightsToHeal)), (b 0, .inr (9, [.int OT_count, .ref (b 1), .ref (b 2), .ref (b 3), .ref (b 4), .ref (b 5)])), (b 1, .inl (Y 0, 6, .inl OT_weights)), (b 2, .inl (Y 0, 6, .inl OT_strengths)), (b 3, .inl (Y 0, 6, .inl OT_heights)), (b 4, .inl (Y 0, 6, .inl OT_wages)), (b 5, .inl (Y 0, 6, .inl OT_nightsToHeal))] := hD
  have hf := wkl_s hf eg4
  refine lv_aload_n hx hb dX9_copyFrom_68 rfl (lv_at hl 1 rfl) ?_
  refine va_get (D := (dC, dI)) (ci := 9) (v := .ref (b 5)) (C := RX9) (T := TX9) (N := 6) hx hb hts in_X9_copyFrom_X9 hown hK hP 6 rfl rfl 5 (by decide) (hts _ lk_X9_copyFrom_RX9_24) (fun _ h9 => h9) rfl dX9_copyFrom_69 ?_
  refine lv_iconst (v := 0) hx hb dX9_copyFrom_72 (by decide) ?_
  refine lv_aload_n hx hb dX9_copyFrom_73 rfl (lv_at hl 0 rfl) ?_
  refine va_get (D := (dC, dI)) (ci := 9) (v := .ref (a 5)) (C := RX9) (T := TX9) (N := 6) hx hb hts in_X9_copyFrom_X9 hown hK hP 0 rfl rfl 5 (by decide) (hts _ lk_X9_copyFrom_RX9_24) (fun _ h9 => h9) rfl dX9_copyFrom_74 ?_
  refine lv_iconst (v := 0) hx hb dX9_copyFrom_77 (by decide) ?_
  refine lv_bipush (v := 6) hx hb dX9_copyFrom_78 (by decide) ?_
  refine wk_acopy (s1 := 0) (d1 := 0) (k1 := 6) (rest := []) hx hb (hml.trans hl.1.symm) hown (hts _ ac_X9_copyFrom_RX9_31.1) (hts _ ac_X9_copyFrom_RX9_31.2.1) (hts _ ac_X9_copyFrom_RX9_31.2.2.1) (hts _ ac_X9_copyFrom_RX9_31.2.2.2) hK hP hD hS 11 5 rfl rfl (by decide) (by decide) (by decide) (by decide) (by decide) (Nat.le_of_ble_eq_true rfl) (Nat.le_of_ble_eq_true rfl) dX9_copyFrom_80 (fun g5 H locs eg5 hP hD hS => ?_)
  have hP : va_P (dC, dI) vwCl [(a 0, .inr (9, [.int OT_count, .ref (a 1), .ref (a 2), .ref (a 3), .ref (a 4), .ref (a 5)])), (a 1, .inl (Y 0, 6, .inl g1)), (a 2, .inl (Y 0, 6, .inl g2)), (a 3, .inl (Y 0, 6, .inl g3)), (a 4, .inl (Y 0, 6, .inl g4)), (a 5, .inl (Y 0, 6, .inl g5)), (b 0, .inr (9, [.int OT_count, .ref (b 1), .ref (b 2), .ref (b 3), .ref (b 4), .ref (b 5)])), (b 1, .inl (Y 0, 6, .inl OT_weights)), (b 2, .inl (Y 0, 6, .inl OT_strengths)), (b 3, .inl (Y 0, 6, .inl OT_heights)), (b 4, .inl (Y 0, 6, .inl OT_wages)), (b 5, .inl (Y 0, 6, .inl OT_nightsToHeal))] H := hP
  have hD : va_D A [(a 0, .inr (9, [.int OT_count, .ref (a 1), .ref (a 2), .ref (a 3), .ref (a 4), .ref (a 5)])), (a 1, .inl (Y 0, 6, .inl g1)), (a 2, .inl (Y 0, 6, .inl g2)), (a 3, .inl (Y 0, 6, .inl g3)), (a 4, .inl (Y 0, 6, .inl g4)), (a 5, .inl (Y 0, 6, .inl g5)), (b 0, .inr (9, [.int OT_count, .ref (b 1), .ref (b 2), .ref (b 3), .ref (b 4), .ref (b 5)])), (b 1, .inl (Y 0, 6, .inl OT_weights)), (b 2, .inl (Y 0, 6, .inl OT_strengths)), (b 3, .inl (Y 0, 6, .inl OT_heights)), (b 4, .inl (Y 0, 6, .inl OT_wages)), (b 5, .inl (Y 0, 6, .inl OT_nightsToHeal))] := hD
  have hf := wkl_s hf eg5
  obtain ⟨e0, e1, e2, e3, e4, e5⟩ := wke6 hf
  subst e0
  subst e1
  subst e2
  subst e3
  subst e4
  subst e5
  have hP9 := hP.sub (ws' := ((wX9 Y a OT_count g1 g2 g3 g4 g5) ++ (wX9 Y b OT_count OT_weights OT_strengths OT_heights OT_wages OT_nightsToHeal))) [0, 1, 2, 3, 4, 5, 6, 7, 8, 9, 10, 11] rfl
  have hD9 := hD.sub (ws' := ((wX9 Y a OT_count g1 g2 g3 g4 g5) ++ (wX9 Y b OT_count OT_weights OT_strengths OT_heights OT_wages OT_nightsToHeal))) [0, 1, 2, 3, 4, 5, 6, 7, 8, 9, 10, 11] (by decide) rfl
  exact W.vret hx hb hr (fun t ht hW => ⟨⟨(), rfl, trivial, by rw [ht]; exact hP9, va_K.moved hW.alike hK, hD9⟩, hS.F ht⟩) hS.2.2 dX9_copyFrom_83
theorem lk_X9_add_RX9_9 : Cond.fieldLink RX9 9 "CircusLedger$Troupe" "weights" "[I" ∈ wsX9_add := by decide +kernel
theorem lk_X9_add_RX9_15 : Cond.fieldLink RX9 15 "CircusLedger$Troupe" "strengths" "[I" ∈ wsX9_add := by decide +kernel
theorem lk_X9_add_RX9_18 : Cond.fieldLink RX9 18 "CircusLedger$Troupe" "heights" "[I" ∈ wsX9_add := by decide +kernel
theorem lk_X9_add_RX9_21 : Cond.fieldLink RX9 21 "CircusLedger$Troupe" "wages" "[I" ∈ wsX9_add := by decide +kernel
theorem lk_X9_add_RX9_27 : Cond.fieldLink RX9 27 "CircusLedger$Troupe" "count" "I" ∈ wsX9_add := by decide +kernel
theorem in_X9_add_X9 : ∀ w ∈ u_ws RX9 TX9 6, w ∈ wsX9_add := by decide +kernel
def f_X9_add (T_count : Int32) (T_weights : Nat → Int32) (T_strengths : Nat → Int32) (T_heights : Nat → Int32) (T_wages : Nat → Int32) (x1 : Int32) (x2 : Int32) (x3 : Int32) (x4 : Int32) : Option (Int32 × Int32 × (Nat → Int32) × (Nat → Int32) × (Nat → Int32) × (Nat → Int32)) :=
  gin T_count 6 (wkl (upd T_weights T_count.toNatClampNeg x1) (fun g1 =>
  gin T_count 6 (wkl (upd T_strengths T_count.toNatClampNeg x2) (fun g3 =>
  gin T_count 6 (wkl (upd T_heights T_count.toNatClampNeg x3) (fun g5 =>
  gin T_count 6 (wkl (upd T_wages T_count.toNatClampNeg x4) (fun g7 =>
  wkl ((T_count + 1)) (fun v9 =>
  some (T_count, v9, g1, g3, g5, g7))))))))))
set_option maxHeartbeats 4000000 in
set_option maxRecDepth 100000 in
theorem c_X9_add (l : Launch) (dC : Nat → ClassId) (dI : Nat → Nat → Nat) (Y : Nat → ClassId) (a : Nat → Nat) (T_count : Int32) (T_weights : Nat → Int32) (T_strengths : Nat → Int32) (T_heights : Nat → Int32) (T_wages : Nat → Int32) (T_nightsToHeal : Nat → Int32) (x1 : Int32) (x2 : Int32) (x3 : Int32) (x4 : Int32) (sz : Nat) (r : Int32) (zT_count : Int32) (zT_weights : Nat → Int32) (zT_strengths : Nat → Int32) (zT_heights : Nat → Int32) (zT_wages : Nat → Int32) (hf : f_X9_add T_count T_weights T_strengths T_heights T_wages x1 x2 x3 x4 = some (r, zT_count, zT_weights, zT_strengths, zT_heights, zT_wages)) : Met l yX9_add wsX9_add ({ frames := 0, cells := 0, slots := 0, locals := 0 } : Room) (va_Pc [.ref (a 0), .int x1, .int x2, .int x3, .int x4] (wk_E (dC, dI) Y (wX9 Y a T_count T_weights T_strengths T_heights T_wages T_nightsToHeal) sz)) (va_Qi (fun r2 (_ : Unit) => r2 = r) (fun _ t => wk_X (dC, dI) Y (wX9 Y a zT_count zT_weights zT_strengths zT_heights zT_wages T_nightsToHeal) (va_A (wX9 Y a T_count T_weights T_strengths T_heights T_wages T_nightsToHeal) sz) t) (va_A (wX9 Y a T_count T_weights T_strengths T_heights T_wages T_nightsToHeal) sz)) 0 0 (va_A (wX9 Y a T_count T_weights T_strengths T_heights T_wages T_nightsToHeal) sz) := by
  refine Met.ofW (cc := cX9_add) (maxL := 6) (ret := (some .int)) (by decide) rfl ?_
  intro p e s m args below meth c s₁ B hml hv
  obtain ⟨rfl, hsz, hP, hK, hD0⟩ := hv
  have hx := B.exec
  have hb := B.bytes
  have hr := B.returns
  have hts := atoms_spec (ws := wsX9_add) B.pre
  have hown : s.vm.findClass RX9 = some m.cls := findClass_of_methodNamed B.named
  have hlocks := B.notSynchronized
  have C0 : wk_C p s m _ meth c cX9_add 6 (some .int) wsX9_add RX9 := ⟨hx, hb, hml, hr, hlocks, hown, hts⟩
  subst hsz
  have hD := hD0.self (sz := s.heap.size)
  generalize hAe : va_A (wX9 Y a T_count T_weights T_strengths T_heights T_wages T_nightsToHeal) s.heap.size = A at hD ⊢
  have hA : ∀ q : Nat, s.heap.size ≤ q → A q := fun q h => by rw [← hAe]; exact Or.inr h
  have hS : va_S A s.heap s.heap [] := va_S.rf
  obtain ⟨H, hHe⟩ : ∃ H, H = s.heap := ⟨_, rfl⟩
  have hS : va_S A s.heap H [] := by rw [hHe]; exact hS
  have hP : va_P (dC, dI) vwCl [(a 0, .inr (9, [.int T_count, .ref (a 1), .ref (a 2), .ref (a 3), .ref (a 4), .ref (a 5)])), (a 1, .inl (Y 0, 6, .inl T_weights)), (a 2, .inl (Y 0, 6, .inl T_strengths)), (a 3, .inl (Y 0, 6, .inl T_heights)), (a 4, .inl (Y 0, 6, .inl T_wages)), (a 5, .inl (Y 0, 6, .inl T_nightsToHeal))] H := by rw [hHe]; exact hP
  have hD : va_D A [(a 0, .inr (9, [.int T_count, .ref (a 1), .ref (a 2), .ref (a 3), .ref (a 4), .ref (a 5)])), (a 1, .inl (Y 0, 6, .inl T_weights)), (a 2, .inl (Y 0, 6, .inl T_strengths)), (a 3, .inl (Y 0, 6, .inl T_heights)), (a 4, .inl (Y 0, 6, .inl T_wages)), (a 5, .inl (Y 0, 6, .inl T_nightsToHeal))] := hD
  obtain ⟨locs, hlo⟩ : ∃ locs : List Loc, locs = [] := ⟨_, rfl⟩
  have hS : va_S A s.heap H locs := by rw [hlo]; exact hS
  have hl := lv_entry ([.ref (a 0), .int x1, .int x2, .int x3, .int x4]) (n := 6) (Nat.le_of_ble_eq_true rfl)
  rw [lg_entry_eq]
  generalize (lg_sl ([.ref (a 0), .int x1, .int x2, .int x3, .int x4]) ++ List.replicate (6 - (lg_sl ([.ref (a 0), .int x1, .int x2, .int x3, .int x4])).length) Slot.unset).toArray = ls at hl ⊢
  have hl : lv_has ls 6 [(0, .ref (a 0)), (1, .int x1), (2, .int x2), (3, .int x3), (4, .int x4)] := hl
  refine wk_start hHe hlo ?_
  rw [f_X9_add] at hf
  refine lv_aload_n hx hb dX9_add_0 rfl (lv_at hl 0 rfl) ?_
  refine va_get (D := (dC, dI)) (ci := 9) (v := .int T_count) (C := RX9) (T := TX9) (N := 6) hx hb hts in_X9_add_X9 hown hK hP 0 rfl rfl 0 (by decide) (hts _ lk_X9_add_RX9_27) (fun _ h9 => h9) rfl dX9_add_1 ?_
  refine lv_istore (lv' := [(5, .int T_count), (0, .ref (a 0)), (1, .int x1), (2, .int x2), (3, .int x3), (4, .int x4)]) hx hb dX9_add_4 hl (by decide) rfl (fun ls hl => ?_)
  refine lv_aload_n hx hb dX9_add_6 rfl (lv_at hl 1 rfl) ?_
  refine va_get (D := (dC, dI)) (ci := 9) (v := .ref (a 1)) (C := RX9) (T := TX9) (N := 6) hx hb hts in_X9_add_X9 hown hK hP 0 rfl rfl 1 (by decide) (hts _ lk_X9_add_RX9_9) (fun _ h9 => h9) rfl dX9_add_7 ?_
  refine lv_iload hx hb dX9_add_10 (lv_at hl 0 rfl) ?_
  refine lv_iload_n hx hb dX9_add_12 rfl (lv_at hl 2 rfl) ?_
  obtain ⟨h2, hf⟩ := gin_s hf
  refine wk_iast hx hb hK hP hD hS 1 0 (k := T_count.toNatClampNeg) rfl rfl h2 rfl dX9_add_13 (fun g1 H locs eg1 hP hD hS => ?_)
  have hP : va_P (dC, dI) vwCl [(a 0, .inr (9, [.int T_count, .ref (a 1), .ref (a 2), .ref (a 3), .ref (a 4), .ref (a 5)])), (a 1, .inl (Y 0, 6, .inl g1)), (a 2, .inl (Y 0, 6, .inl T_strengths)), (a 3, .inl (Y 0, 6, .inl T_heights)), (a 4, .inl (Y 0, 6, .inl T_wages)), (a 5, .inl (Y 0, 6, .inl T_nightsToHeal))] H := hP
  have hD : va_D A [(a 0, .inr (9, [.int T_count, .ref (a 1), .ref (a 2), .ref (a 3), .ref (a 4), .ref (a 5)])), (a 1, .inl (Y 0, 6, .inl g1)), (a 2, .inl (Y 0, 6, .inl T_strengths)), (a 3, .inl (Y 0, 6, .inl T_heights)), (a 4, .inl (Y 0, 6, .inl T_wages)), (a 5, .inl (Y 0, 6, .inl T_nightsToHeal))] := hD
  have hf := wkl_s hf eg1
  refine lv_aload_n hx hb dX9_add_14 rfl (lv_at hl 1 rfl) ?_
  refine va_get (D := (dC, dI)) (ci := 9) (v := .ref (a 2)) (C := RX9) (T := TX9) (N := 6) hx hb hts in_X9_add_X9 hown hK hP 0 rfl rfl 2 (by decide) (hts _ lk_X9_add_RX9_15) (fun _ h9 => h9) rfl dX9_add_15 ?_
  refine lv_iload hx hb dX9_add_18 (lv_at hl 0 rfl) ?_
  refine lv_iload_n hx hb dX9_add_20 rfl (lv_at hl 3 rfl) ?_
  obtain ⟨h4, hf⟩ := gin_s hf
  refine wk_iast hx hb hK hP hD hS 2 0 (k := T_count.toNatClampNeg) rfl rfl h4 rfl dX9_add_21 (fun g3 H locs eg3 hP hD hS => ?_)
  have hP : va_P (dC, dI) vwCl [(a 0, .inr (9, [.int T_count, .ref (a 1), .ref (a 2), .ref (a 3), .ref (a 4), .ref (a 5)])), (a 1, .inl (Y 0, 6, .inl g1)), (a 2, .inl (Y 0, 6, .inl g3)), (a 3, .inl (Y 0, 6, .inl T_heights)), (a 4, .inl (Y 0, 6, .inl T_wages)), (a 5, .inl (Y 0, 6, .inl T_nightsToHeal))] H := hP
  have hD : va_D A [(a 0, .inr (9, [.int T_count, .ref (a 1), .ref (a 2), .ref (a 3), .ref (a 4), .ref (a 5)])), (a 1, .inl (Y 0, 6, .inl g1)), (a 2, .inl (Y 0, 6, .inl g3)), (a 3, .inl (Y 0, 6, .inl T_heights)), (a 4, .inl (Y 0, 6, .inl T_wages)), (a 5, .inl (Y 0, 6, .inl T_nightsToHeal))] := hD
  have hf := wkl_s hf eg3
  refine lv_aload_n hx hb dX9_add_22 rfl (lv_at hl 1 rfl) ?_
  refine va_get (D := (dC, dI)) (ci := 9) (v := .ref (a 3)) (C := RX9) (T := TX9) (N := 6) hx hb hts in_X9_add_X9 hown hK hP 0 rfl rfl 3 (by decide) (hts _ lk_X9_add_RX9_18) (fun _ h9 => h9) rfl dX9_add_23 ?_
  refine lv_iload hx hb dX9_add_26 (lv_at hl 0 rfl) ?_
  refine lv_iload_n hx hb dX9_add_28 rfl (lv_at hl 4 rfl) ?_
  obtain ⟨h6, hf⟩ := gin_s hf
  refine wk_iast hx hb hK hP hD hS 3 0 (k := T_count.toNatClampNeg) rfl rfl h6 rfl dX9_add_29 (fun g5 H locs eg5 hP hD hS => ?_)
  have hP : va_P (dC, dI) vwCl [(a 0, .inr (9, [.int T_count, .ref (a 1), .ref (a 2), .ref (a 3), .ref (a 4), .ref (a 5)])), (a 1, .inl (Y 0, 6, .inl g1)), (a 2, .inl (Y 0, 6, .inl g3)), (a 3, .inl (Y 0, 6, .inl g5)), (a 4, .inl (Y 0, 6, .inl T_wages)), (a 5, .inl (Y 0, 6, .inl T_nightsToHeal))] H := hP
  have hD : va_D A [(a 0, .inr (9, [.int T_count, .ref (a 1), .ref (a 2), .ref (a 3), .ref (a 4), .ref (a 5)])), (a 1, .inl (Y 0, 6, .inl g1)), (a 2, .inl (Y 0, 6, .inl g3)), (a 3, .inl (Y 0, 6, .inl g5)), (a 4, .inl (Y 0, 6, .inl T_wages)), (a 5, .inl (Y 0, 6, .inl T_nightsToHeal))] := hD
  have hf := wkl_s hf eg5
  refine lv_aload_n hx hb dX9_add_30 rfl (lv_at hl 1 rfl) ?_
  refine va_get (D := (dC, dI)) (ci := 9) (v := .ref (a 4)) (C := RX9) (T := TX9) (N := 6) hx hb hts in_X9_add_X9 hown hK hP 0 rfl rfl 4 (by decide) (hts _ lk_X9_add_RX9_21) (fun _ h9 => h9) rfl dX9_add_31 ?_
  refine lv_iload hx hb dX9_add_34 (lv_at hl 0 rfl) ?_
  refine lv_iload hx hb dX9_add_36 (lv_at hl 5 rfl) ?_
  obtain ⟨h8, hf⟩ := gin_s hf
  refine wk_iast hx hb hK hP hD hS 4 0 (k := T_count.toNatClampNeg) rfl rfl h8 rfl dX9_add_38 (fun g7 H locs eg7 hP hD hS => ?_)
  have hP : va_P (dC, dI) vwCl [(a 0, .inr (9, [.int T_count, .ref (a 1), .ref (a 2), .ref (a 3), .ref (a 4), .ref (a 5)])), (a 1, .inl (Y 0, 6, .inl g1)), (a 2, .inl (Y 0, 6, .inl g3)), (a 3, .inl (Y 0, 6, .inl g5)), (a 4, .inl (Y 0, 6, .inl g7)), (a 5, .inl (Y 0, 6, .inl T_nightsToHeal))] H := hP
  have hD : va_D A [(a 0, .inr (9, [.int T_count, .ref (a 1), .ref (a 2), .ref (a 3), .ref (a 4), .ref (a 5)])), (a 1, .inl (Y 0, 6, .inl g1)), (a 2, .inl (Y 0, 6, .inl g3)), (a 3, .inl (Y 0, 6, .inl g5)), (a 4, .inl (Y 0, 6, .inl g7)), (a 5, .inl (Y 0, 6, .inl T_nightsToHeal))] := hD
  have hf := wkl_s hf eg7
  refine lv_aload_n hx hb dX9_add_39 rfl (lv_at hl 1 rfl) ?_
  refine lv_dup hx hb dX9_add_40 rfl ?_
  refine va_get (D := (dC, dI)) (ci := 9) (v := .int T_count) (C := RX9) (T := TX9) (N := 6) hx hb hts in_X9_add_X9 hown hK hP 0 rfl rfl 0 (by decide) (hts _ lk_X9_add_RX9_27) (fun _ h9 => h9) rfl dX9_add_41 ?_
  refine lv_iconst (v := 1) hx hb dX9_add_44 (by decide) ?_
  refine lv_iadd hx hb dX9_add_45 ?_
  refine lv_topi (fun v9 ev9 => ?_)
  have hf := wkl_s hf ev9
  refine va_put (D := (dC, dI)) (ci := 9) (v := .int v9) (ty := .int) (C := RX9) (T := TX9) (N := 6) hx hb hts in_X9_add_X9 tyX9 tyX9_ok nmX9 hown hK hP hD hS 0 rfl rfl 0 (by decide) (hts _ lk_X9_add_RX9_27) (fun _ h9 => h9) rfl (by decide +kernel) rfl rfl (Nat.le_of_ble_eq_true rfl) dX9_add_46 (fun H locs hP hD hS => ?_)
  have hP : va_P (dC, dI) vwCl [(a 0, .inr (9, [.int v9, .ref (a 1), .ref (a 2), .ref (a 3), .ref (a 4), .ref (a 5)])), (a 1, .inl (Y 0, 6, .inl g1)), (a 2, .inl (Y 0, 6, .inl g3)), (a 3, .inl (Y 0, 6, .inl g5)), (a 4, .inl (Y 0, 6, .inl g7)), (a 5, .inl (Y 0, 6, .inl T_nightsToHeal))] H := hP
  have hD : va_D A [(a 0, .inr (9, [.int v9, .ref (a 1), .ref (a 2), .ref (a 3), .ref (a 4), .ref (a 5)])), (a 1, .inl (Y 0, 6, .inl g1)), (a 2, .inl (Y 0, 6, .inl g3)), (a 3, .inl (Y 0, 6, .inl g5)), (a 4, .inl (Y 0, 6, .inl g7)), (a 5, .inl (Y 0, 6, .inl T_nightsToHeal))] := hD
  refine lv_iload hx hb dX9_add_49 (lv_at hl 0 rfl) ?_
  obtain ⟨e0, e1, e2, e3, e4, e5⟩ := wke6 hf
  subst e0
  subst e1
  subst e2
  subst e3
  subst e4
  subst e5
  have hP9 := hP.sub (ws' := (wX9 Y a v9 g1 g3 g5 g7 T_nightsToHeal)) [0, 1, 2, 3, 4, 5] rfl
  have hD9 := hD.sub (ws' := (wX9 Y a v9 g1 g3 g5 g7 T_nightsToHeal)) [0, 1, 2, 3, 4, 5] (by decide) rfl
  exact W.iret (v := T_count) hx hb hr (fun t ht hW => ⟨⟨T_count, (), rfl, rfl, by rw [ht]; exact hP9, va_K.moved hW.alike hK, hD9⟩, hS.F ht⟩) hS.2.2 dX9_add_51
theorem lk_X9_has_RX9_27 : Cond.fieldLink RX9 27 "CircusLedger$Troupe" "count" "I" ∈ wsX9_has := by decide +kernel
theorem in_X9_has_X9 : ∀ w ∈ u_ws RX9 TX9 6, w ∈ wsX9_has := by decide +kernel
def f_X9_has (T_count : Int32) (x1 : Int32) : Option (Int32) :=
  if x1 < 0 then
    (some (0))
  else
    (if T_count ≤ x1 then
      (some (0))
    else
      (some (1)))
set_option maxHeartbeats 4000000 in
set_option maxRecDepth 100000 in
theorem c_X9_has (l : Launch) (dC : Nat → ClassId) (dI : Nat → Nat → Nat) (Y : Nat → ClassId) (a : Nat → Nat) (T_count : Int32) (T_weights : Nat → Int32) (T_strengths : Nat → Int32) (T_heights : Nat → Int32) (T_wages : Nat → Int32) (T_nightsToHeal : Nat → Int32) (x1 : Int32) (r : Int32) (hf : f_X9_has T_count x1 = some (r)) : Met l yX9_has wsX9_has ({ frames := 0, cells := 0, slots := 0, locals := 0 } : Room) (va_Pc [.ref (a 0), .int x1] (wk_B (dC, dI) Y (wX9 Y a T_count T_weights T_strengths T_heights T_wages T_nightsToHeal))) (vp_Si (fun r2 => r2 = r)) 0 0 (fun _ => False) := by
  refine Met.ofW (cc := cX9_has) (maxL := 2) (ret := (some .boolean)) (by decide) rfl ?_
  intro p e s m args below meth c s₁ B hml hv
  obtain ⟨rfl, hP, hK⟩ := hv
  have hx := B.exec
  have hb := B.bytes
  have hr := B.returns
  have hts := atoms_spec (ws := wsX9_has) B.pre
  have hown : s.vm.findClass RX9 = some m.cls := findClass_of_methodNamed B.named
  have hlocks := B.notSynchronized
  have C0 : wk_C p s m _ meth c cX9_has 2 (some .boolean) wsX9_has RX9 := ⟨hx, hb, hml, hr, hlocks, hown, hts⟩
  have hP : va_P (dC, dI) vwCl [(a 0, .inr (9, [.int T_count, .ref (a 1), .ref (a 2), .ref (a 3), .ref (a 4), .ref (a 5)])), (a 1, .inl (Y 0, 6, .inl T_weights)), (a 2, .inl (Y 0, 6, .inl T_strengths)), (a 3, .inl (Y 0, 6, .inl T_heights)), (a 4, .inl (Y 0, 6, .inl T_wages)), (a 5, .inl (Y 0, 6, .inl T_nightsToHeal))] s.heap := hP
  have hl := lv_entry ([.ref (a 0), .int x1]) (n := 2) (Nat.le_of_ble_eq_true rfl)
  rw [lg_entry_eq]
  generalize (lg_sl ([.ref (a 0), .int x1]) ++ List.replicate (2 - (lg_sl ([.ref (a 0), .int x1])).length) Slot.unset).toArray = ls at hl ⊢
  have hl : lv_has ls 2 [(0, .ref (a 0)), (1, .int x1)] := hl
  rw [f_X9_has] at hf
  refine lv_iload_n hx hb dX9_has_0 rfl (lv_at hl 1 rfl) ?_
  refine lv_if_lt (tgt := 16) hx hb dX9_has_1 (by decide) (fun q1 => ?_) (fun q1 => ?_)
  · have hf := wk_t hf q1
    refine lv_iconst (v := 0) hx hb dX9_has_16 (by decide) ?_
    have e0 := wke1 hf
    subst e0
    exact W.zret (v := 0) (ty := .boolean) hx hb hr rfl (fun t ht hW => ⟨0, rfl, rfl, ht⟩) (fun q h => absurd h List.not_mem_nil) dX9_has_17
  · have hf := wk_f hf q1
    refine lv_iload_n hx hb dX9_has_4 rfl (lv_at hl 1 rfl) ?_
    refine lv_aload_n hx hb dX9_has_5 rfl (lv_at hl 0 rfl) ?_
    refine va_get (D := (dC, dI)) (ci := 9) (v := .int T_count) (C := RX9) (T := TX9) (N := 6) hx hb hts in_X9_has_X9 hown hK hP 0 rfl rfl 0 (by decide) (hts _ lk_X9_has_RX9_27) (fun _ h9 => h9) rfl dX9_has_6 ?_
    refine lv_icmp_ge (tgt := 16) hx hb dX9_has_9 (by decide) (fun q2 => ?_) (fun q2 => ?_)
    · have hf := wk_t hf q2
      refine lv_iconst (v := 0) hx hb dX9_has_16 (by decide) ?_
      have e0 := wke1 hf
      subst e0
      exact W.zret (v := 0) (ty := .boolean) hx hb hr rfl (fun t ht hW => ⟨0, rfl, rfl, ht⟩) (fun q h => absurd h List.not_mem_nil) dX9_has_17
    · have hf := wk_f hf q2
      refine lv_iconst (v := 1) hx hb dX9_has_12 (by decide) ?_
      refine lv_goto (tgt := 17) hx hb dX9_has_13 (by decide) ?_
      have e0 := wke1 hf
      subst e0
      exact W.zret (v := 1) (ty := .boolean) hx hb hr rfl (fun t ht hW => ⟨1, rfl, rfl, ht⟩) (fun q h => absurd h List.not_mem_nil) dX9_has_17
theorem lk_X9_isSet_RX9_27 : Cond.fieldLink RX9 27 "CircusLedger$Troupe" "count" "I" ∈ wsX9_isSet := by decide +kernel
theorem in_X9_isSet_X9 : ∀ w ∈ u_ws RX9 TX9 6, w ∈ wsX9_isSet := by decide +kernel
def f_X9_isSet (T_count : Int32) (x1 : Int32) : Option (Int32) :=
  if x1 ≤ 0 then
    (some (0))
  else
    (if ((1 : Int32) <<< (T_count &&& 31)) ≤ x1 then
      (some (0))
    else
      (some (1)))
set_option maxHeartbeats 4000000 in
set_option maxRecDepth 100000 in
theorem c_X9_isSet (l : Launch) (dC : Nat → ClassId) (dI : Nat → Nat → Nat) (Y : Nat → ClassId) (a : Nat → Nat) (T_count : Int32) (T_weights : Nat → Int32) (T_strengths : Nat → Int32) (T_heights : Nat → Int32) (T_wages : Nat → Int32) (T_nightsToHeal : Nat → Int32) (x1 : Int32) (r : Int32) (hf : f_X9_isSet T_count x1 = some (r)) : Met l yX9_isSet wsX9_isSet ({ frames := 0, cells := 0, slots := 0, locals := 0 } : Room) (va_Pc [.ref (a 0), .int x1] (wk_B (dC, dI) Y (wX9 Y a T_count T_weights T_strengths T_heights T_wages T_nightsToHeal))) (vp_Si (fun r2 => r2 = r)) 0 0 (fun _ => False) := by
  refine Met.ofW (cc := cX9_isSet) (maxL := 2) (ret := (some .boolean)) (by decide) rfl ?_
  intro p e s m args below meth c s₁ B hml hv
  obtain ⟨rfl, hP, hK⟩ := hv
  have hx := B.exec
  have hb := B.bytes
  have hr := B.returns
  have hts := atoms_spec (ws := wsX9_isSet) B.pre
  have hown : s.vm.findClass RX9 = some m.cls := findClass_of_methodNamed B.named
  have hlocks := B.notSynchronized
  have C0 : wk_C p s m _ meth c cX9_isSet 2 (some .boolean) wsX9_isSet RX9 := ⟨hx, hb, hml, hr, hlocks, hown, hts⟩
  have hP : va_P (dC, dI) vwCl [(a 0, .inr (9, [.int T_count, .ref (a 1), .ref (a 2), .ref (a 3), .ref (a 4), .ref (a 5)])), (a 1, .inl (Y 0, 6, .inl T_weights)), (a 2, .inl (Y 0, 6, .inl T_strengths)), (a 3, .inl (Y 0, 6, .inl T_heights)), (a 4, .inl (Y 0, 6, .inl T_wages)), (a 5, .inl (Y 0, 6, .inl T_nightsToHeal))] s.heap := hP
  have hl := lv_entry ([.ref (a 0), .int x1]) (n := 2) (Nat.le_of_ble_eq_true rfl)
  rw [lg_entry_eq]
  generalize (lg_sl ([.ref (a 0), .int x1]) ++ List.replicate (2 - (lg_sl ([.ref (a 0), .int x1])).length) Slot.unset).toArray = ls at hl ⊢
  have hl : lv_has ls 2 [(0, .ref (a 0)), (1, .int x1)] := hl
  rw [f_X9_isSet] at hf
  refine lv_iload_n hx hb dX9_isSet_0 rfl (lv_at hl 1 rfl) ?_
  refine lv_if_le (tgt := 18) hx hb dX9_isSet_1 (by decide) (fun q1 => ?_) (fun q1 => ?_)
  · have hf := wk_t hf q1
    refine lv_iconst (v := 0) hx hb dX9_isSet_18 (by decide) ?_
    have e0 := wke1 hf
    subst e0
    exact W.zret (v := 0) (ty := .boolean) hx hb hr rfl (fun t ht hW => ⟨0, rfl, rfl, ht⟩) (fun q h => absurd h List.not_mem_nil) dX9_isSet_19
  · have hf := wk_f hf q1
    refine lv_iload_n hx hb dX9_isSet_4 rfl (lv_at hl 1 rfl) ?_
    refine lv_iconst (v := 1) hx hb dX9_isSet_5 (by decide) ?_
    refine lv_aload_n hx hb dX9_isSet_6 rfl (lv_at hl 0 rfl) ?_
    refine va_get (D := (dC, dI)) (ci := 9) (v := .int T_count) (C := RX9) (T := TX9) (N := 6) hx hb hts in_X9_isSet_X9 hown hK hP 0 rfl rfl 0 (by decide) (hts _ lk_X9_isSet_RX9_27) (fun _ h9 => h9) rfl dX9_isSet_7 ?_
    refine lv_ishl hx hb dX9_isSet_10 ?_
    refine lv_icmp_ge (tgt := 18) hx hb dX9_isSet_11 (by decide) (fun q2 => ?_) (fun q2 => ?_)
    · have hf := wk_t hf q2
      refine lv_iconst (v := 0) hx hb dX9_isSet_18 (by decide) ?_
      have e0 := wke1 hf
      subst e0
      exact W.zret (v := 0) (ty := .boolean) hx hb hr rfl (fun t ht hW => ⟨0, rfl, rfl, ht⟩) (fun q h => absurd h List.not_mem_nil) dX9_isSet_19
    · have hf := wk_f hf q2
      refine lv_iconst (v := 1) hx hb dX9_isSet_14 (by decide) ?_
      refine lv_goto (tgt := 19) hx hb dX9_isSet_15 (by decide) ?_
      have e0 := wke1 hf
      subst e0
      exact W.zret (v := 1) (ty := .boolean) hx hb hr rfl (fun t ht hW => ⟨1, rfl, rfl, ht⟩) (fun q h => absurd h List.not_mem_nil) dX9_isSet_19
theorem lk_X9_isMember_RX9_27 : Cond.fieldLink RX9 27 "CircusLedger$Troupe" "count" "I" ∈ wsX9_isMember := by decide +kernel
theorem in_X9_isMember_X9 : ∀ w ∈ u_ws RX9 TX9 6, w ∈ wsX9_isMember := by decide +kernel
def f_X9_isMember (T_count : Int32) (x1 : Int32) (x2 : Int32) : Option (Int32) :=
  if x2 < 0 then
    (some (0))
  else
    (if T_count ≤ x2 then
      (some (0))
    else
      (if ((x1 >>> (x2 &&& 31)) &&& 1) = 1 then
        (some (1))
      else
        (some (0))))
set_option maxHeartbeats 4000000 in
set_option maxRecDepth 100000 in
theorem c_X9_isMember (l : Launch) (dC : Nat → ClassId) (dI : Nat → Nat → Nat) (Y : Nat → ClassId) (a : Nat → Nat) (T_count : Int32) (T_weights : Nat → Int32) (T_strengths : Nat → Int32) (T_heights : Nat → Int32) (T_wages : Nat → Int32) (T_nightsToHeal : Nat → Int32) (x1 : Int32) (x2 : Int32) (r : Int32) (hf : f_X9_isMember T_count x1 x2 = some (r)) : Met l yX9_isMember wsX9_isMember ({ frames := 0, cells := 0, slots := 0, locals := 0 } : Room) (va_Pc [.ref (a 0), .int x1, .int x2] (wk_B (dC, dI) Y (wX9 Y a T_count T_weights T_strengths T_heights T_wages T_nightsToHeal))) (vp_Si (fun r2 => r2 = r)) 0 0 (fun _ => False) := by
  refine Met.ofW (cc := cX9_isMember) (maxL := 3) (ret := (some .boolean)) (by decide) rfl ?_
  intro p e s m args below meth c s₁ B hml hv
  obtain ⟨rfl, hP, hK⟩ := hv
  have hx := B.exec
  have hb := B.bytes
  have hr := B.returns
  have hts := atoms_spec (ws := wsX9_isMember) B.pre
  have hown : s.vm.findClass RX9 = some m.cls := findClass_of_methodNamed B.named
  have hlocks := B.notSynchronized
  have C0 : wk_C p s m _ meth c cX9_isMember 3 (some .boolean) wsX9_isMember RX9 := ⟨hx, hb, hml, hr, hlocks, hown, hts⟩
  have hP : va_P (dC, dI) vwCl [(a 0, .inr (9, [.int T_count, .ref (a 1), .ref (a 2), .ref (a 3), .ref (a 4), .ref (a 5)])), (a 1, .inl (Y 0, 6, .inl T_weights)), (a 2, .inl (Y 0, 6, .inl T_strengths)), (a 3, .inl (Y 0, 6, .inl T_heights)), (a 4, .inl (Y 0, 6, .inl T_wages)), (a 5, .inl (Y 0, 6, .inl T_nightsToHeal))] s.heap := hP
  have hl := lv_entry ([.ref (a 0), .int x1, .int x2]) (n := 3) (Nat.le_of_ble_eq_true rfl)
  rw [lg_entry_eq]
  generalize (lg_sl ([.ref (a 0), .int x1, .int x2]) ++ List.replicate (3 - (lg_sl ([.ref (a 0), .int x1, .int x2])).length) Slot.unset).toArray = ls at hl ⊢
  have hl : lv_has ls 3 [(0, .ref (a 0)), (1, .int x1), (2, .int x2)] := hl
  rw [f_X9_isMember] at hf
  refine lv_iload_n hx hb dX9_isMember_0 rfl (lv_at hl 2 rfl) ?_
  refine lv_if_lt (tgt := 25) hx hb dX9_isMember_1 (by decide) (fun q1 => ?_) (fun q1 => ?_)
  · have hf := wk_t hf q1
    refine lv_iconst (v := 0) hx hb dX9_isMember_25 (by decide) ?_
    have e0 := wke1 hf
    subst e0
    exact W.zret (v := 0) (ty := .boolean) hx hb hr rfl (fun t ht hW => ⟨0, rfl, rfl, ht⟩) (fun q h => absurd h List.not_mem_nil) dX9_isMember_26
  · have hf := wk_f hf q1
    refine lv_iload_n hx hb dX9_isMember_4 rfl (lv_at hl 2 rfl) ?_
    refine lv_aload_n hx hb dX9_isMember_5 rfl (lv_at hl 0 rfl) ?_
    refine va_get (D := (dC, dI)) (ci := 9) (v := .int T_count) (C := RX9) (T := TX9) (N := 6) hx hb hts in_X9_isMember_X9 hown hK hP 0 rfl rfl 0 (by decide) (hts _ lk_X9_isMember_RX9_27) (fun _ h9 => h9) rfl dX9_isMember_6 ?_
    refine lv_icmp_ge (tgt := 25) hx hb dX9_isMember_9 (by decide) (fun q2 => ?_) (fun q2 => ?_)
    · have hf := wk_t hf q2
      refine lv_iconst (v := 0) hx hb dX9_isMember_25 (by decide) ?_
      have e0 := wke1 hf
      subst e0
      exact W.zret (v := 0) (ty := .boolean) hx hb hr rfl (fun t ht hW => ⟨0, rfl, rfl, ht⟩) (fun q h => absurd h List.not_mem_nil) dX9_isMember_26
    · have hf := wk_f hf q2
      refine lv_iload_n hx hb dX9_isMember_12 rfl (lv_at hl 1 rfl) ?_
      refine lv_iload_n hx hb dX9_isMember_13 rfl (lv_at hl 2 rfl) ?_
      refine lv_ishr hx hb dX9_isMember_14 ?_
      refine lv_iconst (v := 1) hx hb dX9_isMember_15 (by decide) ?_
      refine lv_iand hx hb dX9_isMember_16 ?_
      refine lv_iconst (v := 1) hx hb dX9_isMember_17 (by decide) ?_
      refine lv_icmp_ne (tgt := 25) hx hb dX9_isMember_18 (by decide) (fun q3 => ?_) (fun q3 => ?_)
      · have hf := wk_f hf q3
        refine lv_iconst (v := 0) hx hb dX9_isMember_25 (by decide) ?_
        have e0 := wke1 hf
        subst e0
        exact W.zret (v := 0) (ty := .boolean) hx hb hr rfl (fun t ht hW => ⟨0, rfl, rfl, ht⟩) (fun q h => absurd h List.not_mem_nil) dX9_isMember_26
      · have hf := wk_t hf q3
        refine lv_iconst (v := 1) hx hb dX9_isMember_21 (by decide) ?_
        refine lv_goto (tgt := 26) hx hb dX9_isMember_22 (by decide) ?_
        have e0 := wke1 hf
        subst e0
        exact W.zret (v := 1) (ty := .boolean) hx hb hr rfl (fun t ht hW => ⟨1, rfl, rfl, ht⟩) (fun q h => absurd h List.not_mem_nil) dX9_isMember_26
theorem lk_X9_fitSet_RX9_24 : Cond.fieldLink RX9 24 "CircusLedger$Troupe" "nightsToHeal" "[I" ∈ wsX9_fitSet := by decide +kernel
theorem lk_X9_fitSet_RX9_27 : Cond.fieldLink RX9 27 "CircusLedger$Troupe" "count" "I" ∈ wsX9_fitSet := by decide +kernel
theorem in_X9_fitSet_X9 : ∀ w ∈ u_ws RX9 TX9 6, w ∈ wsX9_fitSet := by decide +kernel
def f_X9_fitSet_L4 (T_count : Int32) (T_nightsToHeal : Nat → Int32) : Nat → Int32 → Int32 → Option (Int32)
  | 0, _, _ => none
  | nn + 1, x1, x2 =>
    if T_count ≤ x2 then
      (some (x1))
    else
      (gin x2 6 (if (T_nightsToHeal x2.toNatClampNeg) = 0 then
        (f_X9_fitSet_L4 T_count T_nightsToHeal nn (x1 ||| ((1 : Int32) <<< (x2 &&& 31))) (x2 + 1))
      else
        (f_X9_fitSet_L4 T_count T_nightsToHeal nn x1 (x2 + 1))))
def f_X9_fitSet (T_count : Int32) (T_nightsToHeal : Nat → Int32) : Option (Int32) :=
  f_X9_fitSet_L4 T_count T_nightsToHeal FU 0 0
set_option maxHeartbeats 4000000 in
set_option maxRecDepth 100000 in
theorem wl_X9_fitSet_L4 {p : Program} {l : Launch} {e : Env} {s : State} {m : MethodId} {args : Array Value} {below : List Frame} {meth : Method} {c : Code} {dC : Nat → ClassId} {dI : Nat → Nat → Nat} {Y : Nat → ClassId} {a : Nat → Nat} {T_count : Int32} {T_weights : Nat → Int32} {T_strengths : Nat → Int32} {T_heights : Nat → Int32} {T_wages : Nat → Int32} {T_nightsToHeal : Nat → Int32}  {r : Int32}  (C0 : wk_C p s m args meth c cX9_fitSet 3 (some .int) wsX9_fitSet RX9) (hK : va_K (dC, dI) vwCl (vTy Y) s) (hP : va_P (dC, dI) vwCl (wX9 Y a T_count T_weights T_strengths T_heights T_wages T_nightsToHeal) s.heap) : ∀ (nn : Nat) (x1 : Int32) (x2 : Int32)  , f_X9_fitSet_L4 T_count T_nightsToHeal nn x1 x2 = some (r) → ∀ (ls : Array Slot), lv_has ls 3 [(0, .ref (a 0)), (1, .int x1), (2, .int x2)] → W p l e (headSpec wsX9_fitSet ({ frames := 0, cells := 0, slots := 0, locals := 0 } : Room)).room s m args below meth c s.heap [] 0 0 (MQ below (vp_Si (fun r2 => r2 = r)) args s 0 0 (fun _ => False)) (F0 m 4 ls []) := by
  have C0 := C0
  obtain ⟨hx, hb, hml, hr, hlocks, hown, hts⟩ := id C0
  intro nn
  induction nn with
  | zero =>
    intro x1 x2 hf
    rw [f_X9_fitSet_L4] at hf
    cases hf
  | succ nn ih =>
    intro x1 x2 hf ls hl
    rw [f_X9_fitSet_L4] at hf
    have hP : va_P (dC, dI) vwCl [(a 0, .inr (9, [.int T_count, .ref (a 1), .ref (a 2), .ref (a 3), .ref (a 4), .ref (a 5)])), (a 1, .inl (Y 0, 6, .inl T_weights)), (a 2, .inl (Y 0, 6, .inl T_strengths)), (a 3, .inl (Y 0, 6, .inl T_heights)), (a 4, .inl (Y 0, 6, .inl T_wages)), (a 5, .inl (Y 0, 6, .inl T_nightsToHeal))] s.heap := hP
    refine lv_iload_n hx hb dX9_fitSet_4 rfl (lv_at hl 2 rfl) ?_
    refine lv_aload_n hx hb dX9_fitSet_5 rfl (lv_at hl 0 rfl) ?_
    refine va_get (D := (dC, dI)) (ci := 9) (v := .int T_count) (C := RX9) (T := TX9) (N := 6) hx hb hts in_X9_fitSet_X9 hown hK hP 0 rfl rfl 0 (by decide) (hts _ lk_X9_fitSet_RX9_27) (fun _ h9 => h9) rfl dX9_fitSet_6 ?_
    refine lv_icmp_ge (tgt := 33) hx hb dX9_fitSet_9 (by decide) (fun q1 => ?_) (fun q1 => ?_)
    · have hf := wk_t hf q1
      refine lv_iload_n hx hb dX9_fitSet_33 rfl (lv_at hl 1 rfl) ?_
      have e0 := wke1 hf
      subst e0
      exact W.iret (v := x1) hx hb hr (fun t ht hW => ⟨x1, rfl, rfl, ht⟩) (fun q h => absurd h List.not_mem_nil) dX9_fitSet_34
    · have hf := wk_f hf q1
      refine lv_aload_n hx hb dX9_fitSet_12 rfl (lv_at hl 0 rfl) ?_
      refine va_get (D := (dC, dI)) (ci := 9) (v := .ref (a 5)) (C := RX9) (T := TX9) (N := 6) hx hb hts in_X9_fitSet_X9 hown hK hP 0 rfl rfl 5 (by decide) (hts _ lk_X9_fitSet_RX9_24) (fun _ h9 => h9) rfl dX9_fitSet_13 ?_
      refine lv_iload_n hx hb dX9_fitSet_16 rfl (lv_at hl 2 rfl) ?_
      obtain ⟨h2, hf⟩ := gin_s hf
      refine wk_iald hx hb hK hP 5 0 rfl rfl h2 rfl dX9_fitSet_17 ?_
      refine lv_if_ne (tgt := 27) hx hb dX9_fitSet_18 (by decide) (fun q3 => ?_) (fun q3 => ?_)
      · have hf := wk_f hf q3
        refine lv_iinc (v := (x2 + 1)) (lv' := [(2, .int (x2 + 1)), (0, .ref (a 0)), (1, .int x1)]) hx hb dX9_fitSet_27 hl (k := 2) rfl rfl (by decide) rfl (fun ls hl => ?_)
        refine lv_goto (tgt := 4) hx hb dX9_fitSet_30 (by decide) ?_
        exact ih x1 (x2 + 1) hf ls (lv_sub hl [1, 2, 0] rfl)
      · have hf := wk_t hf q3
        refine lv_iload_n hx hb dX9_fitSet_21 rfl (lv_at hl 1 rfl) ?_
        refine lv_iconst (v := 1) hx hb dX9_fitSet_22 (by decide) ?_
        refine lv_iload_n hx hb dX9_fitSet_23 rfl (lv_at hl 2 rfl) ?_
        refine lv_ishl hx hb dX9_fitSet_24 ?_
        refine lv_ior hx hb dX9_fitSet_25 ?_
        refine lv_istore_n (lv' := [(1, .int (x1 ||| ((1 : Int32) <<< (x2 &&& 31)))), (0, .ref (a 0)), (2, .int x2)]) hx hb dX9_fitSet_26 rfl hl (by decide) rfl (fun ls hl => ?_)
        refine lv_iinc (v := (x2 + 1)) (lv' := [(2, .int (x2 + 1)), (1, .int (x1 ||| ((1 : Int32) <<< (x2 &&& 31)))), (0, .ref (a 0))]) hx hb dX9_fitSet_27 hl (k := 2) rfl rfl (by decide) rfl (fun ls hl => ?_)
        refine lv_goto (tgt := 4) hx hb dX9_fitSet_30 (by decide) ?_
        exact ih (x1 ||| ((1 : Int32) <<< (x2 &&& 31))) (x2 + 1) hf ls (lv_sub hl [2, 1, 0] rfl)
set_option maxHeartbeats 4000000 in
set_option maxRecDepth 100000 in
theorem c_X9_fitSet (l : Launch) (dC : Nat → ClassId) (dI : Nat → Nat → Nat) (Y : Nat → ClassId) (a : Nat → Nat) (T_count : Int32) (T_weights : Nat → Int32) (T_strengths : Nat → Int32) (T_heights : Nat → Int32) (T_wages : Nat → Int32) (T_nightsToHeal : Nat → Int32)  (r : Int32) (hf : f_X9_fitSet T_count T_nightsToHeal = some (r)) : Met l yX9_fitSet wsX9_fitSet ({ frames := 0, cells := 0, slots := 0, locals := 0 } : Room) (va_Pc [.ref (a 0)] (wk_B (dC, dI) Y (wX9 Y a T_count T_weights T_strengths T_heights T_wages T_nightsToHeal))) (vp_Si (fun r2 => r2 = r)) 0 0 (fun _ => False) := by
  refine Met.ofW (cc := cX9_fitSet) (maxL := 3) (ret := (some .int)) (by decide) rfl ?_
  intro p e s m args below meth c s₁ B hml hv
  obtain ⟨rfl, hP, hK⟩ := hv
  have hx := B.exec
  have hb := B.bytes
  have hr := B.returns
  have hts := atoms_spec (ws := wsX9_fitSet) B.pre
  have hown : s.vm.findClass RX9 = some m.cls := findClass_of_methodNamed B.named
  have hlocks := B.notSynchronized
  have C0 : wk_C p s m _ meth c cX9_fitSet 3 (some .int) wsX9_fitSet RX9 := ⟨hx, hb, hml, hr, hlocks, hown, hts⟩
  have hP : va_P (dC, dI) vwCl [(a 0, .inr (9, [.int T_count, .ref (a 1), .ref (a 2), .ref (a 3), .ref (a 4), .ref (a 5)])), (a 1, .inl (Y 0, 6, .inl T_weights)), (a 2, .inl (Y 0, 6, .inl T_strengths)), (a 3, .inl (Y 0, 6, .inl T_heights)), (a 4, .inl (Y 0, 6, .inl T_wages)), (a 5, .inl (Y 0, 6, .inl T_nightsToHeal))] s.heap := hP
  have hl := lv_entry ([.ref (a 0)]) (n := 3) (Nat.le_of_ble_eq_true rfl)
  rw [lg_entry_eq]
  generalize (lg_sl ([.ref (a 0)]) ++ List.replicate (3 - (lg_sl ([.ref (a 0)])).length) Slot.unset).toArray = ls at hl ⊢
  have hl : lv_has ls 3 [(0, .ref (a 0))] := hl
  rw [f_X9_fitSet] at hf
  refine lv_iconst (v := 0) hx hb dX9_fitSet_0 (by decide) ?_
  refine lv_istore_n (lv' := [(1, .int 0), (0, .ref (a 0))]) hx hb dX9_fitSet_1 rfl hl (by decide) rfl (fun ls hl => ?_)
  refine lv_iconst (v := 0) hx hb dX9_fitSet_2 (by decide) ?_
  refine lv_istore_n (lv' := [(2, .int 0), (1, .int 0), (0, .ref (a 0))]) hx hb dX9_fitSet_3 rfl hl (by decide) rfl (fun ls hl => ?_)
  exact wl_X9_fitSet_L4 C0 hK hP FU 0 0 hf ls (lv_sub hl [2, 1, 0] rfl)
theorem lk_X9_heal_RX9_24 : Cond.fieldLink RX9 24 "CircusLedger$Troupe" "nightsToHeal" "[I" ∈ wsX9_heal := by decide +kernel
theorem lk_X9_heal_RX9_27 : Cond.fieldLink RX9 27 "CircusLedger$Troupe" "count" "I" ∈ wsX9_heal := by decide +kernel
theorem mx_X9_heal_RX9_37 : Cond.methodLink RX9 37 Lib.Math.max.name ∈ wsX9_heal ∧ Cond.static Lib.Math.max.name ∈ wsX9_heal ∧ Cond.initialized "java/lang/Math" ∈ wsX9_heal ∧ Cond.code Lib.Math.max.name Lib.Math.max.code 2 (some .int) ∈ wsX9_heal := ⟨by decide +kernel, by decide +kernel, by decide +kernel, by decide +kernel⟩
theorem in_X9_heal_X9 : ∀ w ∈ u_ws RX9 TX9 6, w ∈ wsX9_heal := by decide +kernel
def f_X9_heal_L4 (T_count : Int32) (x1 : Int32) : Nat → Int32 → Int32 → (Nat → Int32) → Option (Int32 × (Nat → Int32))
  | 0, _, _, _ => none
  | nn + 1, x2, x3, T_nightsToHeal =>
    if T_count ≤ x3 then
      (some (x2, T_nightsToHeal))
    else
      (gin x3 6 (wkl ((if (0 : Int32) < ((T_nightsToHeal x3.toNatClampNeg) - x1) then ((T_nightsToHeal x3.toNatClampNeg) - x1) else 0)) (fun v3 =>
      gin x3 6 (wkl (upd T_nightsToHeal x3.toNatClampNeg v3) (fun g4 =>
      gin x3 6 (if (g4 x3.toNatClampNeg) ≤ 0 then
        (f_X9_heal_L4 T_count x1 nn x2 (x3 + 1) g4)
      else
        (f_X9_heal_L4 T_count x1 nn (x2 + 1) (x3 + 1) g4)))))))
def f_X9_heal (T_count : Int32) (T_nightsToHeal : Nat → Int32) (x1 : Int32) : Option (Int32 × (Nat → Int32)) :=
  f_X9_heal_L4 T_count x1 FU 0 0 T_nightsToHeal
set_option maxHeartbeats 4000000 in
set_option maxRecDepth 100000 in
theorem wl_X9_heal_L4 {p : Program} {l : Launch} {e : Env} {s : State} {m : MethodId} {args : Array Value} {below : List Frame} {meth : Method} {c : Code} {dC : Nat → ClassId} {dI : Nat → Nat → Nat} {Y : Nat → ClassId} {a : Nat → Nat} {T_count : Int32} {T_weights : Nat → Int32} {T_strengths : Nat → Int32} {T_heights : Nat → Int32} {T_wages : Nat → Int32} {x1 : Int32} {r : Int32} {zT_nightsToHeal : Nat → Int32}  (C0 : wk_C p s m args meth c cX9_heal 4 (some .int) wsX9_heal RX9) {A : Nat → Prop} (hK : va_K (dC, dI) vwCl (vTy Y) s) (hA : ∀ q, s.heap.size ≤ q → A q) : ∀ (nn : Nat) (x2 : Int32) (x3 : Int32)  (T_nightsToHeal : Nat → Int32), f_X9_heal_L4 T_count x1 nn x2 x3 T_nightsToHeal = some (r, zT_nightsToHeal) → ∀ (H : Heap) (locs : List Loc), va_P (dC, dI) vwCl (wX9 Y a T_count T_weights T_strengths T_heights T_wages T_nightsToHeal) H → va_D A (wX9 Y a T_count T_weights T_strengths T_heights T_wages T_nightsToHeal) → va_S A s.heap H locs → ∀ (ls : Array Slot), lv_has ls 4 [(0, .ref (a 0)), (1, .int x1), (2, .int x2), (3, .int x3)] → W p l e (headSpec wsX9_heal ({ frames := 1, cells := 0, slots := 0, locals := 21 } : Room)).room s m args below meth c H locs 0 0 (MQ below (va_Qi (fun r2 (_ : Unit) => r2 = r) (fun _ t => wk_X (dC, dI) Y (wX9 Y a T_count T_weights T_strengths T_heights T_wages zT_nightsToHeal) A t) A) args s 0 0 A) (F0 m 4 ls []) := by
  have C0 := C0
  obtain ⟨hx, hb, hml, hr, hlocks, hown, hts⟩ := id C0
  intro nn
  induction nn with
  | zero =>
    intro x2 x3 T_nightsToHeal hf
    rw [f_X9_heal_L4] at hf
    cases hf
  | succ nn ih =>
    intro x2 x3 T_nightsToHeal hf H locs hP hD hS ls hl
    rw [f_X9_heal_L4] at hf
    have hP : va_P (dC, dI) vwCl [(a 0, .inr (9, [.int T_count, .ref (a 1), .ref (a 2), .ref (a 3), .ref (a 4), .ref (a 5)])), (a 1, .inl (Y 0, 6, .inl T_weights)), (a 2, .inl (Y 0, 6, .inl T_strengths)), (a 3, .inl (Y 0, 6, .inl T_heights)), (a 4, .inl (Y 0, 6, .inl T_wages)), (a 5, .inl (Y 0, 6, .inl T_nightsToHeal))] H := hP
    have hD : va_D A [(a 0, .inr (9, [.int T_count, .ref (a 1), .ref (a 2), .ref (a 3), .ref (a 4), .ref (a 5)])), (a 1, .inl (Y 0, 6, .inl T_weights)), (a 2, .inl (Y 0, 6, .inl T_strengths)), (a 3, .inl (Y 0, 6, .inl T_heights)), (a 4, .inl (Y 0, 6, .inl T_wages)), (a 5, .inl (Y 0, 6, .inl T_nightsToHeal))] := hD
    refine lv_iload_n hx hb dX9_heal_4 rfl (lv_at hl 3 rfl) ?_
    refine lv_aload_n hx hb dX9_heal_5 rfl (lv_at hl 0 rfl) ?_
    refine va_get (D := (dC, dI)) (ci := 9) (v := .int T_count) (C := RX9) (T := TX9) (N := 6) hx hb hts in_X9_heal_X9 hown hK hP 0 rfl rfl 0 (by decide) (hts _ lk_X9_heal_RX9_27) (fun _ h9 => h9) rfl dX9_heal_6 ?_
    refine lv_icmp_ge (tgt := 48) hx hb dX9_heal_9 (by decide) (fun q1 => ?_) (fun q1 => ?_)
    · have hf := wk_t hf q1
      refine lv_iload_n hx hb dX9_heal_48 rfl (lv_at hl 2 rfl) ?_
      obtain ⟨e0, e1⟩ := wke2 hf
      subst e0
      subst e1
      have hP9 := hP.sub (ws' := (wX9 Y a T_count T_weights T_strengths T_heights T_wages T_nightsToHeal)) [0, 1, 2, 3, 4, 5] rfl
      have hD9 := hD.sub (ws' := (wX9 Y a T_count T_weights T_strengths T_heights T_wages T_nightsToHeal)) [0, 1, 2, 3, 4, 5] (by decide) rfl
      exact W.iret (v := x2) hx hb hr (fun t ht hW => ⟨⟨x2, (), rfl, rfl, by rw [ht]; exact hP9, va_K.moved hW.alike hK, hD9⟩, hS.F ht⟩) hS.2.2 dX9_heal_49
    · have hf := wk_f hf q1
      refine lv_aload_n hx hb dX9_heal_12 rfl (lv_at hl 0 rfl) ?_
      refine va_get (D := (dC, dI)) (ci := 9) (v := .ref (a 5)) (C := RX9) (T := TX9) (N := 6) hx hb hts in_X9_heal_X9 hown hK hP 0 rfl rfl 5 (by decide) (hts _ lk_X9_heal_RX9_24) (fun _ h9 => h9) rfl dX9_heal_13 ?_
      refine lv_iload_n hx hb dX9_heal_16 rfl (lv_at hl 3 rfl) ?_
      refine lv_iconst (v := 0) hx hb dX9_heal_17 (by decide) ?_
      refine lv_aload_n hx hb dX9_heal_18 rfl (lv_at hl 0 rfl) ?_
      refine va_get (D := (dC, dI)) (ci := 9) (v := .ref (a 5)) (C := RX9) (T := TX9) (N := 6) hx hb hts in_X9_heal_X9 hown hK hP 0 rfl rfl 5 (by decide) (hts _ lk_X9_heal_RX9_24) (fun _ h9 => h9) rfl dX9_heal_19 ?_
      refine lv_iload_n hx hb dX9_heal_22 rfl (lv_at hl 3 rfl) ?_
      obtain ⟨h2, hf⟩ := gin_s hf
      refine wk_iald hx hb hK hP 5 0 rfl rfl h2 rfl dX9_heal_23 ?_
      refine lv_iload_n hx hb dX9_heal_24 rfl (lv_at hl 1 rfl) ?_
      refine lv_isub hx hb dX9_heal_25 ?_
      refine va_mmax hx hb (hml.trans hl.1.symm) hown (hts _ mx_X9_heal_RX9_37.1) (hts _ mx_X9_heal_RX9_37.2.1) (hts _ mx_X9_heal_RX9_37.2.2.1) (hts _ mx_X9_heal_RX9_37.2.2.2) (Nat.le_of_ble_eq_true rfl) (Nat.le_of_ble_eq_true rfl) (Nat.le_of_ble_eq_true rfl) (Nat.le_of_ble_eq_true rfl) dX9_heal_26 ?_
      refine lv_topi (fun v3 ev3 => ?_)
      have hf := wkl_s hf ev3
      obtain ⟨h5, hf⟩ := gin_s hf
      refine wk_iast hx hb hK hP hD hS 5 0 (k := x3.toNatClampNeg) rfl rfl h5 rfl dX9_heal_29 (fun g4 H locs eg4 hP hD hS => ?_)
      have hP : va_P (dC, dI) vwCl [(a 0, .inr (9, [.int T_count, .ref (a 1), .ref (a 2), .ref (a 3), .ref (a 4), .ref (a 5)])), (a 1, .inl (Y 0, 6, .inl T_weights)), (a 2, .inl (Y 0, 6, .inl T_strengths)), (a 3, .inl (Y 0, 6, .inl T_heights)), (a 4, .inl (Y 0, 6, .inl T_wages)), (a 5, .inl (Y 0, 6, .inl g4))] H := hP
      have hD : va_D A [(a 0, .inr (9, [.int T_count, .ref (a 1), .ref (a 2), .ref (a 3), .ref (a 4), .ref (a 5)])), (a 1, .inl (Y 0, 6, .inl T_weights)), (a 2, .inl (Y 0, 6, .inl T_strengths)), (a 3, .inl (Y 0, 6, .inl T_heights)), (a 4, .inl (Y 0, 6, .inl T_wages)), (a 5, .inl (Y 0, 6, .inl g4))] := hD
      have hf := wkl_s hf eg4
      refine lv_aload_n hx hb dX9_heal_30 rfl (lv_at hl 0 rfl) ?_
      refine va_get (D := (dC, dI)) (ci := 9) (v := .ref (a 5)) (C := RX9) (T := TX9) (N := 6) hx hb hts in_X9_heal_X9 hown hK hP 0 rfl rfl 5 (by decide) (hts _ lk_X9_heal_RX9_24) (fun _ h9 => h9) rfl dX9_heal_31 ?_
      refine lv_iload_n hx hb dX9_heal_34 rfl (lv_at hl 3 rfl) ?_
      obtain ⟨h6, hf⟩ := gin_s hf
      refine wk_iald hx hb hK hP 5 0 rfl rfl h6 rfl dX9_heal_35 ?_
      refine lv_if_le (tgt := 42) hx hb dX9_heal_36 (by decide) (fun q7 => ?_) (fun q7 => ?_)
      · have hf := wk_t hf q7
        refine lv_iinc (v := (x3 + 1)) (lv' := [(3, .int (x3 + 1)), (0, .ref (a 0)), (1, .int x1), (2, .int x2)]) hx hb dX9_heal_42 hl (k := 3) rfl rfl (by decide) rfl (fun ls hl => ?_)
        refine lv_goto (tgt := 4) hx hb dX9_heal_45 (by decide) ?_
        exact ih x2 (x3 + 1) g4 hf H locs hP hD hS ls (lv_sub hl [1, 2, 3, 0] rfl)
      · have hf := wk_f hf q7
        refine lv_iinc (v := (x2 + 1)) (lv' := [(2, .int (x2 + 1)), (0, .ref (a 0)), (1, .int x1), (3, .int x3)]) hx hb dX9_heal_39 hl (k := 2) rfl rfl (by decide) rfl (fun ls hl => ?_)
        refine lv_iinc (v := (x3 + 1)) (lv' := [(3, .int (x3 + 1)), (2, .int (x2 + 1)), (0, .ref (a 0)), (1, .int x1)]) hx hb dX9_heal_42 hl (k := 3) rfl rfl (by decide) rfl (fun ls hl => ?_)
        refine lv_goto (tgt := 4) hx hb dX9_heal_45 (by decide) ?_
        exact ih (x2 + 1) (x3 + 1) g4 hf H locs hP hD hS ls (lv_sub hl [2, 3, 1, 0] rfl)
set_option maxHeartbeats 4000000 in
set_option maxRecDepth 100000 in
theorem c_X9_heal (l : Launch) (dC : Nat → ClassId) (dI : Nat → Nat → Nat) (Y : Nat → ClassId) (a : Nat → Nat) (T_count : Int32) (T_weights : Nat → Int32) (T_strengths : Nat → Int32) (T_heights : Nat → Int32) (T_wages : Nat → Int32) (T_nightsToHeal : Nat → Int32) (x1 : Int32) (sz : Nat) (r : Int32) (zT_nightsToHeal : Nat → Int32) (hf : f_X9_heal T_count T_nightsToHeal x1 = some (r, zT_nightsToHeal)) : Met l yX9_heal wsX9_heal ({ frames := 1, cells := 0, slots := 0, locals := 21 } : Room) (va_Pc [.ref (a 0), .int x1] (wk_E (dC, dI) Y (wX9 Y a T_count T_weights T_strengths T_heights T_wages T_nightsToHeal) sz)) (va_Qi (fun r2 (_ : Unit) => r2 = r) (fun _ t => wk_X (dC, dI) Y (wX9 Y a T_count T_weights T_strengths T_heights T_wages zT_nightsToHeal) (va_A (wX9 Y a T_count T_weights T_strengths T_heights T_wages T_nightsToHeal) sz) t) (va_A (wX9 Y a T_count T_weights T_strengths T_heights T_wages T_nightsToHeal) sz)) 0 0 (va_A (wX9 Y a T_count T_weights T_strengths T_heights T_wages T_nightsToHeal) sz) := by
  refine Met.ofW (cc := cX9_heal) (maxL := 4) (ret := (some .int)) (by decide) rfl ?_
  intro p e s m args below meth c s₁ B hml hv
  obtain ⟨rfl, hsz, hP, hK, hD0⟩ := hv
  have hx := B.exec
  have hb := B.bytes
  have hr := B.returns
  have hts := atoms_spec (ws := wsX9_heal) B.pre
  have hown : s.vm.findClass RX9 = some m.cls := findClass_of_methodNamed B.named
  have hlocks := B.notSynchronized
  have C0 : wk_C p s m _ meth c cX9_heal 4 (some .int) wsX9_heal RX9 := ⟨hx, hb, hml, hr, hlocks, hown, hts⟩
  subst hsz
  have hD := hD0.self (sz := s.heap.size)
  generalize hAe : va_A (wX9 Y a T_count T_weights T_strengths T_heights T_wages T_nightsToHeal) s.heap.size = A at hD ⊢
  have hA : ∀ q : Nat, s.heap.size ≤ q → A q := fun q h => by rw [← hAe]; exact Or.inr h
  have hS : va_S A s.heap s.heap [] := va_S.rf
  obtain ⟨H, hHe⟩ : ∃ H, H = s.heap := ⟨_, rfl⟩
  have hS : va_S A s.heap H [] := by rw [hHe]; exact hS
  have hP : va_P (dC, dI) vwCl [(a 0, .inr (9, [.int T_count, .ref (a 1), .ref (a 2), .ref (a 3), .ref (a 4), .ref (a 5)])), (a 1, .inl (Y 0, 6, .inl T_weights)), (a 2, .inl (Y 0, 6, .inl T_strengths)), (a 3, .inl (Y 0, 6, .inl T_heights)), (a 4, .inl (Y 0, 6, .inl T_wages)), (a 5, .inl (Y 0, 6, .inl T_nightsToHeal))] H := by rw [hHe]; exact hP
  have hD : va_D A [(a 0, .inr (9, [.int T_count, .ref (a 1), .ref (a 2), .ref (a 3), .ref (a 4), .ref (a 5)])), (a 1, .inl (Y 0, 6, .inl T_weights)), (a 2, .inl (Y 0, 6, .inl T_strengths)), (a 3, .inl (Y 0, 6, .inl T_heights)), (a 4, .inl (Y 0, 6, .inl T_wages)), (a 5, .inl (Y 0, 6, .inl T_nightsToHeal))] := hD
  obtain ⟨locs, hlo⟩ : ∃ locs : List Loc, locs = [] := ⟨_, rfl⟩
  have hS : va_S A s.heap H locs := by rw [hlo]; exact hS
  have hl := lv_entry ([.ref (a 0), .int x1]) (n := 4) (Nat.le_of_ble_eq_true rfl)
  rw [lg_entry_eq]
  generalize (lg_sl ([.ref (a 0), .int x1]) ++ List.replicate (4 - (lg_sl ([.ref (a 0), .int x1])).length) Slot.unset).toArray = ls at hl ⊢
  have hl : lv_has ls 4 [(0, .ref (a 0)), (1, .int x1)] := hl
  refine wk_start hHe hlo ?_
  rw [f_X9_heal] at hf
  refine lv_iconst (v := 0) hx hb dX9_heal_0 (by decide) ?_
  refine lv_istore_n (lv' := [(2, .int 0), (0, .ref (a 0)), (1, .int x1)]) hx hb dX9_heal_1 rfl hl (by decide) rfl (fun ls hl => ?_)
  refine lv_iconst (v := 0) hx hb dX9_heal_2 (by decide) ?_
  refine lv_istore_n (lv' := [(3, .int 0), (2, .int 0), (0, .ref (a 0)), (1, .int x1)]) hx hb dX9_heal_3 rfl hl (by decide) rfl (fun ls hl => ?_)
  exact wl_X9_heal_L4 C0 hK hA FU 0 0 T_nightsToHeal hf H locs hP hD hS ls (lv_sub hl [2, 3, 1, 0] rfl)
theorem lk_X9_isBelow_RX9_9 : Cond.fieldLink RX9 9 "CircusLedger$Troupe" "weights" "[I" ∈ wsX9_isBelow := by decide +kernel
theorem lk_X9_isBelow_RX9_15 : Cond.fieldLink RX9 15 "CircusLedger$Troupe" "strengths" "[I" ∈ wsX9_isBelow := by decide +kernel
theorem in_X9_isBelow_X9 : ∀ w ∈ u_ws RX9 TX9 6, w ∈ wsX9_isBelow := by decide +kernel
def f_X9_isBelow (T_weights : Nat → Int32) (T_strengths : Nat → Int32) (x1 : Int32) (x2 : Int32) : Option (Int32) :=
  gin x1 6 (gin x1 6 (wkl (((T_weights x1.toNatClampNeg) + (T_strengths x1.toNatClampNeg))) (fun v3 =>
  gin x2 6 (gin x2 6 (wkl (((T_weights x2.toNatClampNeg) + (T_strengths x2.toNatClampNeg))) (fun v6 =>
  if v3 = v6 then
    (if x2 ≤ x1 then
      (some (0))
    else
      (some (1)))
  else
    (if v3 ≤ v6 then
      (some (0))
    else
      (some (1)))))))))
set_option maxHeartbeats 4000000 in
set_option maxRecDepth 100000 in
theorem c_X9_isBelow (l : Launch) (dC : Nat → ClassId) (dI : Nat → Nat → Nat) (Y : Nat → ClassId) (a : Nat → Nat) (T_count : Int32) (T_weights : Nat → Int32) (T_strengths : Nat → Int32) (T_heights : Nat → Int32) (T_wages : Nat → Int32) (T_nightsToHeal : Nat → Int32) (x1 : Int32) (x2 : Int32) (r : Int32) (hf : f_X9_isBelow T_weights T_strengths x1 x2 = some (r)) : Met l yX9_isBelow wsX9_isBelow ({ frames := 0, cells := 0, slots := 0, locals := 0 } : Room) (va_Pc [.ref (a 0), .int x1, .int x2] (wk_B (dC, dI) Y (wX9 Y a T_count T_weights T_strengths T_heights T_wages T_nightsToHeal))) (vp_Si (fun r2 => r2 = r)) 0 0 (fun _ => False) := by
  refine Met.ofW (cc := cX9_isBelow) (maxL := 5) (ret := (some .boolean)) (by decide) rfl ?_
  intro p e s m args below meth c s₁ B hml hv
  obtain ⟨rfl, hP, hK⟩ := hv
  have hx := B.exec
  have hb := B.bytes
  have hr := B.returns
  have hts := atoms_spec (ws := wsX9_isBelow) B.pre
  have hown : s.vm.findClass RX9 = some m.cls := findClass_of_methodNamed B.named
  have hlocks := B.notSynchronized
  have C0 : wk_C p s m _ meth c cX9_isBelow 5 (some .boolean) wsX9_isBelow RX9 := ⟨hx, hb, hml, hr, hlocks, hown, hts⟩
  have hP : va_P (dC, dI) vwCl [(a 0, .inr (9, [.int T_count, .ref (a 1), .ref (a 2), .ref (a 3), .ref (a 4), .ref (a 5)])), (a 1, .inl (Y 0, 6, .inl T_weights)), (a 2, .inl (Y 0, 6, .inl T_strengths)), (a 3, .inl (Y 0, 6, .inl T_heights)), (a 4, .inl (Y 0, 6, .inl T_wages)), (a 5, .inl (Y 0, 6, .inl T_nightsToHeal))] s.heap := hP
  have hl := lv_entry ([.ref (a 0), .int x1, .int x2]) (n := 5) (Nat.le_of_ble_eq_true rfl)
  rw [lg_entry_eq]
  generalize (lg_sl ([.ref (a 0), .int x1, .int x2]) ++ List.replicate (5 - (lg_sl ([.ref (a 0), .int x1, .int x2])).length) Slot.unset).toArray = ls at hl ⊢
  have hl : lv_has ls 5 [(0, .ref (a 0)), (1, .int x1), (2, .int x2)] := hl
  rw [f_X9_isBelow] at hf
  refine lv_aload_n hx hb dX9_isBelow_0 rfl (lv_at hl 0 rfl) ?_
  refine va_get (D := (dC, dI)) (ci := 9) (v := .ref (a 1)) (C := RX9) (T := TX9) (N := 6) hx hb hts in_X9_isBelow_X9 hown hK hP 0 rfl rfl 1 (by decide) (hts _ lk_X9_isBelow_RX9_9) (fun _ h9 => h9) rfl dX9_isBelow_1 ?_
  refine lv_iload_n hx hb dX9_isBelow_4 rfl (lv_at hl 1 rfl) ?_
  obtain ⟨h1, hf⟩ := gin_s hf
  refine wk_iald hx hb hK hP 1 0 rfl rfl h1 rfl dX9_isBelow_5 ?_
  refine lv_aload_n hx hb dX9_isBelow_6 rfl (lv_at hl 0 rfl) ?_
  refine va_get (D := (dC, dI)) (ci := 9) (v := .ref (a 2)) (C := RX9) (T := TX9) (N := 6) hx hb hts in_X9_isBelow_X9 hown hK hP 0 rfl rfl 2 (by decide) (hts _ lk_X9_isBelow_RX9_15) (fun _ h9 => h9) rfl dX9_isBelow_7 ?_
  refine lv_iload_n hx hb dX9_isBelow_10 rfl (lv_at hl 1 rfl) ?_
  obtain ⟨h2, hf⟩ := gin_s hf
  refine wk_iald hx hb hK hP 2 0 rfl rfl h2 rfl dX9_isBelow_11 ?_
  refine lv_iadd hx hb dX9_isBelow_12 ?_
  refine lv_topi (fun v3 ev3 => ?_)
  have hf := wkl_s hf ev3
  refine lv_istore_n (lv' := [(3, .int v3), (0, .ref (a 0)), (1, .int x1), (2, .int x2)]) hx hb dX9_isBelow_13 rfl hl (by decide) rfl (fun ls hl => ?_)
  refine lv_aload_n hx hb dX9_isBelow_14 rfl (lv_at hl 1 rfl) ?_
  refine va_get (D := (dC, dI)) (ci := 9) (v := .ref (a 1)) (C := RX9) (T := TX9) (N := 6) hx hb hts in_X9_isBelow_X9 hown hK hP 0 rfl rfl 1 (by decide) (hts _ lk_X9_isBelow_RX9_9) (fun _ h9 => h9) rfl dX9_isBelow_15 ?_
  refine lv_iload_n hx hb dX9_isBelow_18 rfl (lv_at hl 3 rfl) ?_
  obtain ⟨h4, hf⟩ := gin_s hf
  refine wk_iald hx hb hK hP 1 0 rfl rfl h4 rfl dX9_isBelow_19 ?_
  refine lv_aload_n hx hb dX9_isBelow_20 rfl (lv_at hl 1 rfl) ?_
  refine va_get (D := (dC, dI)) (ci := 9) (v := .ref (a 2)) (C := RX9) (T := TX9) (N := 6) hx hb hts in_X9_isBelow_X9 hown hK hP 0 rfl rfl 2 (by decide) (hts _ lk_X9_isBelow_RX9_15) (fun _ h9 => h9) rfl dX9_isBelow_21 ?_
  refine lv_iload_n hx hb dX9_isBelow_24 rfl (lv_at hl 3 rfl) ?_
  obtain ⟨h5, hf⟩ := gin_s hf
  refine wk_iald hx hb hK hP 2 0 rfl rfl h5 rfl dX9_isBelow_25 ?_
  refine lv_iadd hx hb dX9_isBelow_26 ?_
  refine lv_topi (fun v6 ev6 => ?_)
  have hf := wkl_s hf ev6
  refine lv_istore (lv' := [(4, .int v6), (3, .int v3), (0, .ref (a 0)), (1, .int x1), (2, .int x2)]) hx hb dX9_isBelow_27 hl (by decide) rfl (fun ls hl => ?_)
  refine lv_iload_n hx hb dX9_isBelow_29 rfl (lv_at hl 1 rfl) ?_
  refine lv_iload hx hb dX9_isBelow_30 (lv_at hl 0 rfl) ?_
  refine lv_icmp_ne (tgt := 48) hx hb dX9_isBelow_32 (by decide) (fun q7 => ?_) (fun q7 => ?_)
  · have hf := wk_f hf q7
    refine lv_iload_n hx hb dX9_isBelow_48 rfl (lv_at hl 1 rfl) ?_
    refine lv_iload hx hb dX9_isBelow_49 (lv_at hl 0 rfl) ?_
    refine lv_icmp_le (tgt := 58) hx hb dX9_isBelow_51 (by decide) (fun q8 => ?_) (fun q8 => ?_)
    · have hf := wk_t hf q8
      refine lv_iconst (v := 0) hx hb dX9_isBelow_58 (by decide) ?_
      have e0 := wke1 hf
      subst e0
      exact W.zret (v := 0) (ty := .boolean) hx hb hr rfl (fun t ht hW => ⟨0, rfl, rfl, ht⟩) (fun q h => absurd h List.not_mem_nil) dX9_isBelow_59
    · have hf := wk_f hf q8
      refine lv_iconst (v := 1) hx hb dX9_isBelow_54 (by decide) ?_
      refine lv_goto (tgt := 59) hx hb dX9_isBelow_55 (by decide) ?_
      have e0 := wke1 hf
      subst e0
      exact W.zret (v := 1) (ty := .boolean) hx hb hr rfl (fun t ht hW => ⟨1, rfl, rfl, ht⟩) (fun q h => absurd h List.not_mem_nil) dX9_isBelow_59
  · have hf := wk_t hf q7
    refine lv_iload_n hx hb dX9_isBelow_35 rfl (lv_at hl 3 rfl) ?_
    refine lv_iload_n hx hb dX9_isBelow_36 rfl (lv_at hl 4 rfl) ?_
    refine lv_icmp_ge (tgt := 44) hx hb dX9_isBelow_37 (by decide) (fun q9 => ?_) (fun q9 => ?_)
    · have hf := wk_t hf q9
      refine lv_iconst (v := 0) hx hb dX9_isBelow_44 (by decide) ?_
      refine lv_goto (tgt := 59) hx hb dX9_isBelow_45 (by decide) ?_
      have e0 := wke1 hf
      subst e0
      exact W.zret (v := 0) (ty := .boolean) hx hb hr rfl (fun t ht hW => ⟨0, rfl, rfl, ht⟩) (fun q h => absurd h List.not_mem_nil) dX9_isBelow_59
    · have hf := wk_f hf q9
      refine lv_iconst (v := 1) hx hb dX9_isBelow_40 (by decide) ?_
      refine lv_goto (tgt := 59) hx hb dX9_isBelow_41 (by decide) ?_
      have e0 := wke1 hf
      subst e0
      exact W.zret (v := 1) (ty := .boolean) hx hb hr rfl (fun t ht hW => ⟨1, rfl, rfl, ht⟩) (fun q h => absurd h List.not_mem_nil) dX9_isBelow_59
theorem lk_X9_placeOf_RX9_27 : Cond.fieldLink RX9 27 "CircusLedger$Troupe" "count" "I" ∈ wsX9_placeOf := by decide +kernel
theorem in_X9_placeOf_X9 : ∀ w ∈ u_ws RX9 TX9 6, w ∈ wsX9_placeOf := by decide +kernel
def f_X9_placeOf_L5 (T_count : Int32) (T_weights : Nat → Int32) (T_strengths : Nat → Int32) (x1 : Int32) (x2 : Int32) : Nat → Int32 → Int32 → Option (Int32)
  | 0, _, _ => none
  | nn + 1, x3, x4 =>
    if T_count ≤ x4 then
      (some (x3))
    else
      (wkb1 (f_X9_isMember T_count x1 x4) (fun r2 =>
      if r2 = 0 then
        (f_X9_placeOf_L5 T_count T_weights T_strengths x1 x2 nn x3 (x4 + 1))
      else
        (wkb1 (f_X9_isBelow T_weights T_strengths x4 x2) (fun r5 =>
        if r5 = 0 then
          (f_X9_placeOf_L5 T_count T_weights T_strengths x1 x2 nn x3 (x4 + 1))
        else
          (f_X9_placeOf_L5 T_count T_weights T_strengths x1 x2 nn (x3 + 1) (x4 + 1))))))
def f_X9_placeOf (T_count : Int32) (T_weights : Nat → Int32) (T_strengths : Nat → Int32) (x1 : Int32) (x2 : Int32) : Option (Int32) :=
  f_X9_placeOf_L5 T_count T_weights T_strengths x1 x2 FU 0 0
set_option maxHeartbeats 4000000 in
set_option maxRecDepth 100000 in
theorem wl_X9_placeOf_L5 {p : Program} {l : Launch} {e : Env} {s : State} {m : MethodId} {args : Array Value} {below : List Frame} {meth : Method} {c : Code} {dC : Nat → ClassId} {dI : Nat → Nat → Nat} {Y : Nat → ClassId} {a : Nat → Nat} {T_count : Int32} {T_weights : Nat → Int32} {T_strengths : Nat → Int32} {T_heights : Nat → Int32} {T_wages : Nat → Int32} {T_nightsToHeal : Nat → Int32} {x1 : Int32} {x2 : Int32} {r : Int32}  (C0 : wk_C p s m args meth c cX9_placeOf 5 (some .int) wsX9_placeOf RX9) (hK : va_K (dC, dI) vwCl (vTy Y) s) (hP : va_P (dC, dI) vwCl (wX9 Y a T_count T_weights T_strengths T_heights T_wages T_nightsToHeal) s.heap) : ∀ (nn : Nat) (x3 : Int32) (x4 : Int32)  , f_X9_placeOf_L5 T_count T_weights T_strengths x1 x2 nn x3 x4 = some (r) → ∀ (ls : Array Slot), lv_has ls 5 [(0, .ref (a 0)), (1, .int x1), (2, .int x2), (3, .int x3), (4, .int x4)] → W p l e (headSpec wsX9_placeOf ({ frames := 1, cells := 0, slots := 0, locals := 24 } : Room)).room s m args below meth c s.heap [] 0 0 (MQ below (vp_Si (fun r2 => r2 = r)) args s 0 0 (fun _ => False)) (F0 m 5 ls []) := by
  have C0 := C0
  obtain ⟨hx, hb, hml, hr, hlocks, hown, hts⟩ := id C0
  intro nn
  induction nn with
  | zero =>
    intro x3 x4 hf
    rw [f_X9_placeOf_L5] at hf
    cases hf
  | succ nn ih =>
    intro x3 x4 hf ls hl
    rw [f_X9_placeOf_L5] at hf
    have hP : va_P (dC, dI) vwCl [(a 0, .inr (9, [.int T_count, .ref (a 1), .ref (a 2), .ref (a 3), .ref (a 4), .ref (a 5)])), (a 1, .inl (Y 0, 6, .inl T_weights)), (a 2, .inl (Y 0, 6, .inl T_strengths)), (a 3, .inl (Y 0, 6, .inl T_heights)), (a 4, .inl (Y 0, 6, .inl T_wages)), (a 5, .inl (Y 0, 6, .inl T_nightsToHeal))] s.heap := hP
    refine lv_iload hx hb dX9_placeOf_5 (lv_at hl 4 rfl) ?_
    refine lv_aload_n hx hb dX9_placeOf_7 rfl (lv_at hl 0 rfl) ?_
    refine va_get (D := (dC, dI)) (ci := 9) (v := .int T_count) (C := RX9) (T := TX9) (N := 6) hx hb hts in_X9_placeOf_X9 hown hK hP 0 rfl rfl 0 (by decide) (hts _ lk_X9_placeOf_RX9_27) (fun _ h9 => h9) rfl dX9_placeOf_8 ?_
    refine lv_icmp_ge (tgt := 43) hx hb dX9_placeOf_11 (by decide) (fun q1 => ?_) (fun q1 => ?_)
    · have hf := wk_t hf q1
      refine lv_iload_n hx hb dX9_placeOf_43 rfl (lv_at hl 3 rfl) ?_
      have e0 := wke1 hf
      subst e0
      exact W.iret (v := x3) hx hb hr (fun t ht hW => ⟨x3, rfl, rfl, ht⟩) (fun q h => absurd h List.not_mem_nil) dX9_placeOf_44
    · have hf := wk_f hf q1
      refine lv_aload_n hx hb dX9_placeOf_14 rfl (lv_at hl 0 rfl) ?_
      refine lv_iload_n hx hb dX9_placeOf_15 rfl (lv_at hl 1 rfl) ?_
      refine lv_iload hx hb dX9_placeOf_16 (lv_at hl 4 rfl) ?_
      obtain ⟨r2, hr3, hf⟩ := wkb1_s hf
      have hPc := hP.sub (ws' := (wX9 Y a T_count T_weights T_strengths T_heights T_wages T_nightsToHeal)) [0, 1, 2, 3, 4, 5] rfl
      refine wk_vi (As := [.int x1, .int x4]) (rest := []) ⟨hx, hb, hml, hown, hts⟩ (c_X9_isMember l dC dI Y a T_count T_weights T_strengths T_heights T_wages T_nightsToHeal x1 x4 r2 hr3) (cwV 2 hts gX9_placeOf_X9_isMember rfl rfl rfl (by decide +kernel) ⟨Nat.le_of_ble_eq_true rfl, Nat.le_of_ble_eq_true rfl⟩) hK hPc (va_recv hK hP (ci := 9) (q0 := 0) rfl rfl) rfl hl.1 rfl (Nat.le_of_ble_eq_true rfl) dX9_placeOf_18 ⟨Nat.le_of_ble_eq_true rfl, Nat.le_of_ble_eq_true rfl⟩ ?_
      refine lv_if_eq (tgt := 37) hx hb dX9_placeOf_21 (by decide) (fun q4 => ?_) (fun q4 => ?_)
      · have hf := wk_t hf q4
        refine lv_iinc (v := (x4 + 1)) (lv' := [(4, .int (x4 + 1)), (0, .ref (a 0)), (1, .int x1), (2, .int x2), (3, .int x3)]) hx hb dX9_placeOf_37 hl (k := 4) rfl rfl (by decide) rfl (fun ls hl => ?_)
        refine lv_goto (tgt := 5) hx hb dX9_placeOf_40 (by decide) ?_
        exact ih x3 (x4 + 1) hf ls (lv_sub hl [1, 2, 3, 4, 0] rfl)
      · have hf := wk_f hf q4
        refine lv_aload_n hx hb dX9_placeOf_24 rfl (lv_at hl 0 rfl) ?_
        refine lv_iload hx hb dX9_placeOf_25 (lv_at hl 4 rfl) ?_
        refine lv_iload_n hx hb dX9_placeOf_27 rfl (lv_at hl 2 rfl) ?_
        obtain ⟨r5, hr6, hf⟩ := wkb1_s hf
        have hPc := hP.sub (ws' := (wX9 Y a T_count T_weights T_strengths T_heights T_wages T_nightsToHeal)) [0, 1, 2, 3, 4, 5] rfl
        refine wk_vi (As := [.int x4, .int x2]) (rest := []) ⟨hx, hb, hml, hown, hts⟩ (c_X9_isBelow l dC dI Y a T_count T_weights T_strengths T_heights T_wages T_nightsToHeal x4 x2 r5 hr6) (cwV 2 hts gX9_placeOf_X9_isBelow rfl rfl rfl (by decide +kernel) ⟨Nat.le_of_ble_eq_true rfl, Nat.le_of_ble_eq_true rfl⟩) hK hPc (va_recv hK hP (ci := 9) (q0 := 0) rfl rfl) rfl hl.1 rfl (Nat.le_of_ble_eq_true rfl) dX9_placeOf_28 ⟨Nat.le_of_ble_eq_true rfl, Nat.le_of_ble_eq_true rfl⟩ ?_
        refine lv_if_eq (tgt := 37) hx hb dX9_placeOf_31 (by decide) (fun q7 => ?_) (fun q7 => ?_)
        · have hf := wk_t hf q7
          refine lv_iinc (v := (x4 + 1)) (lv' := [(4, .int (x4 + 1)), (0, .ref (a 0)), (1, .int x1), (2, .int x2), (3, .int x3)]) hx hb dX9_placeOf_37 hl (k := 4) rfl rfl (by decide) rfl (fun ls hl => ?_)
          refine lv_goto (tgt := 5) hx hb dX9_placeOf_40 (by decide) ?_
          exact ih x3 (x4 + 1) hf ls (lv_sub hl [1, 2, 3, 4, 0] rfl)
        · have hf := wk_f hf q7
          refine lv_iinc (v := (x3 + 1)) (lv' := [(3, .int (x3 + 1)), (0, .ref (a 0)), (1, .int x1), (2, .int x2), (4, .int x4)]) hx hb dX9_placeOf_34 hl (k := 3) rfl rfl (by decide) rfl (fun ls hl => ?_)
          refine lv_iinc (v := (x4 + 1)) (lv' := [(4, .int (x4 + 1)), (3, .int (x3 + 1)), (0, .ref (a 0)), (1, .int x1), (2, .int x2)]) hx hb dX9_placeOf_37 hl (k := 4) rfl rfl (by decide) rfl (fun ls hl => ?_)
          refine lv_goto (tgt := 5) hx hb dX9_placeOf_40 (by decide) ?_
          exact ih (x3 + 1) (x4 + 1) hf ls (lv_sub hl [2, 3, 4, 1, 0] rfl)
set_option maxHeartbeats 4000000 in
set_option maxRecDepth 100000 in
theorem c_X9_placeOf (l : Launch) (dC : Nat → ClassId) (dI : Nat → Nat → Nat) (Y : Nat → ClassId) (a : Nat → Nat) (T_count : Int32) (T_weights : Nat → Int32) (T_strengths : Nat → Int32) (T_heights : Nat → Int32) (T_wages : Nat → Int32) (T_nightsToHeal : Nat → Int32) (x1 : Int32) (x2 : Int32) (r : Int32) (hf : f_X9_placeOf T_count T_weights T_strengths x1 x2 = some (r)) : Met l yX9_placeOf wsX9_placeOf ({ frames := 1, cells := 0, slots := 0, locals := 24 } : Room) (va_Pc [.ref (a 0), .int x1, .int x2] (wk_B (dC, dI) Y (wX9 Y a T_count T_weights T_strengths T_heights T_wages T_nightsToHeal))) (vp_Si (fun r2 => r2 = r)) 0 0 (fun _ => False) := by
  refine Met.ofW (cc := cX9_placeOf) (maxL := 5) (ret := (some .int)) (by decide) rfl ?_
  intro p e s m args below meth c s₁ B hml hv
  obtain ⟨rfl, hP, hK⟩ := hv
  have hx := B.exec
  have hb := B.bytes
  have hr := B.returns
  have hts := atoms_spec (ws := wsX9_placeOf) B.pre
  have hown : s.vm.findClass RX9 = some m.cls := findClass_of_methodNamed B.named
  have hlocks := B.notSynchronized
  have C0 : wk_C p s m _ meth c cX9_placeOf 5 (some .int) wsX9_placeOf RX9 := ⟨hx, hb, hml, hr, hlocks, hown, hts⟩
  have hP : va_P (dC, dI) vwCl [(a 0, .inr (9, [.int T_count, .ref (a 1), .ref (a 2), .ref (a 3), .ref (a 4), .ref (a 5)])), (a 1, .inl (Y 0, 6, .inl T_weights)), (a 2, .inl (Y 0, 6, .inl T_strengths)), (a 3, .inl (Y 0, 6, .inl T_heights)), (a 4, .inl (Y 0, 6, .inl T_wages)), (a 5, .inl (Y 0, 6, .inl T_nightsToHeal))] s.heap := hP
  have hl := lv_entry ([.ref (a 0), .int x1, .int x2]) (n := 5) (Nat.le_of_ble_eq_true rfl)
  rw [lg_entry_eq]
  generalize (lg_sl ([.ref (a 0), .int x1, .int x2]) ++ List.replicate (5 - (lg_sl ([.ref (a 0), .int x1, .int x2])).length) Slot.unset).toArray = ls at hl ⊢
  have hl : lv_has ls 5 [(0, .ref (a 0)), (1, .int x1), (2, .int x2)] := hl
  rw [f_X9_placeOf] at hf
  refine lv_iconst (v := 0) hx hb dX9_placeOf_0 (by decide) ?_
  refine lv_istore_n (lv' := [(3, .int 0), (0, .ref (a 0)), (1, .int x1), (2, .int x2)]) hx hb dX9_placeOf_1 rfl hl (by decide) rfl (fun ls hl => ?_)
  refine lv_iconst (v := 0) hx hb dX9_placeOf_2 (by decide) ?_
  refine lv_istore (lv' := [(4, .int 0), (3, .int 0), (0, .ref (a 0)), (1, .int x1), (2, .int x2)]) hx hb dX9_placeOf_3 hl (by decide) rfl (fun ls hl => ?_)
  exact wl_X9_placeOf_L5 C0 hK hP FU 0 0 hf ls (lv_sub hl [2, 3, 4, 1, 0] rfl)
theorem lk_X9_injureBeside_RX9_24 : Cond.fieldLink RX9 24 "CircusLedger$Troupe" "nightsToHeal" "[I" ∈ wsX9_injureBeside := by decide +kernel
theorem lk_X9_injureBeside_RX9_27 : Cond.fieldLink RX9 27 "CircusLedger$Troupe" "count" "I" ∈ wsX9_injureBeside := by decide +kernel
theorem in_X9_injureBeside_X9 : ∀ w ∈ u_ws RX9 TX9 6, w ∈ wsX9_injureBeside := by decide +kernel
def f_X9_injureBeside_L13 (T_count : Int32) (T_weights : Nat → Int32) (T_strengths : Nat → Int32) (x1 : Int32) (x2 : Int32) (x3 : Int32) : Nat → Int32 → Int32 → (Nat → Int32) → Option ((Nat → Int32))
  | 0, _, _, _ => none
  | nn + 1, x4, x5, T_nightsToHeal =>
    if T_count ≤ x5 then
      (some (T_nightsToHeal))
    else
      (wkb1 (f_X9_isMember T_count x1 x5) (fun r2 =>
      if r2 = 0 then
        (f_X9_injureBeside_L13 T_count T_weights T_strengths x1 x2 x3 nn x4 (x5 + 1) T_nightsToHeal)
      else
        (wkb1 (f_X9_placeOf T_count T_weights T_strengths x1 x5) (fun r5 =>
        if r5 ≤ x4 then
          (f_X9_injureBeside_L13 T_count T_weights T_strengths x1 x2 x3 nn x4 (x5 + 1) T_nightsToHeal)
        else
          (gin x5 6 (wkl (upd T_nightsToHeal x5.toNatClampNeg 3) (fun g8 =>
          f_X9_injureBeside_L13 T_count T_weights T_strengths x1 x2 x3 nn x4 (x5 + 1) g8)))))))
def f_X9_injureBeside (T_count : Int32) (T_weights : Nat → Int32) (T_strengths : Nat → Int32) (T_nightsToHeal : Nat → Int32) (x1 : Int32) (x2 : Int32) (x3 : Int32) : Option ((Nat → Int32)) :=
  wkb1 (f_X9_placeOf T_count T_weights T_strengths x1 x2) (fun r1 =>
  f_X9_injureBeside_L13 T_count T_weights T_strengths x1 x2 x3 FU (r1 + x3) 0 T_nightsToHeal)
set_option maxHeartbeats 4000000 in
set_option maxRecDepth 100000 in
theorem wl_X9_injureBeside_L13 {p : Program} {l : Launch} {e : Env} {s : State} {m : MethodId} {args : Array Value} {below : List Frame} {meth : Method} {c : Code} {dC : Nat → ClassId} {dI : Nat → Nat → Nat} {Y : Nat → ClassId} {a : Nat → Nat} {T_count : Int32} {T_weights : Nat → Int32} {T_strengths : Nat → Int32} {T_heights : Nat → Int32} {T_wages : Nat → Int32} {x1 : Int32} {x2 : Int32} {x3 : Int32} {zT_nightsToHeal : Nat → Int32}  (C0 : wk_C p s m args meth c cX9_injureBeside 6 none wsX9_injureBeside RX9) {A : Nat → Prop} (hK : va_K (dC, dI) vwCl (vTy Y) s) (hA : ∀ q, s.heap.size ≤ q → A q) : ∀ (nn : Nat) (x4 : Int32) (x5 : Int32)  (T_nightsToHeal : Nat → Int32), f_X9_injureBeside_L13 T_count T_weights T_strengths x1 x2 x3 nn x4 x5 T_nightsToHeal = some (zT_nightsToHeal) → ∀ (H : Heap) (locs : List Loc), va_P (dC, dI) vwCl (wX9 Y a T_count T_weights T_strengths T_heights T_wages T_nightsToHeal) H → va_D A (wX9 Y a T_count T_weights T_strengths T_heights T_wages T_nightsToHeal) → va_S A s.heap H locs → ∀ (ls : Array Slot), lv_has ls 6 [(0, .ref (a 0)), (1, .int x1), (4, .int x4), (5, .int x5)] → W p l e (headSpec wsX9_injureBeside ({ frames := 2, cells := 0, slots := 0, locals := 48 } : Room)).room s m args below meth c H locs 0 0 (MQ below (va_Qv (fun (_ : Unit) => True) (fun _ t => wk_X (dC, dI) Y (wX9 Y a T_count T_weights T_strengths T_heights T_wages zT_nightsToHeal) A t) A) args s 0 0 A) (F0 m 13 ls []) := by
  have C0 := C0
  obtain ⟨hx, hb, hml, hr, hlocks, hown, hts⟩ := id C0
  intro nn
  induction nn with
  | zero =>
    intro x4 x5 T_nightsToHeal hf
    rw [f_X9_injureBeside_L13] at hf
    cases hf
  | succ nn ih =>
    intro x4 x5 T_nightsToHeal hf H locs hP hD hS ls hl
    rw [f_X9_injureBeside_L13] at hf
    have hP : va_P (dC, dI) vwCl [(a 0, .inr (9, [.int T_count, .ref (a 1), .ref (a 2), .ref (a 3), .ref (a 4), .ref (a 5)])), (a 1, .inl (Y 0, 6, .inl T_weights)), (a 2, .inl (Y 0, 6, .inl T_strengths)), (a 3, .inl (Y 0, 6, .inl T_heights)), (a 4, .inl (Y 0, 6, .inl T_wages)), (a 5, .inl (Y 0, 6, .inl T_nightsToHeal))] H := hP
    have hD : va_D A [(a 0, .inr (9, [.int T_count, .ref (a 1), .ref (a 2), .ref (a 3), .ref (a 4), .ref (a 5)])), (a 1, .inl (Y 0, 6, .inl T_weights)), (a 2, .inl (Y 0, 6, .inl T_strengths)), (a 3, .inl (Y 0, 6, .inl T_heights)), (a 4, .inl (Y 0, 6, .inl T_wages)), (a 5, .inl (Y 0, 6, .inl T_nightsToHeal))] := hD
    refine lv_iload hx hb dX9_injureBeside_13 (lv_at hl 3 rfl) ?_
    refine lv_aload_n hx hb dX9_injureBeside_15 rfl (lv_at hl 0 rfl) ?_
    refine va_get (D := (dC, dI)) (ci := 9) (v := .int T_count) (C := RX9) (T := TX9) (N := 6) hx hb hts in_X9_injureBeside_X9 hown hK hP 0 rfl rfl 0 (by decide) (hts _ lk_X9_injureBeside_RX9_27) (fun _ h9 => h9) rfl dX9_injureBeside_16 ?_
    refine lv_icmp_ge (tgt := 58) hx hb dX9_injureBeside_19 (by decide) (fun q1 => ?_) (fun q1 => ?_)
    · have hf := wk_t hf q1
      have e0 := wke1 hf
      subst e0
      have hP9 := hP.sub (ws' := (wX9 Y a T_count T_weights T_strengths T_heights T_wages T_nightsToHeal)) [0, 1, 2, 3, 4, 5] rfl
      have hD9 := hD.sub (ws' := (wX9 Y a T_count T_weights T_strengths T_heights T_wages T_nightsToHeal)) [0, 1, 2, 3, 4, 5] (by decide) rfl
      exact W.vret hx hb hr (fun t ht hW => ⟨⟨(), rfl, trivial, by rw [ht]; exact hP9, va_K.moved hW.alike hK, hD9⟩, hS.F ht⟩) hS.2.2 dX9_injureBeside_58
    · have hf := wk_f hf q1
      refine lv_aload_n hx hb dX9_injureBeside_22 rfl (lv_at hl 0 rfl) ?_
      refine lv_iload_n hx hb dX9_injureBeside_23 rfl (lv_at hl 1 rfl) ?_
      refine lv_iload hx hb dX9_injureBeside_24 (lv_at hl 3 rfl) ?_
      obtain ⟨r2, hr3, hf⟩ := wkb1_s hf
      have hPc := hP.sub (ws' := (wX9 Y a T_count T_weights T_strengths T_heights T_wages T_nightsToHeal)) [0, 1, 2, 3, 4, 5] rfl
      refine wk_vi (As := [.int x1, .int x5]) (rest := []) ⟨hx, hb, hml, hown, hts⟩ (c_X9_isMember l dC dI Y a T_count T_weights T_strengths T_heights T_wages T_nightsToHeal x1 x5 r2 hr3) (cwV 2 hts gX9_injureBeside_X9_isMember rfl rfl rfl (by decide +kernel) ⟨Nat.le_of_ble_eq_true rfl, Nat.le_of_ble_eq_true rfl⟩) hK hPc (va_recv hK hP (ci := 9) (q0 := 0) rfl rfl) rfl hl.1 rfl (Nat.le_of_ble_eq_true rfl) dX9_injureBeside_26 ⟨Nat.le_of_ble_eq_true rfl, Nat.le_of_ble_eq_true rfl⟩ ?_
      refine lv_if_eq (tgt := 52) hx hb dX9_injureBeside_29 (by decide) (fun q4 => ?_) (fun q4 => ?_)
      · have hf := wk_t hf q4
        refine lv_iinc (v := (x5 + 1)) (lv' := [(5, .int (x5 + 1)), (0, .ref (a 0)), (1, .int x1), (4, .int x4)]) hx hb dX9_injureBeside_52 hl (k := 3) rfl rfl (by decide) rfl (fun ls hl => ?_)
        refine lv_goto (tgt := 13) hx hb dX9_injureBeside_55 (by decide) ?_
        exact ih x4 (x5 + 1) T_nightsToHeal hf H locs hP hD hS ls (lv_sub hl [1, 2, 3, 0] rfl)
      · have hf := wk_f hf q4
        refine lv_aload_n hx hb dX9_injureBeside_32 rfl (lv_at hl 0 rfl) ?_
        refine lv_iload_n hx hb dX9_injureBeside_33 rfl (lv_at hl 1 rfl) ?_
        refine lv_iload hx hb dX9_injureBeside_34 (lv_at hl 3 rfl) ?_
        obtain ⟨r5, hr6, hf⟩ := wkb1_s hf
        have hPc := hP.sub (ws' := (wX9 Y a T_count T_weights T_strengths T_heights T_wages T_nightsToHeal)) [0, 1, 2, 3, 4, 5] rfl
        refine wk_vi (As := [.int x1, .int x5]) (rest := []) ⟨hx, hb, hml, hown, hts⟩ (c_X9_placeOf l dC dI Y a T_count T_weights T_strengths T_heights T_wages T_nightsToHeal x1 x5 r5 hr6) (cwV 2 hts gX9_injureBeside_X9_placeOf rfl rfl rfl (by decide +kernel) ⟨Nat.le_of_ble_eq_true rfl, Nat.le_of_ble_eq_true rfl⟩) hK hPc (va_recv hK hP (ci := 9) (q0 := 0) rfl rfl) rfl hl.1 rfl (Nat.le_of_ble_eq_true rfl) dX9_injureBeside_36 ⟨Nat.le_of_ble_eq_true rfl, Nat.le_of_ble_eq_true rfl⟩ ?_
        refine lv_iload hx hb dX9_injureBeside_39 (lv_at hl 2 rfl) ?_
        refine lv_icmp_le (tgt := 52) hx hb dX9_injureBeside_41 (by decide) (fun q7 => ?_) (fun q7 => ?_)
        · have hf := wk_t hf q7
          refine lv_iinc (v := (x5 + 1)) (lv' := [(5, .int (x5 + 1)), (0, .ref (a 0)), (1, .int x1), (4, .int x4)]) hx hb dX9_injureBeside_52 hl (k := 3) rfl rfl (by decide) rfl (fun ls hl => ?_)
          refine lv_goto (tgt := 13) hx hb dX9_injureBeside_55 (by decide) ?_
          exact ih x4 (x5 + 1) T_nightsToHeal hf H locs hP hD hS ls (lv_sub hl [1, 2, 3, 0] rfl)
        · have hf := wk_f hf q7
          refine lv_aload_n hx hb dX9_injureBeside_44 rfl (lv_at hl 0 rfl) ?_
          refine va_get (D := (dC, dI)) (ci := 9) (v := .ref (a 5)) (C := RX9) (T := TX9) (N := 6) hx hb hts in_X9_injureBeside_X9 hown hK hP 0 rfl rfl 5 (by decide) (hts _ lk_X9_injureBeside_RX9_24) (fun _ h9 => h9) rfl dX9_injureBeside_45 ?_
          refine lv_iload hx hb dX9_injureBeside_48 (lv_at hl 3 rfl) ?_
          refine lv_iconst (v := 3) hx hb dX9_injureBeside_50 (by decide) ?_
          obtain ⟨h9, hf⟩ := gin_s hf
          refine wk_iast hx hb hK hP hD hS 5 0 (k := x5.toNatClampNeg) rfl rfl h9 rfl dX9_injureBeside_51 (fun g8 H locs eg8 hP hD hS => ?_)
          have hP : va_P (dC, dI) vwCl [(a 0, .inr (9, [.int T_count, .ref (a 1), .ref (a 2), .ref (a 3), .ref (a 4), .ref (a 5)])), (a 1, .inl (Y 0, 6, .inl T_weights)), (a 2, .inl (Y 0, 6, .inl T_strengths)), (a 3, .inl (Y 0, 6, .inl T_heights)), (a 4, .inl (Y 0, 6, .inl T_wages)), (a 5, .inl (Y 0, 6, .inl g8))] H := hP
          have hD : va_D A [(a 0, .inr (9, [.int T_count, .ref (a 1), .ref (a 2), .ref (a 3), .ref (a 4), .ref (a 5)])), (a 1, .inl (Y 0, 6, .inl T_weights)), (a 2, .inl (Y 0, 6, .inl T_strengths)), (a 3, .inl (Y 0, 6, .inl T_heights)), (a 4, .inl (Y 0, 6, .inl T_wages)), (a 5, .inl (Y 0, 6, .inl g8))] := hD
          have hf := wkl_s hf eg8
          refine lv_iinc (v := (x5 + 1)) (lv' := [(5, .int (x5 + 1)), (0, .ref (a 0)), (1, .int x1), (4, .int x4)]) hx hb dX9_injureBeside_52 hl (k := 3) rfl rfl (by decide) rfl (fun ls hl => ?_)
          refine lv_goto (tgt := 13) hx hb dX9_injureBeside_55 (by decide) ?_
          exact ih x4 (x5 + 1) g8 hf H locs hP hD hS ls (lv_sub hl [1, 2, 3, 0] rfl)
set_option maxHeartbeats 4000000 in
set_option maxRecDepth 100000 in
theorem c_X9_injureBeside (l : Launch) (dC : Nat → ClassId) (dI : Nat → Nat → Nat) (Y : Nat → ClassId) (a : Nat → Nat) (T_count : Int32) (T_weights : Nat → Int32) (T_strengths : Nat → Int32) (T_heights : Nat → Int32) (T_wages : Nat → Int32) (T_nightsToHeal : Nat → Int32) (x1 : Int32) (x2 : Int32) (x3 : Int32) (sz : Nat) (zT_nightsToHeal : Nat → Int32) (hf : f_X9_injureBeside T_count T_weights T_strengths T_nightsToHeal x1 x2 x3 = some (zT_nightsToHeal)) : Met l yX9_injureBeside wsX9_injureBeside ({ frames := 2, cells := 0, slots := 0, locals := 48 } : Room) (va_Pc [.ref (a 0), .int x1, .int x2, .int x3] (wk_E (dC, dI) Y (wX9 Y a T_count T_weights T_strengths T_heights T_wages T_nightsToHeal) sz)) (va_Qv (fun (_ : Unit) => True) (fun _ t => wk_X (dC, dI) Y (wX9 Y a T_count T_weights T_strengths T_heights T_wages zT_nightsToHeal) (va_A (wX9 Y a T_count T_weights T_strengths T_heights T_wages T_nightsToHeal) sz) t) (va_A (wX9 Y a T_count T_weights T_strengths T_heights T_wages T_nightsToHeal) sz)) 0 0 (va_A (wX9 Y a T_count T_weights T_strengths T_heights T_wages T_nightsToHeal) sz) := by
  refine Met.ofW (cc := cX9_injureBeside) (maxL := 6) (ret := none) (by decide) rfl ?_
  intro p e s m args below meth c s₁ B hml hv
  obtain ⟨rfl, hsz, hP, hK, hD0⟩ := hv
  have hx := B.exec
  have hb := B.bytes
  have hr := B.returns
  have hts := atoms_spec (ws := wsX9_injureBeside) B.pre
  have hown : s.vm.findClass RX9 = some m.cls := findClass_of_methodNamed B.named
  have hlocks := B.notSynchronized
  have C0 : wk_C p s m _ meth c cX9_injureBeside 6 none wsX9_injureBeside RX9 := ⟨hx, hb, hml, hr, hlocks, hown, hts⟩
  subst hsz
  have hD := hD0.self (sz := s.heap.size)
  generalize hAe : va_A (wX9 Y a T_count T_weights T_strengths T_heights T_wages T_nightsToHeal) s.heap.size = A at hD ⊢
  have hA : ∀ q : Nat, s.heap.size ≤ q → A q := fun q h => by rw [← hAe]; exact Or.inr h
  have hS : va_S A s.heap s.heap [] := va_S.rf
  obtain ⟨H, hHe⟩ : ∃ H, H = s.heap := ⟨_, rfl⟩
  have hS : va_S A s.heap H [] := by rw [hHe]; exact hS
  have hP : va_P (dC, dI) vwCl [(a 0, .inr (9, [.int T_count, .ref (a 1), .ref (a 2), .ref (a 3), .ref (a 4), .ref (a 5)])), (a 1, .inl (Y 0, 6, .inl T_weights)), (a 2, .inl (Y 0, 6, .inl T_strengths)), (a 3, .inl (Y 0, 6, .inl T_heights)), (a 4, .inl (Y 0, 6, .inl T_wages)), (a 5, .inl (Y 0, 6, .inl T_nightsToHeal))] H := by rw [hHe]; exact hP
  have hD : va_D A [(a 0, .inr (9, [.int T_count, .ref (a 1), .ref (a 2), .ref (a 3), .ref (a 4), .ref (a 5)])), (a 1, .inl (Y 0, 6, .inl T_weights)), (a 2, .inl (Y 0, 6, .inl T_strengths)), (a 3, .inl (Y 0, 6, .inl T_heights)), (a 4, .inl (Y 0, 6, .inl T_wages)), (a 5, .inl (Y 0, 6, .inl T_nightsToHeal))] := hD
  obtain ⟨locs, hlo⟩ : ∃ locs : List Loc, locs = [] := ⟨_, rfl⟩
  have hS : va_S A s.heap H locs := by rw [hlo]; exact hS
  have hl := lv_entry ([.ref (a 0), .int x1, .int x2, .int x3]) (n := 6) (Nat.le_of_ble_eq_true rfl)
  rw [lg_entry_eq]
  generalize (lg_sl ([.ref (a 0), .int x1, .int x2, .int x3]) ++ List.replicate (6 - (lg_sl ([.ref (a 0), .int x1, .int x2, .int x3])).length) Slot.unset).toArray = ls at hl ⊢
  have hl : lv_has ls 6 [(0, .ref (a 0)), (1, .int x1), (2, .int x2), (3, .int x3)] := hl
  refine wk_start hHe hlo ?_
  rw [f_X9_injureBeside] at hf
  refine lv_aload_n hx hb dX9_injureBeside_0 rfl (lv_at hl 0 rfl) ?_
  refine lv_iload_n hx hb dX9_injureBeside_1 rfl (lv_at hl 1 rfl) ?_
  refine lv_iload_n hx hb dX9_injureBeside_2 rfl (lv_at hl 2 rfl) ?_
  obtain ⟨r1, hr2, hf⟩ := wkb1_s hf
  have hPc := hP.sub (ws' := (wX9 Y a T_count T_weights T_strengths T_heights T_wages T_nightsToHeal)) [0, 1, 2, 3, 4, 5] rfl
  refine wk_vi (As := [.int x1, .int x2]) (rest := []) ⟨hx, hb, hml, hown, hts⟩ (c_X9_placeOf l dC dI Y a T_count T_weights T_strengths T_heights T_wages T_nightsToHeal x1 x2 r1 hr2) (cwV 2 hts gX9_injureBeside_X9_placeOf rfl rfl rfl (by decide +kernel) ⟨Nat.le_of_ble_eq_true rfl, Nat.le_of_ble_eq_true rfl⟩) hK hPc (va_recv hK hP (ci := 9) (q0 := 0) rfl rfl) rfl hl.1 rfl (Nat.le_of_ble_eq_true rfl) dX9_injureBeside_3 ⟨Nat.le_of_ble_eq_true rfl, Nat.le_of_ble_eq_true rfl⟩ ?_
  refine lv_iload_n hx hb dX9_injureBeside_6 rfl (lv_at hl 3 rfl) ?_
  refine lv_iadd hx hb dX9_injureBeside_7 ?_
  refine lv_istore (lv' := [(4, .int (r1 + x3)), (0, .ref (a 0)), (1, .int x1), (2, .int x2), (3, .int x3)]) hx hb dX9_injureBeside_8 hl (by decide) rfl (fun ls hl => ?_)
  refine lv_iconst (v := 0) hx hb dX9_injureBeside_10 (by decide) ?_
  refine lv_istore (lv' := [(5, .int 0), (4, .int (r1 + x3)), (0, .ref (a 0)), (1, .int x1), (2, .int x2), (3, .int x3)]) hx hb dX9_injureBeside_11 hl (by decide) rfl (fun ls hl => ?_)
  exact wl_X9_injureBeside_L13 C0 hK hA FU (r1 + x3) 0 T_nightsToHeal hf H locs hP hD hS ls (lv_sub hl [2, 3, 1, 0] rfl)
theorem lk_X9_memberAt_RX9_27 : Cond.fieldLink RX9 27 "CircusLedger$Troupe" "count" "I" ∈ wsX9_memberAt := by decide +kernel
theorem in_X9_memberAt_X9 : ∀ w ∈ u_ws RX9 TX9 6, w ∈ wsX9_memberAt := by decide +kernel
def f_X9_memberAt_L2 (T_count : Int32) (T_weights : Nat → Int32) (T_strengths : Nat → Int32) (x1 : Int32) (x2 : Int32) : Nat → Int32 → Option (Int32)
  | 0, _ => none
  | nn + 1, x3 =>
    if T_count ≤ x3 then
      (some ((-1)))
    else
      (wkb1 (f_X9_isMember T_count x1 x3) (fun r2 =>
      if r2 = 0 then
        (f_X9_memberAt_L2 T_count T_weights T_strengths x1 x2 nn (x3 + 1))
      else
        (wkb1 (f_X9_placeOf T_count T_weights T_strengths x1 x3) (fun r5 =>
        if r5 = x2 then
          (some (x3))
        else
          (f_X9_memberAt_L2 T_count T_weights T_strengths x1 x2 nn (x3 + 1))))))
def f_X9_memberAt (T_count : Int32) (T_weights : Nat → Int32) (T_strengths : Nat → Int32) (x1 : Int32) (x2 : Int32) : Option (Int32) :=
  f_X9_memberAt_L2 T_count T_weights T_strengths x1 x2 FU 0
set_option maxHeartbeats 4000000 in
set_option maxRecDepth 100000 in
theorem wl_X9_memberAt_L2 {p : Program} {l : Launch} {e : Env} {s : State} {m : MethodId} {args : Array Value} {below : List Frame} {meth : Method} {c : Code} {dC : Nat → ClassId} {dI : Nat → Nat → Nat} {Y : Nat → ClassId} {a : Nat → Nat} {T_count : Int32} {T_weights : Nat → Int32} {T_strengths : Nat → Int32} {T_heights : Nat → Int32} {T_wages : Nat → Int32} {T_nightsToHeal : Nat → Int32} {x1 : Int32} {x2 : Int32} {r : Int32}  (C0 : wk_C p s m args meth c cX9_memberAt 4 (some .int) wsX9_memberAt RX9) (hK : va_K (dC, dI) vwCl (vTy Y) s) (hP : va_P (dC, dI) vwCl (wX9 Y a T_count T_weights T_strengths T_heights T_wages T_nightsToHeal) s.heap) : ∀ (nn : Nat) (x3 : Int32)  , f_X9_memberAt_L2 T_count T_weights T_strengths x1 x2 nn x3 = some (r) → ∀ (ls : Array Slot), lv_has ls 4 [(0, .ref (a 0)), (1, .int x1), (2, .int x2), (3, .int x3)] → W p l e (headSpec wsX9_memberAt ({ frames := 2, cells := 0, slots := 0, locals := 48 } : Room)).room s m args below meth c s.heap [] 0 0 (MQ below (vp_Si (fun r2 => r2 = r)) args s 0 0 (fun _ => False)) (F0 m 2 ls []) := by
  have C0 := C0
  obtain ⟨hx, hb, hml, hr, hlocks, hown, hts⟩ := id C0
  intro nn
  induction nn with
  | zero =>
    intro x3 hf
    rw [f_X9_memberAt_L2] at hf
    cases hf
  | succ nn ih =>
    intro x3 hf ls hl
    rw [f_X9_memberAt_L2] at hf
    have hP : va_P (dC, dI) vwCl [(a 0, .inr (9, [.int T_count, .ref (a 1), .ref (a 2), .ref (a 3), .ref (a 4), .ref (a 5)])), (a 1, .inl (Y 0, 6, .inl T_weights)), (a 2, .inl (Y 0, 6, .inl T_strengths)), (a 3, .inl (Y 0, 6, .inl T_heights)), (a 4, .inl (Y 0, 6, .inl T_wages)), (a 5, .inl (Y 0, 6, .inl T_nightsToHeal))] s.heap := hP
    refine lv_iload_n hx hb dX9_memberAt_2 rfl (lv_at hl 3 rfl) ?_
    refine lv_aload_n hx hb dX9_memberAt_3 rfl (lv_at hl 0 rfl) ?_
    refine va_get (D := (dC, dI)) (ci := 9) (v := .int T_count) (C := RX9) (T := TX9) (N := 6) hx hb hts in_X9_memberAt_X9 hown hK hP 0 rfl rfl 0 (by decide) (hts _ lk_X9_memberAt_RX9_27) (fun _ h9 => h9) rfl dX9_memberAt_4 ?_
    refine lv_icmp_ge (tgt := 37) hx hb dX9_memberAt_7 (by decide) (fun q1 => ?_) (fun q1 => ?_)
    · have hf := wk_t hf q1
      refine lv_iconst (v := (-1)) hx hb dX9_memberAt_37 (by decide) ?_
      have e0 := wke1 hf
      subst e0
      exact W.iret (v := (-1)) hx hb hr (fun t ht hW => ⟨(-1), rfl, rfl, ht⟩) (fun q h => absurd h List.not_mem_nil) dX9_memberAt_38
    · have hf := wk_f hf q1
      refine lv_aload_n hx hb dX9_memberAt_10 rfl (lv_at hl 0 rfl) ?_
      refine lv_iload_n hx hb dX9_memberAt_11 rfl (lv_at hl 1 rfl) ?_
      refine lv_iload_n hx hb dX9_memberAt_12 rfl (lv_at hl 3 rfl) ?_
      obtain ⟨r2, hr3, hf⟩ := wkb1_s hf
      have hPc := hP.sub (ws' := (wX9 Y a T_count T_weights T_strengths T_heights T_wages T_nightsToHeal)) [0, 1, 2, 3, 4, 5] rfl
      refine wk_vi (As := [.int x1, .int x3]) (rest := []) ⟨hx, hb, hml, hown, hts⟩ (c_X9_isMember l dC dI Y a T_count T_weights T_strengths T_heights T_wages T_nightsToHeal x1 x3 r2 hr3) (cwV 2 hts gX9_memberAt_X9_isMember rfl rfl rfl (by decide +kernel) ⟨Nat.le_of_ble_eq_true rfl, Nat.le_of_ble_eq_true rfl⟩) hK hPc (va_recv hK hP (ci := 9) (q0 := 0) rfl rfl) rfl hl.1 rfl (Nat.le_of_ble_eq_true rfl) dX9_memberAt_13 ⟨Nat.le_of_ble_eq_true rfl, Nat.le_of_ble_eq_true rfl⟩ ?_
      refine lv_if_eq (tgt := 31) hx hb dX9_memberAt_16 (by decide) (fun q4 => ?_) (fun q4 => ?_)
      · have hf := wk_t hf q4
        refine lv_iinc (v := (x3 + 1)) (lv' := [(3, .int (x3 + 1)), (0, .ref (a 0)), (1, .int x1), (2, .int x2)]) hx hb dX9_memberAt_31 hl (k := 3) rfl rfl (by decide) rfl (fun ls hl => ?_)
        refine lv_goto (tgt := 2) hx hb dX9_memberAt_34 (by decide) ?_
        exact ih (x3 + 1) hf ls (lv_sub hl [1, 2, 3, 0] rfl)
      · have hf := wk_f hf q4
        refine lv_aload_n hx hb dX9_memberAt_19 rfl (lv_at hl 0 rfl) ?_
        refine lv_iload_n hx hb dX9_memberAt_20 rfl (lv_at hl 1 rfl) ?_
        refine lv_iload_n hx hb dX9_memberAt_21 rfl (lv_at hl 3 rfl) ?_
        obtain ⟨r5, hr6, hf⟩ := wkb1_s hf
        have hPc := hP.sub (ws' := (wX9 Y a T_count T_weights T_strengths T_heights T_wages T_nightsToHeal)) [0, 1, 2, 3, 4, 5] rfl
        refine wk_vi (As := [.int x1, .int x3]) (rest := []) ⟨hx, hb, hml, hown, hts⟩ (c_X9_placeOf l dC dI Y a T_count T_weights T_strengths T_heights T_wages T_nightsToHeal x1 x3 r5 hr6) (cwV 2 hts gX9_memberAt_X9_placeOf rfl rfl rfl (by decide +kernel) ⟨Nat.le_of_ble_eq_true rfl, Nat.le_of_ble_eq_true rfl⟩) hK hPc (va_recv hK hP (ci := 9) (q0 := 0) rfl rfl) rfl hl.1 rfl (Nat.le_of_ble_eq_true rfl) dX9_memberAt_22 ⟨Nat.le_of_ble_eq_true rfl, Nat.le_of_ble_eq_true rfl⟩ ?_
        refine lv_iload_n hx hb dX9_memberAt_25 rfl (lv_at hl 2 rfl) ?_
        refine lv_icmp_ne (tgt := 31) hx hb dX9_memberAt_26 (by decide) (fun q7 => ?_) (fun q7 => ?_)
        · have hf := wk_f hf q7
          refine lv_iinc (v := (x3 + 1)) (lv' := [(3, .int (x3 + 1)), (0, .ref (a 0)), (1, .int x1), (2, .int x2)]) hx hb dX9_memberAt_31 hl (k := 3) rfl rfl (by decide) rfl (fun ls hl => ?_)
          refine lv_goto (tgt := 2) hx hb dX9_memberAt_34 (by decide) ?_
          exact ih (x3 + 1) hf ls (lv_sub hl [1, 2, 3, 0] rfl)
        · have hf := wk_t hf q7
          refine lv_iload_n hx hb dX9_memberAt_29 rfl (lv_at hl 3 rfl) ?_
          have e0 := wke1 hf
          subst e0
          exact W.iret (v := x3) hx hb hr (fun t ht hW => ⟨x3, rfl, rfl, ht⟩) (fun q h => absurd h List.not_mem_nil) dX9_memberAt_30
set_option maxHeartbeats 4000000 in
set_option maxRecDepth 100000 in
theorem c_X9_memberAt (l : Launch) (dC : Nat → ClassId) (dI : Nat → Nat → Nat) (Y : Nat → ClassId) (a : Nat → Nat) (T_count : Int32) (T_weights : Nat → Int32) (T_strengths : Nat → Int32) (T_heights : Nat → Int32) (T_wages : Nat → Int32) (T_nightsToHeal : Nat → Int32) (x1 : Int32) (x2 : Int32) (r : Int32) (hf : f_X9_memberAt T_count T_weights T_strengths x1 x2 = some (r)) : Met l yX9_memberAt wsX9_memberAt ({ frames := 2, cells := 0, slots := 0, locals := 48 } : Room) (va_Pc [.ref (a 0), .int x1, .int x2] (wk_B (dC, dI) Y (wX9 Y a T_count T_weights T_strengths T_heights T_wages T_nightsToHeal))) (vp_Si (fun r2 => r2 = r)) 0 0 (fun _ => False) := by
  refine Met.ofW (cc := cX9_memberAt) (maxL := 4) (ret := (some .int)) (by decide) rfl ?_
  intro p e s m args below meth c s₁ B hml hv
  obtain ⟨rfl, hP, hK⟩ := hv
  have hx := B.exec
  have hb := B.bytes
  have hr := B.returns
  have hts := atoms_spec (ws := wsX9_memberAt) B.pre
  have hown : s.vm.findClass RX9 = some m.cls := findClass_of_methodNamed B.named
  have hlocks := B.notSynchronized
  have C0 : wk_C p s m _ meth c cX9_memberAt 4 (some .int) wsX9_memberAt RX9 := ⟨hx, hb, hml, hr, hlocks, hown, hts⟩
  have hP : va_P (dC, dI) vwCl [(a 0, .inr (9, [.int T_count, .ref (a 1), .ref (a 2), .ref (a 3), .ref (a 4), .ref (a 5)])), (a 1, .inl (Y 0, 6, .inl T_weights)), (a 2, .inl (Y 0, 6, .inl T_strengths)), (a 3, .inl (Y 0, 6, .inl T_heights)), (a 4, .inl (Y 0, 6, .inl T_wages)), (a 5, .inl (Y 0, 6, .inl T_nightsToHeal))] s.heap := hP
  have hl := lv_entry ([.ref (a 0), .int x1, .int x2]) (n := 4) (Nat.le_of_ble_eq_true rfl)
  rw [lg_entry_eq]
  generalize (lg_sl ([.ref (a 0), .int x1, .int x2]) ++ List.replicate (4 - (lg_sl ([.ref (a 0), .int x1, .int x2])).length) Slot.unset).toArray = ls at hl ⊢
  have hl : lv_has ls 4 [(0, .ref (a 0)), (1, .int x1), (2, .int x2)] := hl
  rw [f_X9_memberAt] at hf
  refine lv_iconst (v := 0) hx hb dX9_memberAt_0 (by decide) ?_
  refine lv_istore_n (lv' := [(3, .int 0), (0, .ref (a 0)), (1, .int x1), (2, .int x2)]) hx hb dX9_memberAt_1 rfl hl (by decide) rfl (fun ls hl => ?_)
  exact wl_X9_memberAt_L2 C0 hK hP FU 0 hf ls (lv_sub hl [1, 2, 3, 0] rfl)
theorem lk_X9_loadOf_RX9_9 : Cond.fieldLink RX9 9 "CircusLedger$Troupe" "weights" "[I" ∈ wsX9_loadOf := by decide +kernel
theorem lk_X9_loadOf_RX9_27 : Cond.fieldLink RX9 27 "CircusLedger$Troupe" "count" "I" ∈ wsX9_loadOf := by decide +kernel
theorem in_X9_loadOf_X9 : ∀ w ∈ u_ws RX9 TX9 6, w ∈ wsX9_loadOf := by decide +kernel
def f_X9_loadOf_L5 (T_count : Int32) (T_weights : Nat → Int32) (T_strengths : Nat → Int32) (x1 : Int32) (x2 : Int32) : Nat → Int32 → Int32 → Option (Int32)
  | 0, _, _ => none
  | nn + 1, x3, x4 =>
    if T_count ≤ x4 then
      (some (x3))
    else
      (wkb1 (f_X9_isMember T_count x1 x4) (fun r2 =>
      if r2 = 0 then
        (f_X9_loadOf_L5 T_count T_weights T_strengths x1 x2 nn x3 (x4 + 1))
      else
        (wkb1 (f_X9_isBelow T_weights T_strengths x2 x4) (fun r5 =>
        if r5 = 0 then
          (f_X9_loadOf_L5 T_count T_weights T_strengths x1 x2 nn x3 (x4 + 1))
        else
          (gin x4 6 (f_X9_loadOf_L5 T_count T_weights T_strengths x1 x2 nn (x3 + (T_weights x4.toNatClampNeg)) (x4 + 1)))))))
def f_X9_loadOf (T_count : Int32) (T_weights : Nat → Int32) (T_strengths : Nat → Int32) (x1 : Int32) (x2 : Int32) : Option (Int32) :=
  f_X9_loadOf_L5 T_count T_weights T_strengths x1 x2 FU 0 0
set_option maxHeartbeats 4000000 in
set_option maxRecDepth 100000 in
theorem wl_X9_loadOf_L5 {p : Program} {l : Launch} {e : Env} {s : State} {m : MethodId} {args : Array Value} {below : List Frame} {meth : Method} {c : Code} {dC : Nat → ClassId} {dI : Nat → Nat → Nat} {Y : Nat → ClassId} {a : Nat → Nat} {T_count : Int32} {T_weights : Nat → Int32} {T_strengths : Nat → Int32} {T_heights : Nat → Int32} {T_wages : Nat → Int32} {T_nightsToHeal : Nat → Int32} {x1 : Int32} {x2 : Int32} {r : Int32}  (C0 : wk_C p s m args meth c cX9_loadOf 5 (some .int) wsX9_loadOf RX9) (hK : va_K (dC, dI) vwCl (vTy Y) s) (hP : va_P (dC, dI) vwCl (wX9 Y a T_count T_weights T_strengths T_heights T_wages T_nightsToHeal) s.heap) : ∀ (nn : Nat) (x3 : Int32) (x4 : Int32)  , f_X9_loadOf_L5 T_count T_weights T_strengths x1 x2 nn x3 x4 = some (r) → ∀ (ls : Array Slot), lv_has ls 5 [(0, .ref (a 0)), (1, .int x1), (2, .int x2), (3, .int x3), (4, .int x4)] → W p l e (headSpec wsX9_loadOf ({ frames := 1, cells := 0, slots := 0, locals := 24 } : Room)).room s m args below meth c s.heap [] 0 0 (MQ below (vp_Si (fun r2 => r2 = r)) args s 0 0 (fun _ => False)) (F0 m 5 ls []) := by
  have C0 := C0
  obtain ⟨hx, hb, hml, hr, hlocks, hown, hts⟩ := id C0
  intro nn
  induction nn with
  | zero =>
    intro x3 x4 hf
    rw [f_X9_loadOf_L5] at hf
    cases hf
  | succ nn ih =>
    intro x3 x4 hf ls hl
    rw [f_X9_loadOf_L5] at hf
    have hP : va_P (dC, dI) vwCl [(a 0, .inr (9, [.int T_count, .ref (a 1), .ref (a 2), .ref (a 3), .ref (a 4), .ref (a 5)])), (a 1, .inl (Y 0, 6, .inl T_weights)), (a 2, .inl (Y 0, 6, .inl T_strengths)), (a 3, .inl (Y 0, 6, .inl T_heights)), (a 4, .inl (Y 0, 6, .inl T_wages)), (a 5, .inl (Y 0, 6, .inl T_nightsToHeal))] s.heap := hP
    refine lv_iload hx hb dX9_loadOf_5 (lv_at hl 4 rfl) ?_
    refine lv_aload_n hx hb dX9_loadOf_7 rfl (lv_at hl 0 rfl) ?_
    refine va_get (D := (dC, dI)) (ci := 9) (v := .int T_count) (C := RX9) (T := TX9) (N := 6) hx hb hts in_X9_loadOf_X9 hown hK hP 0 rfl rfl 0 (by decide) (hts _ lk_X9_loadOf_RX9_27) (fun _ h9 => h9) rfl dX9_loadOf_8 ?_
    refine lv_icmp_ge (tgt := 50) hx hb dX9_loadOf_11 (by decide) (fun q1 => ?_) (fun q1 => ?_)
    · have hf := wk_t hf q1
      refine lv_iload_n hx hb dX9_loadOf_50 rfl (lv_at hl 3 rfl) ?_
      have e0 := wke1 hf
      subst e0
      exact W.iret (v := x3) hx hb hr (fun t ht hW => ⟨x3, rfl, rfl, ht⟩) (fun q h => absurd h List.not_mem_nil) dX9_loadOf_51
    · have hf := wk_f hf q1
      refine lv_aload_n hx hb dX9_loadOf_14 rfl (lv_at hl 0 rfl) ?_
      refine lv_iload_n hx hb dX9_loadOf_15 rfl (lv_at hl 1 rfl) ?_
      refine lv_iload hx hb dX9_loadOf_16 (lv_at hl 4 rfl) ?_
      obtain ⟨r2, hr3, hf⟩ := wkb1_s hf
      have hPc := hP.sub (ws' := (wX9 Y a T_count T_weights T_strengths T_heights T_wages T_nightsToHeal)) [0, 1, 2, 3, 4, 5] rfl
      refine wk_vi (As := [.int x1, .int x4]) (rest := []) ⟨hx, hb, hml, hown, hts⟩ (c_X9_isMember l dC dI Y a T_count T_weights T_strengths T_heights T_wages T_nightsToHeal x1 x4 r2 hr3) (cwV 2 hts gX9_loadOf_X9_isMember rfl rfl rfl (by decide +kernel) ⟨Nat.le_of_ble_eq_true rfl, Nat.le_of_ble_eq_true rfl⟩) hK hPc (va_recv hK hP (ci := 9) (q0 := 0) rfl rfl) rfl hl.1 rfl (Nat.le_of_ble_eq_true rfl) dX9_loadOf_18 ⟨Nat.le_of_ble_eq_true rfl, Nat.le_of_ble_eq_true rfl⟩ ?_
      refine lv_if_eq (tgt := 44) hx hb dX9_loadOf_21 (by decide) (fun q4 => ?_) (fun q4 => ?_)
      · have hf := wk_t hf q4
        refine lv_iinc (v := (x4 + 1)) (lv' := [(4, .int (x4 + 1)), (0, .ref (a 0)), (1, .int x1), (2, .int x2), (3, .int x3)]) hx hb dX9_loadOf_44 hl (k := 4) rfl rfl (by decide) rfl (fun ls hl => ?_)
        refine lv_goto (tgt := 5) hx hb dX9_loadOf_47 (by decide) ?_
        exact ih x3 (x4 + 1) hf ls (lv_sub hl [1, 2, 3, 4, 0] rfl)
      · have hf := wk_f hf q4
        refine lv_aload_n hx hb dX9_loadOf_24 rfl (lv_at hl 0 rfl) ?_
        refine lv_iload_n hx hb dX9_loadOf_25 rfl (lv_at hl 2 rfl) ?_
        refine lv_iload hx hb dX9_loadOf_26 (lv_at hl 4 rfl) ?_
        obtain ⟨r5, hr6, hf⟩ := wkb1_s hf
        have hPc := hP.sub (ws' := (wX9 Y a T_count T_weights T_strengths T_heights T_wages T_nightsToHeal)) [0, 1, 2, 3, 4, 5] rfl
        refine wk_vi (As := [.int x2, .int x4]) (rest := []) ⟨hx, hb, hml, hown, hts⟩ (c_X9_isBelow l dC dI Y a T_count T_weights T_strengths T_heights T_wages T_nightsToHeal x2 x4 r5 hr6) (cwV 2 hts gX9_loadOf_X9_isBelow rfl rfl rfl (by decide +kernel) ⟨Nat.le_of_ble_eq_true rfl, Nat.le_of_ble_eq_true rfl⟩) hK hPc (va_recv hK hP (ci := 9) (q0 := 0) rfl rfl) rfl hl.1 rfl (Nat.le_of_ble_eq_true rfl) dX9_loadOf_28 ⟨Nat.le_of_ble_eq_true rfl, Nat.le_of_ble_eq_true rfl⟩ ?_
        refine lv_if_eq (tgt := 44) hx hb dX9_loadOf_31 (by decide) (fun q7 => ?_) (fun q7 => ?_)
        · have hf := wk_t hf q7
          refine lv_iinc (v := (x4 + 1)) (lv' := [(4, .int (x4 + 1)), (0, .ref (a 0)), (1, .int x1), (2, .int x2), (3, .int x3)]) hx hb dX9_loadOf_44 hl (k := 4) rfl rfl (by decide) rfl (fun ls hl => ?_)
          refine lv_goto (tgt := 5) hx hb dX9_loadOf_47 (by decide) ?_
          exact ih x3 (x4 + 1) hf ls (lv_sub hl [1, 2, 3, 4, 0] rfl)
        · have hf := wk_f hf q7
          refine lv_iload_n hx hb dX9_loadOf_34 rfl (lv_at hl 3 rfl) ?_
          refine lv_aload_n hx hb dX9_loadOf_35 rfl (lv_at hl 0 rfl) ?_
          refine va_get (D := (dC, dI)) (ci := 9) (v := .ref (a 1)) (C := RX9) (T := TX9) (N := 6) hx hb hts in_X9_loadOf_X9 hown hK hP 0 rfl rfl 1 (by decide) (hts _ lk_X9_loadOf_RX9_9) (fun _ h9 => h9) rfl dX9_loadOf_36 ?_
          refine lv_iload hx hb dX9_loadOf_39 (lv_at hl 4 rfl) ?_
          obtain ⟨h8, hf⟩ := gin_s hf
          refine wk_iald hx hb hK hP 1 0 rfl rfl h8 rfl dX9_loadOf_41 ?_
          refine lv_iadd hx hb dX9_loadOf_42 ?_
          refine lv_istore_n (lv' := [(3, .int (x3 + (T_weights x4.toNatClampNeg))), (0, .ref (a 0)), (1, .int x1), (2, .int x2), (4, .int x4)]) hx hb dX9_loadOf_43 rfl hl (by decide) rfl (fun ls hl => ?_)
          refine lv_iinc (v := (x4 + 1)) (lv' := [(4, .int (x4 + 1)), (3, .int (x3 + (T_weights x4.toNatClampNeg))), (0, .ref (a 0)), (1, .int x1), (2, .int x2)]) hx hb dX9_loadOf_44 hl (k := 4) rfl rfl (by decide) rfl (fun ls hl => ?_)
          refine lv_goto (tgt := 5) hx hb dX9_loadOf_47 (by decide) ?_
          exact ih (x3 + (T_weights x4.toNatClampNeg)) (x4 + 1) hf ls (lv_sub hl [2, 3, 4, 1, 0] rfl)
set_option maxHeartbeats 4000000 in
set_option maxRecDepth 100000 in
theorem c_X9_loadOf (l : Launch) (dC : Nat → ClassId) (dI : Nat → Nat → Nat) (Y : Nat → ClassId) (a : Nat → Nat) (T_count : Int32) (T_weights : Nat → Int32) (T_strengths : Nat → Int32) (T_heights : Nat → Int32) (T_wages : Nat → Int32) (T_nightsToHeal : Nat → Int32) (x1 : Int32) (x2 : Int32) (r : Int32) (hf : f_X9_loadOf T_count T_weights T_strengths x1 x2 = some (r)) : Met l yX9_loadOf wsX9_loadOf ({ frames := 1, cells := 0, slots := 0, locals := 24 } : Room) (va_Pc [.ref (a 0), .int x1, .int x2] (wk_B (dC, dI) Y (wX9 Y a T_count T_weights T_strengths T_heights T_wages T_nightsToHeal))) (vp_Si (fun r2 => r2 = r)) 0 0 (fun _ => False) := by
  refine Met.ofW (cc := cX9_loadOf) (maxL := 5) (ret := (some .int)) (by decide) rfl ?_
  intro p e s m args below meth c s₁ B hml hv
  obtain ⟨rfl, hP, hK⟩ := hv
  have hx := B.exec
  have hb := B.bytes
  have hr := B.returns
  have hts := atoms_spec (ws := wsX9_loadOf) B.pre
  have hown : s.vm.findClass RX9 = some m.cls := findClass_of_methodNamed B.named
  have hlocks := B.notSynchronized
  have C0 : wk_C p s m _ meth c cX9_loadOf 5 (some .int) wsX9_loadOf RX9 := ⟨hx, hb, hml, hr, hlocks, hown, hts⟩
  have hP : va_P (dC, dI) vwCl [(a 0, .inr (9, [.int T_count, .ref (a 1), .ref (a 2), .ref (a 3), .ref (a 4), .ref (a 5)])), (a 1, .inl (Y 0, 6, .inl T_weights)), (a 2, .inl (Y 0, 6, .inl T_strengths)), (a 3, .inl (Y 0, 6, .inl T_heights)), (a 4, .inl (Y 0, 6, .inl T_wages)), (a 5, .inl (Y 0, 6, .inl T_nightsToHeal))] s.heap := hP
  have hl := lv_entry ([.ref (a 0), .int x1, .int x2]) (n := 5) (Nat.le_of_ble_eq_true rfl)
  rw [lg_entry_eq]
  generalize (lg_sl ([.ref (a 0), .int x1, .int x2]) ++ List.replicate (5 - (lg_sl ([.ref (a 0), .int x1, .int x2])).length) Slot.unset).toArray = ls at hl ⊢
  have hl : lv_has ls 5 [(0, .ref (a 0)), (1, .int x1), (2, .int x2)] := hl
  rw [f_X9_loadOf] at hf
  refine lv_iconst (v := 0) hx hb dX9_loadOf_0 (by decide) ?_
  refine lv_istore_n (lv' := [(3, .int 0), (0, .ref (a 0)), (1, .int x1), (2, .int x2)]) hx hb dX9_loadOf_1 rfl hl (by decide) rfl (fun ls hl => ?_)
  refine lv_iconst (v := 0) hx hb dX9_loadOf_2 (by decide) ?_
  refine lv_istore (lv' := [(4, .int 0), (3, .int 0), (0, .ref (a 0)), (1, .int x1), (2, .int x2)]) hx hb dX9_loadOf_3 hl (by decide) rfl (fun ls hl => ?_)
  exact wl_X9_loadOf_L5 C0 hK hP FU 0 0 hf ls (lv_sub hl [2, 3, 4, 1, 0] rfl)
theorem lk_X9_heightOf_RX9_18 : Cond.fieldLink RX9 18 "CircusLedger$Troupe" "heights" "[I" ∈ wsX9_heightOf := by decide +kernel
theorem lk_X9_heightOf_RX9_27 : Cond.fieldLink RX9 27 "CircusLedger$Troupe" "count" "I" ∈ wsX9_heightOf := by decide +kernel
theorem in_X9_heightOf_X9 : ∀ w ∈ u_ws RX9 TX9 6, w ∈ wsX9_heightOf := by decide +kernel
def f_X9_heightOf_L4 (T_count : Int32) (T_heights : Nat → Int32) (x1 : Int32) : Nat → Int32 → Int32 → Option (Int32)
  | 0, _, _ => none
  | nn + 1, x2, x3 =>
    if T_count ≤ x3 then
      (some (x2))
    else
      (wkb1 (f_X9_isMember T_count x1 x3) (fun r2 =>
      if r2 = 0 then
        (f_X9_heightOf_L4 T_count T_heights x1 nn x2 (x3 + 1))
      else
        (gin x3 6 (f_X9_heightOf_L4 T_count T_heights x1 nn (x2 + (T_heights x3.toNatClampNeg)) (x3 + 1)))))
def f_X9_heightOf (T_count : Int32) (T_heights : Nat → Int32) (x1 : Int32) : Option (Int32) :=
  f_X9_heightOf_L4 T_count T_heights x1 FU 0 0
set_option maxHeartbeats 4000000 in
set_option maxRecDepth 100000 in
theorem wl_X9_heightOf_L4 {p : Program} {l : Launch} {e : Env} {s : State} {m : MethodId} {args : Array Value} {below : List Frame} {meth : Method} {c : Code} {dC : Nat → ClassId} {dI : Nat → Nat → Nat} {Y : Nat → ClassId} {a : Nat → Nat} {T_count : Int32} {T_weights : Nat → Int32} {T_strengths : Nat → Int32} {T_heights : Nat → Int32} {T_wages : Nat → Int32} {T_nightsToHeal : Nat → Int32} {x1 : Int32} {r : Int32}  (C0 : wk_C p s m args meth c cX9_heightOf 4 (some .int) wsX9_heightOf RX9) (hK : va_K (dC, dI) vwCl (vTy Y) s) (hP : va_P (dC, dI) vwCl (wX9 Y a T_count T_weights T_strengths T_heights T_wages T_nightsToHeal) s.heap) : ∀ (nn : Nat) (x2 : Int32) (x3 : Int32)  , f_X9_heightOf_L4 T_count T_heights x1 nn x2 x3 = some (r) → ∀ (ls : Array Slot), lv_has ls 4 [(0, .ref (a 0)), (1, .int x1), (2, .int x2), (3, .int x3)] → W p l e (headSpec wsX9_heightOf ({ frames := 1, cells := 0, slots := 0, locals := 22 } : Room)).room s m args below meth c s.heap [] 0 0 (MQ below (vp_Si (fun r2 => r2 = r)) args s 0 0 (fun _ => False)) (F0 m 4 ls []) := by
  have C0 := C0
  obtain ⟨hx, hb, hml, hr, hlocks, hown, hts⟩ := id C0
  intro nn
  induction nn with
  | zero =>
    intro x2 x3 hf
    rw [f_X9_heightOf_L4] at hf
    cases hf
  | succ nn ih =>
    intro x2 x3 hf ls hl
    rw [f_X9_heightOf_L4] at hf
    have hP : va_P (dC, dI) vwCl [(a 0, .inr (9, [.int T_count, .ref (a 1), .ref (a 2), .ref (a 3), .ref (a 4), .ref (a 5)])), (a 1, .inl (Y 0, 6, .inl T_weights)), (a 2, .inl (Y 0, 6, .inl T_strengths)), (a 3, .inl (Y 0, 6, .inl T_heights)), (a 4, .inl (Y 0, 6, .inl T_wages)), (a 5, .inl (Y 0, 6, .inl T_nightsToHeal))] s.heap := hP
    refine lv_iload_n hx hb dX9_heightOf_4 rfl (lv_at hl 3 rfl) ?_
    refine lv_aload_n hx hb dX9_heightOf_5 rfl (lv_at hl 0 rfl) ?_
    refine va_get (D := (dC, dI)) (ci := 9) (v := .int T_count) (C := RX9) (T := TX9) (N := 6) hx hb hts in_X9_heightOf_X9 hown hK hP 0 rfl rfl 0 (by decide) (hts _ lk_X9_heightOf_RX9_27) (fun _ h9 => h9) rfl dX9_heightOf_6 ?_
    refine lv_icmp_ge (tgt := 36) hx hb dX9_heightOf_9 (by decide) (fun q1 => ?_) (fun q1 => ?_)
    · have hf := wk_t hf q1
      refine lv_iload_n hx hb dX9_heightOf_36 rfl (lv_at hl 2 rfl) ?_
      have e0 := wke1 hf
      subst e0
      exact W.iret (v := x2) hx hb hr (fun t ht hW => ⟨x2, rfl, rfl, ht⟩) (fun q h => absurd h List.not_mem_nil) dX9_heightOf_37
    · have hf := wk_f hf q1
      refine lv_aload_n hx hb dX9_heightOf_12 rfl (lv_at hl 0 rfl) ?_
      refine lv_iload_n hx hb dX9_heightOf_13 rfl (lv_at hl 1 rfl) ?_
      refine lv_iload_n hx hb dX9_heightOf_14 rfl (lv_at hl 3 rfl) ?_
      obtain ⟨r2, hr3, hf⟩ := wkb1_s hf
      have hPc := hP.sub (ws' := (wX9 Y a T_count T_weights T_strengths T_heights T_wages T_nightsToHeal)) [0, 1, 2, 3, 4, 5] rfl
      refine wk_vi (As := [.int x1, .int x3]) (rest := []) ⟨hx, hb, hml, hown, hts⟩ (c_X9_isMember l dC dI Y a T_count T_weights T_strengths T_heights T_wages T_nightsToHeal x1 x3 r2 hr3) (cwV 2 hts gX9_heightOf_X9_isMember rfl rfl rfl (by decide +kernel) ⟨Nat.le_of_ble_eq_true rfl, Nat.le_of_ble_eq_true rfl⟩) hK hPc (va_recv hK hP (ci := 9) (q0 := 0) rfl rfl) rfl hl.1 rfl (Nat.le_of_ble_eq_true rfl) dX9_heightOf_15 ⟨Nat.le_of_ble_eq_true rfl, Nat.le_of_ble_eq_true rfl⟩ ?_
      refine lv_if_eq (tgt := 30) hx hb dX9_heightOf_18 (by decide) (fun q4 => ?_) (fun q4 => ?_)
      · have hf := wk_t hf q4
        refine lv_iinc (v := (x3 + 1)) (lv' := [(3, .int (x3 + 1)), (0, .ref (a 0)), (1, .int x1), (2, .int x2)]) hx hb dX9_heightOf_30 hl (k := 3) rfl rfl (by decide) rfl (fun ls hl => ?_)
        refine lv_goto (tgt := 4) hx hb dX9_heightOf_33 (by decide) ?_
        exact ih x2 (x3 + 1) hf ls (lv_sub hl [1, 2, 3, 0] rfl)
      · have hf := wk_f hf q4
        refine lv_iload_n hx hb dX9_heightOf_21 rfl (lv_at hl 2 rfl) ?_
        refine lv_aload_n hx hb dX9_heightOf_22 rfl (lv_at hl 0 rfl) ?_
        refine va_get (D := (dC, dI)) (ci := 9) (v := .ref (a 3)) (C := RX9) (T := TX9) (N := 6) hx hb hts in_X9_heightOf_X9 hown hK hP 0 rfl rfl 3 (by decide) (hts _ lk_X9_heightOf_RX9_18) (fun _ h9 => h9) rfl dX9_heightOf_23 ?_
        refine lv_iload_n hx hb dX9_heightOf_26 rfl (lv_at hl 3 rfl) ?_
        obtain ⟨h5, hf⟩ := gin_s hf
        refine wk_iald hx hb hK hP 3 0 rfl rfl h5 rfl dX9_heightOf_27 ?_
        refine lv_iadd hx hb dX9_heightOf_28 ?_
        refine lv_istore_n (lv' := [(2, .int (x2 + (T_heights x3.toNatClampNeg))), (0, .ref (a 0)), (1, .int x1), (3, .int x3)]) hx hb dX9_heightOf_29 rfl hl (by decide) rfl (fun ls hl => ?_)
        refine lv_iinc (v := (x3 + 1)) (lv' := [(3, .int (x3 + 1)), (2, .int (x2 + (T_heights x3.toNatClampNeg))), (0, .ref (a 0)), (1, .int x1)]) hx hb dX9_heightOf_30 hl (k := 3) rfl rfl (by decide) rfl (fun ls hl => ?_)
        refine lv_goto (tgt := 4) hx hb dX9_heightOf_33 (by decide) ?_
        exact ih (x2 + (T_heights x3.toNatClampNeg)) (x3 + 1) hf ls (lv_sub hl [2, 3, 1, 0] rfl)
set_option maxHeartbeats 4000000 in
set_option maxRecDepth 100000 in
theorem c_X9_heightOf (l : Launch) (dC : Nat → ClassId) (dI : Nat → Nat → Nat) (Y : Nat → ClassId) (a : Nat → Nat) (T_count : Int32) (T_weights : Nat → Int32) (T_strengths : Nat → Int32) (T_heights : Nat → Int32) (T_wages : Nat → Int32) (T_nightsToHeal : Nat → Int32) (x1 : Int32) (r : Int32) (hf : f_X9_heightOf T_count T_heights x1 = some (r)) : Met l yX9_heightOf wsX9_heightOf ({ frames := 1, cells := 0, slots := 0, locals := 22 } : Room) (va_Pc [.ref (a 0), .int x1] (wk_B (dC, dI) Y (wX9 Y a T_count T_weights T_strengths T_heights T_wages T_nightsToHeal))) (vp_Si (fun r2 => r2 = r)) 0 0 (fun _ => False) := by
  refine Met.ofW (cc := cX9_heightOf) (maxL := 4) (ret := (some .int)) (by decide) rfl ?_
  intro p e s m args below meth c s₁ B hml hv
  obtain ⟨rfl, hP, hK⟩ := hv
  have hx := B.exec
  have hb := B.bytes
  have hr := B.returns
  have hts := atoms_spec (ws := wsX9_heightOf) B.pre
  have hown : s.vm.findClass RX9 = some m.cls := findClass_of_methodNamed B.named
  have hlocks := B.notSynchronized
  have C0 : wk_C p s m _ meth c cX9_heightOf 4 (some .int) wsX9_heightOf RX9 := ⟨hx, hb, hml, hr, hlocks, hown, hts⟩
  have hP : va_P (dC, dI) vwCl [(a 0, .inr (9, [.int T_count, .ref (a 1), .ref (a 2), .ref (a 3), .ref (a 4), .ref (a 5)])), (a 1, .inl (Y 0, 6, .inl T_weights)), (a 2, .inl (Y 0, 6, .inl T_strengths)), (a 3, .inl (Y 0, 6, .inl T_heights)), (a 4, .inl (Y 0, 6, .inl T_wages)), (a 5, .inl (Y 0, 6, .inl T_nightsToHeal))] s.heap := hP
  have hl := lv_entry ([.ref (a 0), .int x1]) (n := 4) (Nat.le_of_ble_eq_true rfl)
  rw [lg_entry_eq]
  generalize (lg_sl ([.ref (a 0), .int x1]) ++ List.replicate (4 - (lg_sl ([.ref (a 0), .int x1])).length) Slot.unset).toArray = ls at hl ⊢
  have hl : lv_has ls 4 [(0, .ref (a 0)), (1, .int x1)] := hl
  rw [f_X9_heightOf] at hf
  refine lv_iconst (v := 0) hx hb dX9_heightOf_0 (by decide) ?_
  refine lv_istore_n (lv' := [(2, .int 0), (0, .ref (a 0)), (1, .int x1)]) hx hb dX9_heightOf_1 rfl hl (by decide) rfl (fun ls hl => ?_)
  refine lv_iconst (v := 0) hx hb dX9_heightOf_2 (by decide) ?_
  refine lv_istore_n (lv' := [(3, .int 0), (2, .int 0), (0, .ref (a 0)), (1, .int x1)]) hx hb dX9_heightOf_3 rfl hl (by decide) rfl (fun ls hl => ?_)
  exact wl_X9_heightOf_L4 C0 hK hP FU 0 0 hf ls (lv_sub hl [2, 3, 1, 0] rfl)
theorem lk_X9_overloadedOf_RX9_15 : Cond.fieldLink RX9 15 "CircusLedger$Troupe" "strengths" "[I" ∈ wsX9_overloadedOf := by decide +kernel
theorem lk_X9_overloadedOf_RX9_27 : Cond.fieldLink RX9 27 "CircusLedger$Troupe" "count" "I" ∈ wsX9_overloadedOf := by decide +kernel
theorem in_X9_overloadedOf_X9 : ∀ w ∈ u_ws RX9 TX9 6, w ∈ wsX9_overloadedOf := by decide +kernel
def f_X9_overloadedOf_L4 (T_count : Int32) (T_weights : Nat → Int32) (T_strengths : Nat → Int32) (x1 : Int32) : Nat → Int32 → Int32 → Option (Int32)
  | 0, _, _ => none
  | nn + 1, x2, x3 =>
    if T_count ≤ x3 then
      (some (x2))
    else
      (wkb1 (f_X9_isMember T_count x1 x3) (fun r2 =>
      if r2 = 0 then
        (f_X9_overloadedOf_L4 T_count T_weights T_strengths x1 nn x2 (x3 + 1))
      else
        (wkb1 (f_X9_loadOf T_count T_weights T_strengths x1 x3) (fun r5 =>
        gin x3 6 (if r5 ≤ (T_strengths x3.toNatClampNeg) then
          (f_X9_overloadedOf_L4 T_count T_weights T_strengths x1 nn x2 (x3 + 1))
        else
          (if x2 = (-1) then
            (f_X9_overloadedOf_L4 T_count T_weights T_strengths x1 nn x3 (x3 + 1))
          else
            (wkb1 (f_X9_isBelow T_weights T_strengths x3 x2) (fun r10 =>
            if r10 = 0 then
              (f_X9_overloadedOf_L4 T_count T_weights T_strengths x1 nn x2 (x3 + 1))
            else
              (f_X9_overloadedOf_L4 T_count T_weights T_strengths x1 nn x3 (x3 + 1))))))))))
def f_X9_overloadedOf (T_count : Int32) (T_weights : Nat → Int32) (T_strengths : Nat → Int32) (x1 : Int32) : Option (Int32) :=
  f_X9_overloadedOf_L4 T_count T_weights T_strengths x1 FU (-1) 0
set_option maxHeartbeats 4000000 in
set_option maxRecDepth 100000 in
theorem wl_X9_overloadedOf_L4 {p : Program} {l : Launch} {e : Env} {s : State} {m : MethodId} {args : Array Value} {below : List Frame} {meth : Method} {c : Code} {dC : Nat → ClassId} {dI : Nat → Nat → Nat} {Y : Nat → ClassId} {a : Nat → Nat} {T_count : Int32} {T_weights : Nat → Int32} {T_strengths : Nat → Int32} {T_heights : Nat → Int32} {T_wages : Nat → Int32} {T_nightsToHeal : Nat → Int32} {x1 : Int32} {r : Int32}  (C0 : wk_C p s m args meth c cX9_overloadedOf 4 (some .int) wsX9_overloadedOf RX9) (hK : va_K (dC, dI) vwCl (vTy Y) s) (hP : va_P (dC, dI) vwCl (wX9 Y a T_count T_weights T_strengths T_heights T_wages T_nightsToHeal) s.heap) : ∀ (nn : Nat) (x2 : Int32) (x3 : Int32)  , f_X9_overloadedOf_L4 T_count T_weights T_strengths x1 nn x2 x3 = some (r) → ∀ (ls : Array Slot), lv_has ls 4 [(0, .ref (a 0)), (1, .int x1), (2, .int x2), (3, .int x3)] → W p l e (headSpec wsX9_overloadedOf ({ frames := 2, cells := 0, slots := 0, locals := 48 } : Room)).room s m args below meth c s.heap [] 0 0 (MQ below (vp_Si (fun r2 => r2 = r)) args s 0 0 (fun _ => False)) (F0 m 4 ls []) := by
  have C0 := C0
  obtain ⟨hx, hb, hml, hr, hlocks, hown, hts⟩ := id C0
  intro nn
  induction nn with
  | zero =>
    intro x2 x3 hf
    rw [f_X9_overloadedOf_L4] at hf
    cases hf
  | succ nn ih =>
    intro x2 x3 hf ls hl
    rw [f_X9_overloadedOf_L4] at hf
    have hP : va_P (dC, dI) vwCl [(a 0, .inr (9, [.int T_count, .ref (a 1), .ref (a 2), .ref (a 3), .ref (a 4), .ref (a 5)])), (a 1, .inl (Y 0, 6, .inl T_weights)), (a 2, .inl (Y 0, 6, .inl T_strengths)), (a 3, .inl (Y 0, 6, .inl T_heights)), (a 4, .inl (Y 0, 6, .inl T_wages)), (a 5, .inl (Y 0, 6, .inl T_nightsToHeal))] s.heap := hP
    refine lv_iload_n hx hb dX9_overloadedOf_4 rfl (lv_at hl 3 rfl) ?_
    refine lv_aload_n hx hb dX9_overloadedOf_5 rfl (lv_at hl 0 rfl) ?_
    refine va_get (D := (dC, dI)) (ci := 9) (v := .int T_count) (C := RX9) (T := TX9) (N := 6) hx hb hts in_X9_overloadedOf_X9 hown hK hP 0 rfl rfl 0 (by decide) (hts _ lk_X9_overloadedOf_RX9_27) (fun _ h9 => h9) rfl dX9_overloadedOf_6 ?_
    refine lv_icmp_ge (tgt := 58) hx hb dX9_overloadedOf_9 (by decide) (fun q1 => ?_) (fun q1 => ?_)
    · have hf := wk_t hf q1
      refine lv_iload_n hx hb dX9_overloadedOf_58 rfl (lv_at hl 2 rfl) ?_
      have e0 := wke1 hf
      subst e0
      exact W.iret (v := x2) hx hb hr (fun t ht hW => ⟨x2, rfl, rfl, ht⟩) (fun q h => absurd h List.not_mem_nil) dX9_overloadedOf_59
    · have hf := wk_f hf q1
      refine lv_aload_n hx hb dX9_overloadedOf_12 rfl (lv_at hl 0 rfl) ?_
      refine lv_iload_n hx hb dX9_overloadedOf_13 rfl (lv_at hl 1 rfl) ?_
      refine lv_iload_n hx hb dX9_overloadedOf_14 rfl (lv_at hl 3 rfl) ?_
      obtain ⟨r2, hr3, hf⟩ := wkb1_s hf
      have hPc := hP.sub (ws' := (wX9 Y a T_count T_weights T_strengths T_heights T_wages T_nightsToHeal)) [0, 1, 2, 3, 4, 5] rfl
      refine wk_vi (As := [.int x1, .int x3]) (rest := []) ⟨hx, hb, hml, hown, hts⟩ (c_X9_isMember l dC dI Y a T_count T_weights T_strengths T_heights T_wages T_nightsToHeal x1 x3 r2 hr3) (cwV 2 hts gX9_overloadedOf_X9_isMember rfl rfl rfl (by decide +kernel) ⟨Nat.le_of_ble_eq_true rfl, Nat.le_of_ble_eq_true rfl⟩) hK hPc (va_recv hK hP (ci := 9) (q0 := 0) rfl rfl) rfl hl.1 rfl (Nat.le_of_ble_eq_true rfl) dX9_overloadedOf_15 ⟨Nat.le_of_ble_eq_true rfl, Nat.le_of_ble_eq_true rfl⟩ ?_
      refine lv_if_eq (tgt := 52) hx hb dX9_overloadedOf_18 (by decide) (fun q4 => ?_) (fun q4 => ?_)
      · have hf := wk_t hf q4
        refine lv_iinc (v := (x3 + 1)) (lv' := [(3, .int (x3 + 1)), (0, .ref (a 0)), (1, .int x1), (2, .int x2)]) hx hb dX9_overloadedOf_52 hl (k := 3) rfl rfl (by decide) rfl (fun ls hl => ?_)
        refine lv_goto (tgt := 4) hx hb dX9_overloadedOf_55 (by decide) ?_
        exact ih x2 (x3 + 1) hf ls (lv_sub hl [1, 2, 3, 0] rfl)
      · have hf := wk_f hf q4
        refine lv_aload_n hx hb dX9_overloadedOf_21 rfl (lv_at hl 0 rfl) ?_
        refine lv_iload_n hx hb dX9_overloadedOf_22 rfl (lv_at hl 1 rfl) ?_
        refine lv_iload_n hx hb dX9_overloadedOf_23 rfl (lv_at hl 3 rfl) ?_
        obtain ⟨r5, hr6, hf⟩ := wkb1_s hf
        have hPc := hP.sub (ws' := (wX9 Y a T_count T_weights T_strengths T_heights T_wages T_nightsToHeal)) [0, 1, 2, 3, 4, 5] rfl
        refine wk_vi (As := [.int x1, .int x3]) (rest := []) ⟨hx, hb, hml, hown, hts⟩ (c_X9_loadOf l dC dI Y a T_count T_weights T_strengths T_heights T_wages T_nightsToHeal x1 x3 r5 hr6) (cwV 2 hts gX9_overloadedOf_X9_loadOf rfl rfl rfl (by decide +kernel) ⟨Nat.le_of_ble_eq_true rfl, Nat.le_of_ble_eq_true rfl⟩) hK hPc (va_recv hK hP (ci := 9) (q0 := 0) rfl rfl) rfl hl.1 rfl (Nat.le_of_ble_eq_true rfl) dX9_overloadedOf_24 ⟨Nat.le_of_ble_eq_true rfl, Nat.le_of_ble_eq_true rfl⟩ ?_
        refine lv_aload_n hx hb dX9_overloadedOf_27 rfl (lv_at hl 0 rfl) ?_
        refine va_get (D := (dC, dI)) (ci := 9) (v := .ref (a 2)) (C := RX9) (T := TX9) (N := 6) hx hb hts in_X9_overloadedOf_X9 hown hK hP 0 rfl rfl 2 (by decide) (hts _ lk_X9_overloadedOf_RX9_15) (fun _ h9 => h9) rfl dX9_overloadedOf_28 ?_
        refine lv_iload_n hx hb dX9_overloadedOf_31 rfl (lv_at hl 3 rfl) ?_
        obtain ⟨h7, hf⟩ := gin_s hf
        refine wk_iald hx hb hK hP 2 0 rfl rfl h7 rfl dX9_overloadedOf_32 ?_
        refine lv_icmp_le (tgt := 52) hx hb dX9_overloadedOf_33 (by decide) (fun q8 => ?_) (fun q8 => ?_)
        · have hf := wk_t hf q8
          refine lv_iinc (v := (x3 + 1)) (lv' := [(3, .int (x3 + 1)), (0, .ref (a 0)), (1, .int x1), (2, .int x2)]) hx hb dX9_overloadedOf_52 hl (k := 3) rfl rfl (by decide) rfl (fun ls hl => ?_)
          refine lv_goto (tgt := 4) hx hb dX9_overloadedOf_55 (by decide) ?_
          exact ih x2 (x3 + 1) hf ls (lv_sub hl [1, 2, 3, 0] rfl)
        · have hf := wk_f hf q8
          refine lv_iload_n hx hb dX9_overloadedOf_36 rfl (lv_at hl 2 rfl) ?_
          refine lv_iconst (v := (-1)) hx hb dX9_overloadedOf_37 (by decide) ?_
          refine lv_icmp_eq (tgt := 50) hx hb dX9_overloadedOf_38 (by decide) (fun q9 => ?_) (fun q9 => ?_)
          · have hf := wk_t hf q9
            refine lv_iload_n hx hb dX9_overloadedOf_50 rfl (lv_at hl 3 rfl) ?_
            refine lv_istore_n (lv' := [(2, .int x3), (0, .ref (a 0)), (1, .int x1), (3, .int x3)]) hx hb dX9_overloadedOf_51 rfl hl (by decide) rfl (fun ls hl => ?_)
            refine lv_iinc (v := (x3 + 1)) (lv' := [(3, .int (x3 + 1)), (2, .int x3), (0, .ref (a 0)), (1, .int x1)]) hx hb dX9_overloadedOf_52 hl (k := 3) rfl rfl (by decide) rfl (fun ls hl => ?_)
            refine lv_goto (tgt := 4) hx hb dX9_overloadedOf_55 (by decide) ?_
            exact ih x3 (x3 + 1) hf ls (lv_sub hl [2, 3, 1, 0] rfl)
          · have hf := wk_f hf q9
            refine lv_aload_n hx hb dX9_overloadedOf_41 rfl (lv_at hl 0 rfl) ?_
            refine lv_iload_n hx hb dX9_overloadedOf_42 rfl (lv_at hl 3 rfl) ?_
            refine lv_iload_n hx hb dX9_overloadedOf_43 rfl (lv_at hl 2 rfl) ?_
            obtain ⟨r10, hr11, hf⟩ := wkb1_s hf
            have hPc := hP.sub (ws' := (wX9 Y a T_count T_weights T_strengths T_heights T_wages T_nightsToHeal)) [0, 1, 2, 3, 4, 5] rfl
            refine wk_vi (As := [.int x3, .int x2]) (rest := []) ⟨hx, hb, hml, hown, hts⟩ (c_X9_isBelow l dC dI Y a T_count T_weights T_strengths T_heights T_wages T_nightsToHeal x3 x2 r10 hr11) (cwV 2 hts gX9_overloadedOf_X9_isBelow rfl rfl rfl (by decide +kernel) ⟨Nat.le_of_ble_eq_true rfl, Nat.le_of_ble_eq_true rfl⟩) hK hPc (va_recv hK hP (ci := 9) (q0 := 0) rfl rfl) rfl hl.1 rfl (Nat.le_of_ble_eq_true rfl) dX9_overloadedOf_44 ⟨Nat.le_of_ble_eq_true rfl, Nat.le_of_ble_eq_true rfl⟩ ?_
            refine lv_if_eq (tgt := 52) hx hb dX9_overloadedOf_47 (by decide) (fun q12 => ?_) (fun q12 => ?_)
            · have hf := wk_t hf q12
              refine lv_iinc (v := (x3 + 1)) (lv' := [(3, .int (x3 + 1)), (0, .ref (a 0)), (1, .int x1), (2, .int x2)]) hx hb dX9_overloadedOf_52 hl (k := 3) rfl rfl (by decide) rfl (fun ls hl => ?_)
              refine lv_goto (tgt := 4) hx hb dX9_overloadedOf_55 (by decide) ?_
              exact ih x2 (x3 + 1) hf ls (lv_sub hl [1, 2, 3, 0] rfl)
            · have hf := wk_f hf q12
              refine lv_iload_n hx hb dX9_overloadedOf_50 rfl (lv_at hl 3 rfl) ?_
              refine lv_istore_n (lv' := [(2, .int x3), (0, .ref (a 0)), (1, .int x1), (3, .int x3)]) hx hb dX9_overloadedOf_51 rfl hl (by decide) rfl (fun ls hl => ?_)
              refine lv_iinc (v := (x3 + 1)) (lv' := [(3, .int (x3 + 1)), (2, .int x3), (0, .ref (a 0)), (1, .int x1)]) hx hb dX9_overloadedOf_52 hl (k := 3) rfl rfl (by decide) rfl (fun ls hl => ?_)
              refine lv_goto (tgt := 4) hx hb dX9_overloadedOf_55 (by decide) ?_
              exact ih x3 (x3 + 1) hf ls (lv_sub hl [2, 3, 1, 0] rfl)
set_option maxHeartbeats 4000000 in
set_option maxRecDepth 100000 in
theorem c_X9_overloadedOf (l : Launch) (dC : Nat → ClassId) (dI : Nat → Nat → Nat) (Y : Nat → ClassId) (a : Nat → Nat) (T_count : Int32) (T_weights : Nat → Int32) (T_strengths : Nat → Int32) (T_heights : Nat → Int32) (T_wages : Nat → Int32) (T_nightsToHeal : Nat → Int32) (x1 : Int32) (r : Int32) (hf : f_X9_overloadedOf T_count T_weights T_strengths x1 = some (r)) : Met l yX9_overloadedOf wsX9_overloadedOf ({ frames := 2, cells := 0, slots := 0, locals := 48 } : Room) (va_Pc [.ref (a 0), .int x1] (wk_B (dC, dI) Y (wX9 Y a T_count T_weights T_strengths T_heights T_wages T_nightsToHeal))) (vp_Si (fun r2 => r2 = r)) 0 0 (fun _ => False) := by
  refine Met.ofW (cc := cX9_overloadedOf) (maxL := 4) (ret := (some .int)) (by decide) rfl ?_
  intro p e s m args below meth c s₁ B hml hv
  obtain ⟨rfl, hP, hK⟩ := hv
  have hx := B.exec
  have hb := B.bytes
  have hr := B.returns
  have hts := atoms_spec (ws := wsX9_overloadedOf) B.pre
  have hown : s.vm.findClass RX9 = some m.cls := findClass_of_methodNamed B.named
  have hlocks := B.notSynchronized
  have C0 : wk_C p s m _ meth c cX9_overloadedOf 4 (some .int) wsX9_overloadedOf RX9 := ⟨hx, hb, hml, hr, hlocks, hown, hts⟩
  have hP : va_P (dC, dI) vwCl [(a 0, .inr (9, [.int T_count, .ref (a 1), .ref (a 2), .ref (a 3), .ref (a 4), .ref (a 5)])), (a 1, .inl (Y 0, 6, .inl T_weights)), (a 2, .inl (Y 0, 6, .inl T_strengths)), (a 3, .inl (Y 0, 6, .inl T_heights)), (a 4, .inl (Y 0, 6, .inl T_wages)), (a 5, .inl (Y 0, 6, .inl T_nightsToHeal))] s.heap := hP
  have hl := lv_entry ([.ref (a 0), .int x1]) (n := 4) (Nat.le_of_ble_eq_true rfl)
  rw [lg_entry_eq]
  generalize (lg_sl ([.ref (a 0), .int x1]) ++ List.replicate (4 - (lg_sl ([.ref (a 0), .int x1])).length) Slot.unset).toArray = ls at hl ⊢
  have hl : lv_has ls 4 [(0, .ref (a 0)), (1, .int x1)] := hl
  rw [f_X9_overloadedOf] at hf
  refine lv_iconst (v := (-1)) hx hb dX9_overloadedOf_0 (by decide) ?_
  refine lv_istore_n (lv' := [(2, .int (-1)), (0, .ref (a 0)), (1, .int x1)]) hx hb dX9_overloadedOf_1 rfl hl (by decide) rfl (fun ls hl => ?_)
  refine lv_iconst (v := 0) hx hb dX9_overloadedOf_2 (by decide) ?_
  refine lv_istore_n (lv' := [(3, .int 0), (2, .int (-1)), (0, .ref (a 0)), (1, .int x1)]) hx hb dX9_overloadedOf_3 rfl hl (by decide) rfl (fun ls hl => ?_)
  exact wl_X9_overloadedOf_L4 C0 hK hP FU (-1) 0 hf ls (lv_sub hl [2, 3, 1, 0] rfl)
def f_X9_countAbove (T_count : Int32) (T_weights : Nat → Int32) (T_strengths : Nat → Int32) (x1 : Int32) (x2 : Int32) : Option (Int32) :=
  wkb1 (f_J6_bitCount_0f7a4 x1) (fun r1 =>
  wkb1 (f_X9_placeOf T_count T_weights T_strengths x1 x2) (fun r3 =>
  some (((r1 - 1) - r3))))
set_option maxHeartbeats 4000000 in
set_option maxRecDepth 100000 in
theorem c_X9_countAbove (l : Launch) (dC : Nat → ClassId) (dI : Nat → Nat → Nat) (Y : Nat → ClassId) (a : Nat → Nat) (T_count : Int32) (T_weights : Nat → Int32) (T_strengths : Nat → Int32) (T_heights : Nat → Int32) (T_wages : Nat → Int32) (T_nightsToHeal : Nat → Int32) (x1 : Int32) (x2 : Int32) (r : Int32) (hf : f_X9_countAbove T_count T_weights T_strengths x1 x2 = some (r)) : Met l yX9_countAbove wsX9_countAbove ({ frames := 2, cells := 0, slots := 0, locals := 48 } : Room) (va_Pc [.ref (a 0), .int x1, .int x2] (wk_B (dC, dI) Y (wX9 Y a T_count T_weights T_strengths T_heights T_wages T_nightsToHeal))) (vp_Si (fun r2 => r2 = r)) 0 0 (fun _ => False) := by
  refine Met.ofW (cc := cX9_countAbove) (maxL := 3) (ret := (some .int)) (by decide) rfl ?_
  intro p e s m args below meth c s₁ B hml hv
  obtain ⟨rfl, hP, hK⟩ := hv
  have hx := B.exec
  have hb := B.bytes
  have hr := B.returns
  have hts := atoms_spec (ws := wsX9_countAbove) B.pre
  have hown : s.vm.findClass RX9 = some m.cls := findClass_of_methodNamed B.named
  have hlocks := B.notSynchronized
  have C0 : wk_C p s m _ meth c cX9_countAbove 3 (some .int) wsX9_countAbove RX9 := ⟨hx, hb, hml, hr, hlocks, hown, hts⟩
  have hP : va_P (dC, dI) vwCl [(a 0, .inr (9, [.int T_count, .ref (a 1), .ref (a 2), .ref (a 3), .ref (a 4), .ref (a 5)])), (a 1, .inl (Y 0, 6, .inl T_weights)), (a 2, .inl (Y 0, 6, .inl T_strengths)), (a 3, .inl (Y 0, 6, .inl T_heights)), (a 4, .inl (Y 0, 6, .inl T_wages)), (a 5, .inl (Y 0, 6, .inl T_nightsToHeal))] s.heap := hP
  have hl := lv_entry ([.ref (a 0), .int x1, .int x2]) (n := 3) (Nat.le_of_ble_eq_true rfl)
  rw [lg_entry_eq]
  generalize (lg_sl ([.ref (a 0), .int x1, .int x2]) ++ List.replicate (3 - (lg_sl ([.ref (a 0), .int x1, .int x2])).length) Slot.unset).toArray = ls at hl ⊢
  have hl : lv_has ls 3 [(0, .ref (a 0)), (1, .int x1), (2, .int x2)] := hl
  rw [f_X9_countAbove] at hf
  refine lv_iload_n hx hb dX9_countAbove_0 rfl (lv_at hl 1 rfl) ?_
  obtain ⟨r1, hr2, hf⟩ := wkb1_s hf
  have hPc := hP.sub (ws' := ([] : va_W)) [] rfl
  refine wk_si (As := [.int x1]) (rest := []) ⟨hx, hb, hml, hown, hts⟩ (c_J6_bitCount_0f7a4 l dC dI Y x1 r1 hr2) (va_cwS 1 hts gX9_countAbove_J6_bitCount_0f7a4 rfl rfl rfl (by decide +kernel) ⟨Nat.le_of_ble_eq_true rfl, Nat.le_of_ble_eq_true rfl⟩) hK hPc rfl hl.1 rfl (Nat.le_of_ble_eq_true rfl) dX9_countAbove_1 ⟨Nat.le_of_ble_eq_true rfl, Nat.le_of_ble_eq_true rfl⟩ ?_
  refine lv_iconst (v := 1) hx hb dX9_countAbove_4 (by decide) ?_
  refine lv_isub hx hb dX9_countAbove_5 ?_
  refine lv_aload_n hx hb dX9_countAbove_6 rfl (lv_at hl 0 rfl) ?_
  refine lv_iload_n hx hb dX9_countAbove_7 rfl (lv_at hl 1 rfl) ?_
  refine lv_iload_n hx hb dX9_countAbove_8 rfl (lv_at hl 2 rfl) ?_
  obtain ⟨r3, hr4, hf⟩ := wkb1_s hf
  have hPc := hP.sub (ws' := (wX9 Y a T_count T_weights T_strengths T_heights T_wages T_nightsToHeal)) [0, 1, 2, 3, 4, 5] rfl
  refine wk_vi (As := [.int x1, .int x2]) (rest := [.int (r1 - 1)]) ⟨hx, hb, hml, hown, hts⟩ (c_X9_placeOf l dC dI Y a T_count T_weights T_strengths T_heights T_wages T_nightsToHeal x1 x2 r3 hr4) (cwV 2 hts gX9_countAbove_X9_placeOf rfl rfl rfl (by decide +kernel) ⟨Nat.le_of_ble_eq_true rfl, Nat.le_of_ble_eq_true rfl⟩) hK hPc (va_recv hK hP (ci := 9) (q0 := 0) rfl rfl) rfl hl.1 rfl (Nat.le_of_ble_eq_true rfl) dX9_countAbove_9 ⟨Nat.le_of_ble_eq_true rfl, Nat.le_of_ble_eq_true rfl⟩ ?_
  refine lv_isub hx hb dX9_countAbove_12 ?_
  have e0 := wke1 hf
  subst e0
  exact W.iret (v := ((r1 - 1) - r3)) hx hb hr (fun t ht hW => ⟨((r1 - 1) - r3), rfl, rfl, ht⟩) (fun q h => absurd h List.not_mem_nil) dX9_countAbove_13
def f_X9_damagesOf (T_count : Int32) (T_weights : Nat → Int32) (T_strengths : Nat → Int32) (x1 : Int32) : Option (Int32) :=
  wkb1 (f_X9_overloadedOf T_count T_weights T_strengths x1) (fun r1 =>
  if r1 = (-1) then
    (some (0))
  else
    (wkb1 (f_X9_countAbove T_count T_weights T_strengths x1 r1) (fun r4 =>
    some ((10 * r4)))))
set_option maxHeartbeats 4000000 in
set_option maxRecDepth 100000 in
theorem c_X9_damagesOf (l : Launch) (dC : Nat → ClassId) (dI : Nat → Nat → Nat) (Y : Nat → ClassId) (a : Nat → Nat) (T_count : Int32) (T_weights : Nat → Int32) (T_strengths : Nat → Int32) (T_heights : Nat → Int32) (T_wages : Nat → Int32) (T_nightsToHeal : Nat → Int32) (x1 : Int32) (r : Int32) (hf : f_X9_damagesOf T_count T_weights T_strengths x1 = some (r)) : Met l yX9_damagesOf wsX9_damagesOf ({ frames := 3, cells := 0, slots := 0, locals := 71 } : Room) (va_Pc [.ref (a 0), .int x1] (wk_B (dC, dI) Y (wX9 Y a T_count T_weights T_strengths T_heights T_wages T_nightsToHeal))) (vp_Si (fun r2 => r2 = r)) 0 0 (fun _ => False) := by
  refine Met.ofW (cc := cX9_damagesOf) (maxL := 3) (ret := (some .int)) (by decide) rfl ?_
  intro p e s m args below meth c s₁ B hml hv
  obtain ⟨rfl, hP, hK⟩ := hv
  have hx := B.exec
  have hb := B.bytes
  have hr := B.returns
  have hts := atoms_spec (ws := wsX9_damagesOf) B.pre
  have hown : s.vm.findClass RX9 = some m.cls := findClass_of_methodNamed B.named
  have hlocks := B.notSynchronized
  have C0 : wk_C p s m _ meth c cX9_damagesOf 3 (some .int) wsX9_damagesOf RX9 := ⟨hx, hb, hml, hr, hlocks, hown, hts⟩
  have hP : va_P (dC, dI) vwCl [(a 0, .inr (9, [.int T_count, .ref (a 1), .ref (a 2), .ref (a 3), .ref (a 4), .ref (a 5)])), (a 1, .inl (Y 0, 6, .inl T_weights)), (a 2, .inl (Y 0, 6, .inl T_strengths)), (a 3, .inl (Y 0, 6, .inl T_heights)), (a 4, .inl (Y 0, 6, .inl T_wages)), (a 5, .inl (Y 0, 6, .inl T_nightsToHeal))] s.heap := hP
  have hl := lv_entry ([.ref (a 0), .int x1]) (n := 3) (Nat.le_of_ble_eq_true rfl)
  rw [lg_entry_eq]
  generalize (lg_sl ([.ref (a 0), .int x1]) ++ List.replicate (3 - (lg_sl ([.ref (a 0), .int x1])).length) Slot.unset).toArray = ls at hl ⊢
  have hl : lv_has ls 3 [(0, .ref (a 0)), (1, .int x1)] := hl
  rw [f_X9_damagesOf] at hf
  refine lv_aload_n hx hb dX9_damagesOf_0 rfl (lv_at hl 0 rfl) ?_
  refine lv_iload_n hx hb dX9_damagesOf_1 rfl (lv_at hl 1 rfl) ?_
  obtain ⟨r1, hr2, hf⟩ := wkb1_s hf
  have hPc := hP.sub (ws' := (wX9 Y a T_count T_weights T_strengths T_heights T_wages T_nightsToHeal)) [0, 1, 2, 3, 4, 5] rfl
  refine wk_vi (As := [.int x1]) (rest := []) ⟨hx, hb, hml, hown, hts⟩ (c_X9_overloadedOf l dC dI Y a T_count T_weights T_strengths T_heights T_wages T_nightsToHeal x1 r1 hr2) (cwV 1 hts gX9_damagesOf_X9_overloadedOf rfl rfl rfl (by decide +kernel) ⟨Nat.le_of_ble_eq_true rfl, Nat.le_of_ble_eq_true rfl⟩) hK hPc (va_recv hK hP (ci := 9) (q0 := 0) rfl rfl) rfl hl.1 rfl (Nat.le_of_ble_eq_true rfl) dX9_damagesOf_2 ⟨Nat.le_of_ble_eq_true rfl, Nat.le_of_ble_eq_true rfl⟩ ?_
  refine lv_istore_n (lv' := [(2, .int r1), (0, .ref (a 0)), (1, .int x1)]) hx hb dX9_damagesOf_5 rfl hl (by decide) rfl (fun ls hl => ?_)
  refine lv_iload_n hx hb dX9_damagesOf_6 rfl (lv_at hl 0 rfl) ?_
  refine lv_iconst (v := (-1)) hx hb dX9_damagesOf_7 (by decide) ?_
  refine lv_icmp_ne (tgt := 15) hx hb dX9_damagesOf_8 (by decide) (fun q3 => ?_) (fun q3 => ?_)
  · have hf := wk_f hf q3
    refine lv_bipush (v := 10) hx hb dX9_damagesOf_15 (by decide) ?_
    refine lv_aload_n hx hb dX9_damagesOf_17 rfl (lv_at hl 1 rfl) ?_
    refine lv_iload_n hx hb dX9_damagesOf_18 rfl (lv_at hl 2 rfl) ?_
    refine lv_iload_n hx hb dX9_damagesOf_19 rfl (lv_at hl 0 rfl) ?_
    obtain ⟨r4, hr5, hf⟩ := wkb1_s hf
    have hPc := hP.sub (ws' := (wX9 Y a T_count T_weights T_strengths T_heights T_wages T_nightsToHeal)) [0, 1, 2, 3, 4, 5] rfl
    refine wk_vi (As := [.int x1, .int r1]) (rest := [.int 10]) ⟨hx, hb, hml, hown, hts⟩ (c_X9_countAbove l dC dI Y a T_count T_weights T_strengths T_heights T_wages T_nightsToHeal x1 r1 r4 hr5) (cwV 2 hts gX9_damagesOf_X9_countAbove rfl rfl rfl (by decide +kernel) ⟨Nat.le_of_ble_eq_true rfl, Nat.le_of_ble_eq_true rfl⟩) hK hPc (va_recv hK hP (ci := 9) (q0 := 0) rfl rfl) rfl hl.1 rfl (Nat.le_of_ble_eq_true rfl) dX9_damagesOf_20 ⟨Nat.le_of_ble_eq_true rfl, Nat.le_of_ble_eq_true rfl⟩ ?_
    refine lv_imul hx hb dX9_damagesOf_23 ?_
    have e0 := wke1 hf
    subst e0
    exact W.iret (v := (10 * r4)) hx hb hr (fun t ht hW => ⟨(10 * r4), rfl, rfl, ht⟩) (fun q h => absurd h List.not_mem_nil) dX9_damagesOf_24
  · have hf := wk_t hf q3
    refine lv_iconst (v := 0) hx hb dX9_damagesOf_11 (by decide) ?_
    refine lv_goto (tgt := 24) hx hb dX9_damagesOf_12 (by decide) ?_
    have e0 := wke1 hf
    subst e0
    exact W.iret (v := 0) hx hb hr (fun t ht hW => ⟨0, rfl, rfl, ht⟩) (fun q h => absurd h List.not_mem_nil) dX9_damagesOf_24
theorem lk_X9_highestSet_RX9_27 : Cond.fieldLink RX9 27 "CircusLedger$Troupe" "count" "I" ∈ wsX9_highestSet := by decide +kernel
theorem in_X9_highestSet_X9 : ∀ w ∈ u_ws RX9 TX9 6, w ∈ wsX9_highestSet := by decide +kernel
def f_X9_highestSet_L9 (T_count : Int32) (T_weights : Nat → Int32) (T_strengths : Nat → Int32) (T_heights : Nat → Int32) (T_nightsToHeal : Nat → Int32) : Nat → Int32 → Int32 → Int32 → Option (Int32)
  | 0, _, _, _ => none
  | nn + 1, x1, x2, x3 =>
    if ((1 : Int32) <<< (T_count &&& 31)) ≤ x3 then
      (some (x2))
    else
      (if (x3 &&& x1) = x3 then
        (wkb1 (f_X9_heightOf T_count T_heights x3) (fun r3 =>
        wkb1 (f_X9_heightOf T_count T_heights x2) (fun r5 =>
        if r3 ≤ r5 then
          (f_X9_highestSet_L9 T_count T_weights T_strengths T_heights T_nightsToHeal nn x1 x2 (x3 + 1))
        else
          (wkb1 (f_X9_overloadedOf T_count T_weights T_strengths x3) (fun r8 =>
          if r8 = (-1) then
            (f_X9_highestSet_L9 T_count T_weights T_strengths T_heights T_nightsToHeal nn x1 x3 (x3 + 1))
          else
            (f_X9_highestSet_L9 T_count T_weights T_strengths T_heights T_nightsToHeal nn x1 x2 (x3 + 1)))))))
      else
        (f_X9_highestSet_L9 T_count T_weights T_strengths T_heights T_nightsToHeal nn x1 x2 (x3 + 1)))
def f_X9_highestSet (T_count : Int32) (T_weights : Nat → Int32) (T_strengths : Nat → Int32) (T_heights : Nat → Int32) (T_nightsToHeal : Nat → Int32) : Option (Int32) :=
  wkb1 (f_X9_fitSet T_count T_nightsToHeal) (fun r1 =>
  f_X9_highestSet_L9 T_count T_weights T_strengths T_heights T_nightsToHeal FU r1 0 1)
set_option maxHeartbeats 4000000 in
set_option maxRecDepth 100000 in
theorem wl_X9_highestSet_L9 {p : Program} {l : Launch} {e : Env} {s : State} {m : MethodId} {args : Array Value} {below : List Frame} {meth : Method} {c : Code} {dC : Nat → ClassId} {dI : Nat → Nat → Nat} {Y : Nat → ClassId} {a : Nat → Nat} {T_count : Int32} {T_weights : Nat → Int32} {T_strengths : Nat → Int32} {T_heights : Nat → Int32} {T_wages : Nat → Int32} {T_nightsToHeal : Nat → Int32}  {r : Int32}  (C0 : wk_C p s m args meth c cX9_highestSet 4 (some .int) wsX9_highestSet RX9) (hK : va_K (dC, dI) vwCl (vTy Y) s) (hP : va_P (dC, dI) vwCl (wX9 Y a T_count T_weights T_strengths T_heights T_wages T_nightsToHeal) s.heap) : ∀ (nn : Nat) (x1 : Int32) (x2 : Int32) (x3 : Int32)  , f_X9_highestSet_L9 T_count T_weights T_strengths T_heights T_nightsToHeal nn x1 x2 x3 = some (r) → ∀ (ls : Array Slot), lv_has ls 4 [(0, .ref (a 0)), (1, .int x1), (2, .int x2), (3, .int x3)] → W p l e (headSpec wsX9_highestSet ({ frames := 3, cells := 0, slots := 0, locals := 71 } : Room)).room s m args below meth c s.heap [] 0 0 (MQ below (vp_Si (fun r2 => r2 = r)) args s 0 0 (fun _ => False)) (F0 m 9 ls []) := by
  have C0 := C0
  obtain ⟨hx, hb, hml, hr, hlocks, hown, hts⟩ := id C0
  intro nn
  induction nn with
  | zero =>
    intro x1 x2 x3 hf
    rw [f_X9_highestSet_L9] at hf
    cases hf
  | succ nn ih =>
    intro x1 x2 x3 hf ls hl
    rw [f_X9_highestSet_L9] at hf
    have hP : va_P (dC, dI) vwCl [(a 0, .inr (9, [.int T_count, .ref (a 1), .ref (a 2), .ref (a 3), .ref (a 4), .ref (a 5)])), (a 1, .inl (Y 0, 6, .inl T_weights)), (a 2, .inl (Y 0, 6, .inl T_strengths)), (a 3, .inl (Y 0, 6, .inl T_heights)), (a 4, .inl (Y 0, 6, .inl T_wages)), (a 5, .inl (Y 0, 6, .inl T_nightsToHeal))] s.heap := hP
    refine lv_iload_n hx hb dX9_highestSet_9 rfl (lv_at hl 3 rfl) ?_
    refine lv_iconst (v := 1) hx hb dX9_highestSet_10 (by decide) ?_
    refine lv_aload_n hx hb dX9_highestSet_11 rfl (lv_at hl 0 rfl) ?_
    refine va_get (D := (dC, dI)) (ci := 9) (v := .int T_count) (C := RX9) (T := TX9) (N := 6) hx hb hts in_X9_highestSet_X9 hown hK hP 0 rfl rfl 0 (by decide) (hts _ lk_X9_highestSet_RX9_27) (fun _ h9 => h9) rfl dX9_highestSet_12 ?_
    refine lv_ishl hx hb dX9_highestSet_15 ?_
    refine lv_icmp_ge (tgt := 56) hx hb dX9_highestSet_16 (by decide) (fun q1 => ?_) (fun q1 => ?_)
    · have hf := wk_t hf q1
      refine lv_iload_n hx hb dX9_highestSet_56 rfl (lv_at hl 2 rfl) ?_
      have e0 := wke1 hf
      subst e0
      exact W.iret (v := x2) hx hb hr (fun t ht hW => ⟨x2, rfl, rfl, ht⟩) (fun q h => absurd h List.not_mem_nil) dX9_highestSet_57
    · have hf := wk_f hf q1
      refine lv_iload_n hx hb dX9_highestSet_19 rfl (lv_at hl 3 rfl) ?_
      refine lv_iload_n hx hb dX9_highestSet_20 rfl (lv_at hl 1 rfl) ?_
      refine lv_iand hx hb dX9_highestSet_21 ?_
      refine lv_iload_n hx hb dX9_highestSet_22 rfl (lv_at hl 3 rfl) ?_
      refine lv_icmp_ne (tgt := 50) hx hb dX9_highestSet_23 (by decide) (fun q2 => ?_) (fun q2 => ?_)
      · have hf := wk_f hf q2
        refine lv_iinc (v := (x3 + 1)) (lv' := [(3, .int (x3 + 1)), (0, .ref (a 0)), (1, .int x1), (2, .int x2)]) hx hb dX9_highestSet_50 hl (k := 3) rfl rfl (by decide) rfl (fun ls hl => ?_)
        refine lv_goto (tgt := 9) hx hb dX9_highestSet_53 (by decide) ?_
        exact ih x1 x2 (x3 + 1) hf ls (lv_sub hl [1, 2, 3, 0] rfl)
      · have hf := wk_t hf q2
        refine lv_aload_n hx hb dX9_highestSet_26 rfl (lv_at hl 0 rfl) ?_
        refine lv_iload_n hx hb dX9_highestSet_27 rfl (lv_at hl 3 rfl) ?_
        obtain ⟨r3, hr4, hf⟩ := wkb1_s hf
        have hPc := hP.sub (ws' := (wX9 Y a T_count T_weights T_strengths T_heights T_wages T_nightsToHeal)) [0, 1, 2, 3, 4, 5] rfl
        refine wk_vi (As := [.int x3]) (rest := []) ⟨hx, hb, hml, hown, hts⟩ (c_X9_heightOf l dC dI Y a T_count T_weights T_strengths T_heights T_wages T_nightsToHeal x3 r3 hr4) (cwV 1 hts gX9_highestSet_X9_heightOf rfl rfl rfl (by decide +kernel) ⟨Nat.le_of_ble_eq_true rfl, Nat.le_of_ble_eq_true rfl⟩) hK hPc (va_recv hK hP (ci := 9) (q0 := 0) rfl rfl) rfl hl.1 rfl (Nat.le_of_ble_eq_true rfl) dX9_highestSet_28 ⟨Nat.le_of_ble_eq_true rfl, Nat.le_of_ble_eq_true rfl⟩ ?_
        refine lv_aload_n hx hb dX9_highestSet_31 rfl (lv_at hl 0 rfl) ?_
        refine lv_iload_n hx hb dX9_highestSet_32 rfl (lv_at hl 2 rfl) ?_
        obtain ⟨r5, hr6, hf⟩ := wkb1_s hf
        have hPc := hP.sub (ws' := (wX9 Y a T_count T_weights T_strengths T_heights T_wages T_nightsToHeal)) [0, 1, 2, 3, 4, 5] rfl
        refine wk_vi (As := [.int x2]) (rest := [.int r3]) ⟨hx, hb, hml, hown, hts⟩ (c_X9_heightOf l dC dI Y a T_count T_weights T_strengths T_heights T_wages T_nightsToHeal x2 r5 hr6) (cwV 1 hts gX9_highestSet_X9_heightOf rfl rfl rfl (by decide +kernel) ⟨Nat.le_of_ble_eq_true rfl, Nat.le_of_ble_eq_true rfl⟩) hK hPc (va_recv hK hP (ci := 9) (q0 := 0) rfl rfl) rfl hl.1 rfl (Nat.le_of_ble_eq_true rfl) dX9_highestSet_33 ⟨Nat.le_of_ble_eq_true rfl, Nat.le_of_ble_eq_true rfl⟩ ?_
        refine lv_icmp_le (tgt := 50) hx hb dX9_highestSet_36 (by decide) (fun q7 => ?_) (fun q7 => ?_)
        · have hf := wk_t hf q7
          refine lv_iinc (v := (x3 + 1)) (lv' := [(3, .int (x3 + 1)), (0, .ref (a 0)), (1, .int x1), (2, .int x2)]) hx hb dX9_highestSet_50 hl (k := 3) rfl rfl (by decide) rfl (fun ls hl => ?_)
          refine lv_goto (tgt := 9) hx hb dX9_highestSet_53 (by decide) ?_
          exact ih x1 x2 (x3 + 1) hf ls (lv_sub hl [1, 2, 3, 0] rfl)
        · have hf := wk_f hf q7
          refine lv_aload_n hx hb dX9_highestSet_39 rfl (lv_at hl 0 rfl) ?_
          refine lv_iload_n hx hb dX9_highestSet_40 rfl (lv_at hl 3 rfl) ?_
          obtain ⟨r8, hr9, hf⟩ := wkb1_s hf
          have hPc := hP.sub (ws' := (wX9 Y a T_count T_weights T_strengths T_heights T_wages T_nightsToHeal)) [0, 1, 2, 3, 4, 5] rfl
          refine wk_vi (As := [.int x3]) (rest := []) ⟨hx, hb, hml, hown, hts⟩ (c_X9_overloadedOf l dC dI Y a T_count T_weights T_strengths T_heights T_wages T_nightsToHeal x3 r8 hr9) (cwV 1 hts gX9_highestSet_X9_overloadedOf rfl rfl rfl (by decide +kernel) ⟨Nat.le_of_ble_eq_true rfl, Nat.le_of_ble_eq_true rfl⟩) hK hPc (va_recv hK hP (ci := 9) (q0 := 0) rfl rfl) rfl hl.1 rfl (Nat.le_of_ble_eq_true rfl) dX9_highestSet_41 ⟨Nat.le_of_ble_eq_true rfl, Nat.le_of_ble_eq_true rfl⟩ ?_
          refine lv_iconst (v := (-1)) hx hb dX9_highestSet_44 (by decide) ?_
          refine lv_icmp_ne (tgt := 50) hx hb dX9_highestSet_45 (by decide) (fun q10 => ?_) (fun q10 => ?_)
          · have hf := wk_f hf q10
            refine lv_iinc (v := (x3 + 1)) (lv' := [(3, .int (x3 + 1)), (0, .ref (a 0)), (1, .int x1), (2, .int x2)]) hx hb dX9_highestSet_50 hl (k := 3) rfl rfl (by decide) rfl (fun ls hl => ?_)
            refine lv_goto (tgt := 9) hx hb dX9_highestSet_53 (by decide) ?_
            exact ih x1 x2 (x3 + 1) hf ls (lv_sub hl [1, 2, 3, 0] rfl)
          · have hf := wk_t hf q10
            refine lv_iload_n hx hb dX9_highestSet_48 rfl (lv_at hl 3 rfl) ?_
            refine lv_istore_n (lv' := [(2, .int x3), (0, .ref (a 0)), (1, .int x1), (3, .int x3)]) hx hb dX9_highestSet_49 rfl hl (by decide) rfl (fun ls hl => ?_)
            refine lv_iinc (v := (x3 + 1)) (lv' := [(3, .int (x3 + 1)), (2, .int x3), (0, .ref (a 0)), (1, .int x1)]) hx hb dX9_highestSet_50 hl (k := 3) rfl rfl (by decide) rfl (fun ls hl => ?_)
            refine lv_goto (tgt := 9) hx hb dX9_highestSet_53 (by decide) ?_
            exact ih x1 x3 (x3 + 1) hf ls (lv_sub hl [2, 3, 1, 0] rfl)
set_option maxHeartbeats 4000000 in
set_option maxRecDepth 100000 in
theorem c_X9_highestSet (l : Launch) (dC : Nat → ClassId) (dI : Nat → Nat → Nat) (Y : Nat → ClassId) (a : Nat → Nat) (T_count : Int32) (T_weights : Nat → Int32) (T_strengths : Nat → Int32) (T_heights : Nat → Int32) (T_wages : Nat → Int32) (T_nightsToHeal : Nat → Int32)  (r : Int32) (hf : f_X9_highestSet T_count T_weights T_strengths T_heights T_nightsToHeal = some (r)) : Met l yX9_highestSet wsX9_highestSet ({ frames := 3, cells := 0, slots := 0, locals := 71 } : Room) (va_Pc [.ref (a 0)] (wk_B (dC, dI) Y (wX9 Y a T_count T_weights T_strengths T_heights T_wages T_nightsToHeal))) (vp_Si (fun r2 => r2 = r)) 0 0 (fun _ => False) := by
  refine Met.ofW (cc := cX9_highestSet) (maxL := 4) (ret := (some .int)) (by decide) rfl ?_
  intro p e s m args below meth c s₁ B hml hv
  obtain ⟨rfl, hP, hK⟩ := hv
  have hx := B.exec
  have hb := B.bytes
  have hr := B.returns
  have hts := atoms_spec (ws := wsX9_highestSet) B.pre
  have hown : s.vm.findClass RX9 = some m.cls := findClass_of_methodNamed B.named
  have hlocks := B.notSynchronized
  have C0 : wk_C p s m _ meth c cX9_highestSet 4 (some .int) wsX9_highestSet RX9 := ⟨hx, hb, hml, hr, hlocks, hown, hts⟩
  have hP : va_P (dC, dI) vwCl [(a 0, .inr (9, [.int T_count, .ref (a 1), .ref (a 2), .ref (a 3), .ref (a 4), .ref (a 5)])), (a 1, .inl (Y 0, 6, .inl T_weights)), (a 2, .inl (Y 0, 6, .inl T_strengths)), (a 3, .inl (Y 0, 6, .inl T_heights)), (a 4, .inl (Y 0, 6, .inl T_wages)), (a 5, .inl (Y 0, 6, .inl T_nightsToHeal))] s.heap := hP
  have hl := lv_entry ([.ref (a 0)]) (n := 4) (Nat.le_of_ble_eq_true rfl)
  rw [lg_entry_eq]
  generalize (lg_sl ([.ref (a 0)]) ++ List.replicate (4 - (lg_sl ([.ref (a 0)])).length) Slot.unset).toArray = ls at hl ⊢
  have hl : lv_has ls 4 [(0, .ref (a 0))] := hl
  rw [f_X9_highestSet] at hf
  refine lv_aload_n hx hb dX9_highestSet_0 rfl (lv_at hl 0 rfl) ?_
  obtain ⟨r1, hr2, hf⟩ := wkb1_s hf
  have hPc := hP.sub (ws' := (wX9 Y a T_count T_weights T_strengths T_heights T_wages T_nightsToHeal)) [0, 1, 2, 3, 4, 5] rfl
  refine wk_vi (As := []) (rest := []) ⟨hx, hb, hml, hown, hts⟩ (c_X9_fitSet l dC dI Y a T_count T_weights T_strengths T_heights T_wages T_nightsToHeal r1 hr2) (cwV 0 hts gX9_highestSet_X9_fitSet rfl rfl rfl (by decide +kernel) ⟨Nat.le_of_ble_eq_true rfl, Nat.le_of_ble_eq_true rfl⟩) hK hPc (va_recv hK hP (ci := 9) (q0 := 0) rfl rfl) rfl hl.1 rfl (Nat.le_of_ble_eq_true rfl) dX9_highestSet_1 ⟨Nat.le_of_ble_eq_true rfl, Nat.le_of_ble_eq_true rfl⟩ ?_
  refine lv_istore_n (lv' := [(1, .int r1), (0, .ref (a 0))]) hx hb dX9_highestSet_4 rfl hl (by decide) rfl (fun ls hl => ?_)
  refine lv_iconst (v := 0) hx hb dX9_highestSet_5 (by decide) ?_
  refine lv_istore_n (lv' := [(2, .int 0), (1, .int r1), (0, .ref (a 0))]) hx hb dX9_highestSet_6 rfl hl (by decide) rfl (fun ls hl => ?_)
  refine lv_iconst (v := 1) hx hb dX9_highestSet_7 (by decide) ?_
  refine lv_istore_n (lv' := [(3, .int 1), (2, .int 0), (1, .int r1), (0, .ref (a 0))]) hx hb dX9_highestSet_8 rfl hl (by decide) rfl (fun ls hl => ?_)
  exact wl_X9_highestSet_L9 C0 hK hP FU r1 0 1 hf ls (lv_sub hl [3, 2, 1, 0] rfl)
