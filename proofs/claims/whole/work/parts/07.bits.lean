theorem wk_ofWF {l : Launch} {y : MethodName} {ws ws' : List Cond} {rm : Room} {Pc : Array Value → State → Prop} {Qc : Array Value → State → Outcome → State → Prop} {mc ms : Nat} {free : Addr → Prop} {cc : ByteArray} {maxL : Nat} {ret : Option FieldType}
    (hy : plainFor y = true) (hw : ws = Cond.code y cc maxL ret :: ws')
    (body : ∀ p e s m args below meth c s₁, BodyLoose p l y (headSpec ws rm) cc maxL ret e s m args below meth c s₁ → c.maxLocals = maxL → Pc args s →
      W p l e (headSpec ws rm).room s m args below meth c s.heap [] 0 0 (MQ below Qc args s mc ms free) (entryFrame m args maxL)) : Met l y ws rm Pc Qc mc ms free := by
  refine MetFree.of_bodyRF (code := cc) (maxLocals := maxL) (ret := ret) hy ?_ ?_
  · intro args s m h hn
    obtain ⟨meth, c, h1, h2, h3, h4, h5, h6, -, -⟩ := Cond.code_spec hn (atoms_spec (ws := ws) h _ (by rw [hw]; exact List.mem_cons_self))
    exact ⟨meth, c, h1, h2, h3, h4, h5, h6⟩
  · intro p e s m args below meth c s₁ B hml hP _ hst
    have hh0 : s₁.heap = s.heap := by rw [B.state]; rfl
    obtain ⟨t, a1, o, b1, b2, b3⟩ := body p e s m args below meth c s₁ B hml hP s₁ hh0 (Stand.of_body B)
    exact ⟨t, o, Steps.trans hst a1, b1, b2, ⟨b3.1, b3.2⟩⟩
abbrev wX11 (Y : Nat → ClassId) (a : Nat → Nat) (M_g : Nat → Int32) (M_kept : Nat → Int32) (M_saved : Nat → Int32) (M_before : Nat → Int32) (M_isSaved : Int32) (M_changes : Int32) (M_isWithin : Int32) (M_code : Int32) (M_input : Nat → Int32) (M_length : Int32) (M_fault : Int32) (M_failed : Int32) (M_signs : Nat → Int32) (M_signMany : Int32) (M_column : Nat → Int32) (M_loads : Nat → Int32) (M_many : Int32) (M_sums : Nat → Int32) (M_groups : Nat → Int32) (M_at : Int32) (M_told : Nat → Int32) (M_toldMany : Int32) : va_W := [(a 0, .inr (11, [.ref (a 1), .ref (a 2), .ref (a 3), .ref (a 4), .int M_isSaved, .int M_changes, .int M_isWithin, .int M_code, .ref (a 5), .int M_length, .int M_fault, .int M_failed, .ref (a 6), .int M_signMany, .ref (a 7), .ref (a 8), .int M_many, .ref (a 9), .ref (a 10), .int M_at, .ref (a 11), .int M_toldMany])), (a 1, .inl (Y 0, 238, .inl M_g)), (a 2, .inl (Y 0, 1904, .inl M_kept)), (a 3, .inl (Y 0, 238, .inl M_saved)), (a 4, .inl (Y 0, 238, .inl M_before)), (a 5, .inl (Y 0, 60, .inl M_input)), (a 6, .inl (Y 2, 100, .inl M_signs)), (a 7, .inl (Y 0, 6, .inl M_column)), (a 8, .inl (Y 0, 6, .inl M_loads)), (a 9, .inl (Y 0, 2048, .inl M_sums)), (a 10, .inl (Y 0, 2048, .inl M_groups)), (a 11, .inl (Y 0, 155, .inl M_told))]
def f_Jxf58ca_isNaN_12338 (x0 : UInt32) : Option (Int32) :=
  if (Op.cmpValue (FP.fcmp x0 x0) .l) = 0 then
    (some (0))
  else
    (some (1))
set_option maxHeartbeats 4000000 in
set_option maxRecDepth 100000 in
theorem c_Jxf58ca_isNaN_12338 (l : Launch) (dC : Nat → ClassId) (dI : Nat → Nat → Nat) (Y : Nat → ClassId)   (x0 : UInt32) (r : Int32) (hf : f_Jxf58ca_isNaN_12338 x0 = some (r)) : Met l yJxf58ca_isNaN_12338 wsJxf58ca_isNaN_12338 ({ frames := 0, cells := 0, slots := 0, locals := 0 } : Room) (va_Pc [.float x0] (wk_B (dC, dI) Y ([] : va_W))) (vp_Si (fun r2 => r2 = r)) 0 0 (fun _ => False) := by
  refine wk_ofWF (cc := cJxf58ca_isNaN_12338) (maxL := 1) (ret := (some .boolean)) (by decide +kernel) rfl ?_
  intro p e s m args below meth c s₁ B hml hv
  obtain ⟨rfl, hP, hK⟩ := hv
  have hx := B.exec
  have hb := B.bytes
  have hr := B.returns
  have hts := atoms_spec (ws := wsJxf58ca_isNaN_12338) B.pre
  have hown : s.vm.findClass RJxf58ca = some m.cls := findClass_of_methodNamed B.named
  have hlocks := B.notSynchronized
  have C0 : wk_C p s m _ meth c cJxf58ca_isNaN_12338 1 (some .boolean) wsJxf58ca_isNaN_12338 RJxf58ca := ⟨hx, hb, hml, hr, hlocks, hown, hts⟩
  have hP : va_P (dC, dI) vwCl [] s.heap := hP
  have hl := lv_entry ([.float x0]) (n := 1) (Nat.le_of_ble_eq_true rfl)
  rw [lg_entry_eq]
  generalize (lg_sl ([.float x0]) ++ List.replicate (1 - (lg_sl ([.float x0])).length) Slot.unset).toArray = ls at hl ⊢
  have hl : lv_has ls 1 [(0, .float x0)] := hl
  rw [f_Jxf58ca_isNaN_12338] at hf
  refine lv_fload_n hx hb dJxf58ca_isNaN_12338_0 rfl (lv_at hl 0 rfl) ?_
  refine lv_fload_n hx hb dJxf58ca_isNaN_12338_1 rfl (lv_at hl 0 rfl) ?_
  refine lv_fcmp hx hb dJxf58ca_isNaN_12338_2 ?_
  refine lv_if_eq (tgt := 10) hx hb dJxf58ca_isNaN_12338_3 (by decide) (fun q1 => ?_) (fun q1 => ?_)
  · have hf := wk_t hf q1
    refine lv_iconst (v := 0) hx hb dJxf58ca_isNaN_12338_10 (by decide) ?_
    have e0 := wke1 hf
    subst e0
    exact W.zret (v := 0) (ty := .boolean) hx hb hr rfl (fun t ht hW => ⟨0, rfl, rfl, ht⟩) (fun q h => absurd h List.not_mem_nil) dJxf58ca_isNaN_12338_11
  · have hf := wk_f hf q1
    refine lv_iconst (v := 1) hx hb dJxf58ca_isNaN_12338_6 (by decide) ?_
    refine lv_goto (tgt := 11) hx hb dJxf58ca_isNaN_12338_7 (by decide) ?_
    have e0 := wke1 hf
    subst e0
    exact W.zret (v := 1) (ty := .boolean) hx hb hr rfl (fun t ht hW => ⟨1, rfl, rfl, ht⟩) (fun q h => absurd h List.not_mem_nil) dJxf58ca_isNaN_12338_11
theorem kc_Jxf58ca_floatToIntBits_5c35a_RJxf58ca_77 : Cond.constant RJxf58ca 77 (2143289344) ∈ wsJxf58ca_floatToIntBits_5c35a := by decide +kernel
theorem na_Jxf58ca_floatToIntBits_5c35a_RJxf58ca_74 : Cond.methodLink RJxf58ca 74 ⟨"java/lang/Float", "floatToRawIntBits", "(F)I"⟩ ∈ wsJxf58ca_floatToIntBits_5c35a ∧ Cond.native ⟨"java/lang/Float", "floatToRawIntBits", "(F)I"⟩ ∈ wsJxf58ca_floatToIntBits_5c35a ∧ Cond.static ⟨"java/lang/Float", "floatToRawIntBits", "(F)I"⟩ ∈ wsJxf58ca_floatToIntBits_5c35a ∧ Cond.initialized "java/lang/Float" ∈ wsJxf58ca_floatToIntBits_5c35a := ⟨by decide +kernel, by decide +kernel, by decide +kernel, by decide +kernel⟩
def f_Jxf58ca_floatToIntBits_5c35a (x0 : UInt32) : Option (Int32) :=
  wkb1 (f_Jxf58ca_isNaN_12338 x0) (fun r1 =>
  if r1 = 0 then
    (some ((x0).toInt32))
  else
    (some ((2143289344))))
set_option maxHeartbeats 4000000 in
set_option maxRecDepth 100000 in
theorem c_Jxf58ca_floatToIntBits_5c35a (l : Launch) (dC : Nat → ClassId) (dI : Nat → Nat → Nat) (Y : Nat → ClassId)   (x0 : UInt32) (r : Int32) (hf : f_Jxf58ca_floatToIntBits_5c35a x0 = some (r)) : Met l yJxf58ca_floatToIntBits_5c35a wsJxf58ca_floatToIntBits_5c35a ({ frames := 1, cells := 0, slots := 0, locals := 24 } : Room) (va_Pc [.float x0] (wk_B (dC, dI) Y ([] : va_W))) (vp_Si (fun r2 => r2 = r)) 0 0 (fun _ => False) := by
  refine wk_ofWF (cc := cJxf58ca_floatToIntBits_5c35a) (maxL := 1) (ret := (some .int)) (by decide +kernel) rfl ?_
  intro p e s m args below meth c s₁ B hml hv
  obtain ⟨rfl, hP, hK⟩ := hv
  have hx := B.exec
  have hb := B.bytes
  have hr := B.returns
  have hts := atoms_spec (ws := wsJxf58ca_floatToIntBits_5c35a) B.pre
  have hown : s.vm.findClass RJxf58ca = some m.cls := findClass_of_methodNamed B.named
  have hlocks := B.notSynchronized
  have C0 : wk_C p s m _ meth c cJxf58ca_floatToIntBits_5c35a 1 (some .int) wsJxf58ca_floatToIntBits_5c35a RJxf58ca := ⟨hx, hb, hml, hr, hlocks, hown, hts⟩
  have hP : va_P (dC, dI) vwCl [] s.heap := hP
  have hl := lv_entry ([.float x0]) (n := 1) (Nat.le_of_ble_eq_true rfl)
  rw [lg_entry_eq]
  generalize (lg_sl ([.float x0]) ++ List.replicate (1 - (lg_sl ([.float x0])).length) Slot.unset).toArray = ls at hl ⊢
  have hl : lv_has ls 1 [(0, .float x0)] := hl
  rw [f_Jxf58ca_floatToIntBits_5c35a] at hf
  refine lv_fload_n hx hb dJxf58ca_floatToIntBits_5c35a_0 rfl (lv_at hl 0 rfl) ?_
  obtain ⟨r1, hr2, hf⟩ := wkb1_s hf
  have hPc := hP.sub (ws' := ([] : va_W)) [] rfl
  refine wk_si (As := [.float x0]) (rest := []) ⟨hx, hb, hml, hown, hts⟩ (c_Jxf58ca_isNaN_12338 l dC dI Y x0 r1 hr2) (va_cwS 1 hts gJxf58ca_floatToIntBits_5c35a_Jxf58ca_isNaN_12338 rfl rfl rfl (by decide +kernel) ⟨Nat.le_of_ble_eq_true rfl, Nat.le_of_ble_eq_true rfl⟩) hK hPc rfl hl.1 rfl (Nat.le_of_ble_eq_true rfl) dJxf58ca_floatToIntBits_5c35a_1 ⟨Nat.le_of_ble_eq_true rfl, Nat.le_of_ble_eq_true rfl⟩ ?_
  refine lv_if_ne (tgt := 12) hx hb dJxf58ca_floatToIntBits_5c35a_4 (by decide) (fun q3 => ?_) (fun q3 => ?_)
  · have hf := wk_f hf q3
    refine lv_ldc hx hb hown (hts _ kc_Jxf58ca_floatToIntBits_5c35a_RJxf58ca_77) dJxf58ca_floatToIntBits_5c35a_12 ?_
    have e0 := wke1 hf
    subst e0
    exact W.iret (v := (2143289344)) hx hb hr (fun t ht hW => ⟨(2143289344), rfl, rfl, ht⟩) (fun q h => absurd h List.not_mem_nil) dJxf58ca_floatToIntBits_5c35a_14
  · have hf := wk_t hf q3
    refine lv_fload_n hx hb dJxf58ca_floatToIntBits_5c35a_7 rfl (lv_at hl 0 rfl) ?_
    refine vn_f2i hx hb (hml.trans hl.1.symm) hown (hts _ na_Jxf58ca_floatToIntBits_5c35a_RJxf58ca_74.1) (hts _ na_Jxf58ca_floatToIntBits_5c35a_RJxf58ca_74.2.1) (hts _ na_Jxf58ca_floatToIntBits_5c35a_RJxf58ca_74.2.2.1) (hts _ na_Jxf58ca_floatToIntBits_5c35a_RJxf58ca_74.2.2.2) (Nat.le_of_ble_eq_true rfl) (Nat.le_of_ble_eq_true rfl) dJxf58ca_floatToIntBits_5c35a_8 ?_
    have e0 := wke1 hf
    subst e0
    exact W.iret (v := (x0).toInt32) hx hb hr (fun t ht hW => ⟨(x0).toInt32, rfl, rfl, ht⟩) (fun q h => absurd h List.not_mem_nil) dJxf58ca_floatToIntBits_5c35a_11
def f_Jxe99ae_isNaN_b9ae7 (x0 : UInt64) : Option (Int32) :=
  if (Op.cmpValue (FP.dcmp x0 x0) .l) = 0 then
    (some (0))
  else
    (some (1))
set_option maxHeartbeats 4000000 in
set_option maxRecDepth 100000 in
theorem c_Jxe99ae_isNaN_b9ae7 (l : Launch) (dC : Nat → ClassId) (dI : Nat → Nat → Nat) (Y : Nat → ClassId)   (x0 : UInt64) (r : Int32) (hf : f_Jxe99ae_isNaN_b9ae7 x0 = some (r)) : Met l yJxe99ae_isNaN_b9ae7 wsJxe99ae_isNaN_b9ae7 ({ frames := 0, cells := 0, slots := 0, locals := 0 } : Room) (va_Pc [.double x0] (wk_B (dC, dI) Y ([] : va_W))) (vp_Si (fun r2 => r2 = r)) 0 0 (fun _ => False) := by
  refine Met.ofW (cc := cJxe99ae_isNaN_b9ae7) (maxL := 2) (ret := (some .boolean)) (by decide) rfl ?_
  intro p e s m args below meth c s₁ B hml hv
  obtain ⟨rfl, hP, hK⟩ := hv
  have hx := B.exec
  have hb := B.bytes
  have hr := B.returns
  have hts := atoms_spec (ws := wsJxe99ae_isNaN_b9ae7) B.pre
  have hown : s.vm.findClass RJxe99ae = some m.cls := findClass_of_methodNamed B.named
  have hlocks := B.notSynchronized
  have C0 : wk_C p s m _ meth c cJxe99ae_isNaN_b9ae7 2 (some .boolean) wsJxe99ae_isNaN_b9ae7 RJxe99ae := ⟨hx, hb, hml, hr, hlocks, hown, hts⟩
  have hP : va_P (dC, dI) vwCl [] s.heap := hP
  have hl := lv_entry ([.double x0]) (n := 2) (Nat.le_of_ble_eq_true rfl)
  rw [lg_entry_eq]
  generalize (lg_sl ([.double x0]) ++ List.replicate (2 - (lg_sl ([.double x0])).length) Slot.unset).toArray = ls at hl ⊢
  have hl : lv_has ls 2 [(0, .double x0)] := hl
  rw [f_Jxe99ae_isNaN_b9ae7] at hf
  refine lv_dload_n hx hb dJxe99ae_isNaN_b9ae7_0 rfl (lv_at hl 0 rfl) ?_
  refine lv_dload_n hx hb dJxe99ae_isNaN_b9ae7_1 rfl (lv_at hl 0 rfl) ?_
  refine lv_dcmp hx hb dJxe99ae_isNaN_b9ae7_2 ?_
  refine lv_if_eq (tgt := 10) hx hb dJxe99ae_isNaN_b9ae7_3 (by decide) (fun q1 => ?_) (fun q1 => ?_)
  · have hf := wk_t hf q1
    refine lv_iconst (v := 0) hx hb dJxe99ae_isNaN_b9ae7_10 (by decide) ?_
    have e0 := wke1 hf
    subst e0
    exact W.zret (v := 0) (ty := .boolean) hx hb hr rfl (fun t ht hW => ⟨0, rfl, rfl, ht⟩) (fun q h => absurd h List.not_mem_nil) dJxe99ae_isNaN_b9ae7_11
  · have hf := wk_f hf q1
    refine lv_iconst (v := 1) hx hb dJxe99ae_isNaN_b9ae7_6 (by decide) ?_
    refine lv_goto (tgt := 11) hx hb dJxe99ae_isNaN_b9ae7_7 (by decide) ?_
    have e0 := wke1 hf
    subst e0
    exact W.zret (v := 1) (ty := .boolean) hx hb hr rfl (fun t ht hW => ⟨1, rfl, rfl, ht⟩) (fun q h => absurd h List.not_mem_nil) dJxe99ae_isNaN_b9ae7_11
theorem kd_Jxe99ae_doubleToLongBits_ccdee_RJxe99ae_137 : Cond.constantLong RJxe99ae 137 (9221120237041090560) ∈ wsJxe99ae_doubleToLongBits_ccdee := by decide +kernel
theorem na_Jxe99ae_doubleToLongBits_ccdee_RJxe99ae_134 : Cond.methodLink RJxe99ae 134 ⟨"java/lang/Double", "doubleToRawLongBits", "(D)J"⟩ ∈ wsJxe99ae_doubleToLongBits_ccdee ∧ Cond.native ⟨"java/lang/Double", "doubleToRawLongBits", "(D)J"⟩ ∈ wsJxe99ae_doubleToLongBits_ccdee ∧ Cond.static ⟨"java/lang/Double", "doubleToRawLongBits", "(D)J"⟩ ∈ wsJxe99ae_doubleToLongBits_ccdee ∧ Cond.initialized "java/lang/Double" ∈ wsJxe99ae_doubleToLongBits_ccdee := ⟨by decide +kernel, by decide +kernel, by decide +kernel, by decide +kernel⟩
def f_Jxe99ae_doubleToLongBits_ccdee (x0 : UInt64) : Option (Int64) :=
  wkb1 (f_Jxe99ae_isNaN_b9ae7 x0) (fun r1 =>
  if r1 = 0 then
    (some ((x0).toInt64))
  else
    (some ((9221120237041090560))))
set_option maxHeartbeats 4000000 in
set_option maxRecDepth 100000 in
theorem c_Jxe99ae_doubleToLongBits_ccdee (l : Launch) (dC : Nat → ClassId) (dI : Nat → Nat → Nat) (Y : Nat → ClassId)   (x0 : UInt64) (r : Int64) (hf : f_Jxe99ae_doubleToLongBits_ccdee x0 = some (r)) : Met l yJxe99ae_doubleToLongBits_ccdee wsJxe99ae_doubleToLongBits_ccdee ({ frames := 1, cells := 0, slots := 0, locals := 24 } : Room) (va_Pc [.double x0] (wk_B (dC, dI) Y ([] : va_W))) (vp_Sl (fun r2 => r2 = r)) 0 0 (fun _ => False) := by
  refine Met.ofW (cc := cJxe99ae_doubleToLongBits_ccdee) (maxL := 2) (ret := (some .long)) (by decide) rfl ?_
  intro p e s m args below meth c s₁ B hml hv
  obtain ⟨rfl, hP, hK⟩ := hv
  have hx := B.exec
  have hb := B.bytes
  have hr := B.returns
  have hts := atoms_spec (ws := wsJxe99ae_doubleToLongBits_ccdee) B.pre
  have hown : s.vm.findClass RJxe99ae = some m.cls := findClass_of_methodNamed B.named
  have hlocks := B.notSynchronized
  have C0 : wk_C p s m _ meth c cJxe99ae_doubleToLongBits_ccdee 2 (some .long) wsJxe99ae_doubleToLongBits_ccdee RJxe99ae := ⟨hx, hb, hml, hr, hlocks, hown, hts⟩
  have hP : va_P (dC, dI) vwCl [] s.heap := hP
  have hl := lv_entry ([.double x0]) (n := 2) (Nat.le_of_ble_eq_true rfl)
  rw [lg_entry_eq]
  generalize (lg_sl ([.double x0]) ++ List.replicate (2 - (lg_sl ([.double x0])).length) Slot.unset).toArray = ls at hl ⊢
  have hl : lv_has ls 2 [(0, .double x0)] := hl
  rw [f_Jxe99ae_doubleToLongBits_ccdee] at hf
  refine lv_dload_n hx hb dJxe99ae_doubleToLongBits_ccdee_0 rfl (lv_at hl 0 rfl) ?_
  obtain ⟨r1, hr2, hf⟩ := wkb1_s hf
  have hPc := hP.sub (ws' := ([] : va_W)) [] rfl
  refine wk_si (As := [.double x0]) (rest := []) ⟨hx, hb, hml, hown, hts⟩ (c_Jxe99ae_isNaN_b9ae7 l dC dI Y x0 r1 hr2) (va_cwS 1 hts gJxe99ae_doubleToLongBits_ccdee_Jxe99ae_isNaN_b9ae7 rfl rfl rfl (by decide +kernel) ⟨Nat.le_of_ble_eq_true rfl, Nat.le_of_ble_eq_true rfl⟩) hK hPc rfl hl.1 rfl (Nat.le_of_ble_eq_true rfl) dJxe99ae_doubleToLongBits_ccdee_1 ⟨Nat.le_of_ble_eq_true rfl, Nat.le_of_ble_eq_true rfl⟩ ?_
  refine lv_if_ne (tgt := 12) hx hb dJxe99ae_doubleToLongBits_ccdee_4 (by decide) (fun q3 => ?_) (fun q3 => ?_)
  · have hf := wk_f hf q3
    refine lv_ldc2 hx hb hown (hts _ kd_Jxe99ae_doubleToLongBits_ccdee_RJxe99ae_137) dJxe99ae_doubleToLongBits_ccdee_12 ?_
    have e0 := wke1 hf
    subst e0
    exact W.lret (v := (9221120237041090560)) hx hb hr (fun t ht hW => ⟨(9221120237041090560), rfl, rfl, ht⟩) (fun q h => absurd h List.not_mem_nil) dJxe99ae_doubleToLongBits_ccdee_15
  · have hf := wk_t hf q3
    refine lv_dload_n hx hb dJxe99ae_doubleToLongBits_ccdee_7 rfl (lv_at hl 0 rfl) ?_
    refine vn_d2l hx hb (hml.trans hl.1.symm) hown (hts _ na_Jxe99ae_doubleToLongBits_ccdee_RJxe99ae_134.1) (hts _ na_Jxe99ae_doubleToLongBits_ccdee_RJxe99ae_134.2.1) (hts _ na_Jxe99ae_doubleToLongBits_ccdee_RJxe99ae_134.2.2.1) (hts _ na_Jxe99ae_doubleToLongBits_ccdee_RJxe99ae_134.2.2.2) (Nat.le_of_ble_eq_true rfl) (Nat.le_of_ble_eq_true rfl) dJxe99ae_doubleToLongBits_ccdee_8 ?_
    have e0 := wke1 hf
    subst e0
    exact W.lret (v := (x0).toInt64) hx hb hr (fun t ht hW => ⟨(x0).toInt64, rfl, rfl, ht⟩) (fun q h => absurd h List.not_mem_nil) dJxe99ae_doubleToLongBits_ccdee_11
theorem kd_X1_of_RX1_7 : Cond.constantDouble RX1 7 (4611686018427387904) ∈ wsX1_of := by decide +kernel
def f_X1_of_L56 (x0 : UInt64) (x2 : Int32) (x3 : Int32) : Nat → Int64 → UInt64 → Int32 → Option (Int64)
  | 0, _, _, _ => none
  | nn + 1, x4, x6, x8 =>
    if x2 ≤ x8 then
      (gok ((FP.dsub x6 FP.dconst1) &&& 0x7fffffffffffffff ≤ 0x7ff0000000000000) (gok ((FP.dmul (FP.dsub x6 FP.dconst1) (FP.l2d ((1 : Int64) <<< ((x3).toInt64 &&& 63)))) &&& 0x7fffffffffffffff ≤ 0x7ff0000000000000) (some (((x4 <<< ((x3).toInt64 &&& 63)) + (FP.d2l (FP.dmul (FP.dsub x6 FP.dconst1) (FP.l2d ((1 : Int64) <<< ((x3).toInt64 &&& 63))))))))))
    else
      (if (0 : Int32) ≤ (Op.cmpValue (FP.dcmp x6 FP.dconst1) .g) then
        (gok ((FP.dsub x6 FP.dconst1) &&& 0x7fffffffffffffff ≤ 0x7ff0000000000000) (gok ((FP.dmul (FP.dsub x6 FP.dconst1) (FP.l2d ((1 : Int64) <<< ((x3).toInt64 &&& 63)))) &&& 0x7fffffffffffffff ≤ 0x7ff0000000000000) (some (((x4 <<< ((x3).toInt64 &&& 63)) + (FP.d2l (FP.dmul (FP.dsub x6 FP.dconst1) (FP.l2d ((1 : Int64) <<< ((x3).toInt64 &&& 63))))))))))
      else
        (gok ((FP.dmul x6 (4611686018427387904)) &&& 0x7fffffffffffffff ≤ 0x7ff0000000000000) (f_X1_of_L56 x0 x2 x3 nn (x4 - 1) (FP.dmul x6 (4611686018427387904)) (x8 + 1))))
def f_X1_of_L18 (x0 : UInt64) (x2 : Int32) (x3 : Int32) : Nat → Int64 → UInt64 → Int32 → Option (Int64)
  | 0, _, _, _ => none
  | nn + 1, x4, x6, x8 =>
    if x2 ≤ x8 then
      (f_X1_of_L56 x0 x2 x3 FU x4 x6 0)
    else
      (if (Op.cmpValue (FP.dcmp x6 (4611686018427387904)) .l) < 0 then
        (f_X1_of_L56 x0 x2 x3 FU x4 x6 0)
      else
        (gok ((FP.ddiv x6 (4611686018427387904)) &&& 0x7fffffffffffffff ≤ 0x7ff0000000000000) (f_X1_of_L18 x0 x2 x3 nn (x4 + 1) (FP.ddiv x6 (4611686018427387904)) (x8 + 1))))
def f_X1_of (x0 : UInt64) (x2 : Int32) (x3 : Int32) : Option (Int64) :=
  if (Op.cmpValue (FP.dcmp x0 FP.dconst0) .l) = 0 then
    (some (0))
  else
    (f_X1_of_L18 x0 x2 x3 FU ((x2).toInt64) x0 0)
set_option maxHeartbeats 4000000 in
set_option maxRecDepth 100000 in
theorem wl_X1_of_L56 {p : Program} {l : Launch} {e : Env} {s : State} {m : MethodId} {args : Array Value} {below : List Frame} {meth : Method} {c : Code} {dC : Nat → ClassId} {dI : Nat → Nat → Nat} {Y : Nat → ClassId}   {x0 : UInt64} {x2 : Int32} {x3 : Int32} {r : Int64}  (C0 : wk_C p s m args meth c cX1_of 10 (some .long) wsX1_of RX1) (hK : va_K (dC, dI) vwCl (vTy Y) s) (hP : va_P (dC, dI) vwCl ([] : va_W) s.heap) : ∀ (nn : Nat) (x4 : Int64) (x6 : UInt64) (x8 : Int32)  , f_X1_of_L56 x0 x2 x3 nn x4 x6 x8 = some (r) → ∀ (ls : Array Slot), lv_has ls 10 [(2, .int x2), (3, .int x3), (4, .long x4), (6, .double x6), (8, .int x8)] → W p l e (headSpec wsX1_of ({ frames := 0, cells := 0, slots := 0, locals := 0 } : Room)).room s m args below meth c s.heap [] 0 0 (MQ below (vp_Sl (fun r2 => r2 = r)) args s 0 0 (fun _ => False)) (F0 m 56 ls []) := by
  have C0 := C0
  obtain ⟨hx, hb, hml, hr, hlocks, hown, hts⟩ := id C0
  intro nn
  induction nn with
  | zero =>
    intro x4 x6 x8 hf
    rw [f_X1_of_L56] at hf
    cases hf
  | succ nn ih =>
    intro x4 x6 x8 hf ls hl
    rw [f_X1_of_L56] at hf
    have hP : va_P (dC, dI) vwCl [] s.heap := hP
    refine lv_iload hx hb dX1_of_56 (lv_at hl 4 rfl) ?_
    refine lv_iload_n hx hb dX1_of_58 rfl (lv_at hl 0 rfl) ?_
    refine lv_icmp_ge (tgt := 89) hx hb dX1_of_59 (by decide) (fun q1 => ?_) (fun q1 => ?_)
    · have hf := wk_t hf q1
      refine lv_dload hx hb dX1_of_89 (lv_at hl 3 rfl) ?_
      refine lv_dconst1 hx hb dX1_of_91 ?_
      obtain ⟨h2, hf⟩ := gok_s hf
      refine lv_dsub hx hb dX1_of_92 h2 ?_
      refine lv_lconst (v := 1) hx hb dX1_of_93 (by decide) ?_
      refine lv_iload_n hx hb dX1_of_94 rfl (lv_at hl 1 rfl) ?_
      refine lv_lshl hx hb dX1_of_95 rfl ?_
      refine lv_l2d hx hb dX1_of_96 ?_
      obtain ⟨h3, hf⟩ := gok_s hf
      refine lv_dmul hx hb dX1_of_97 h3 ?_
      refine lv_d2l hx hb dX1_of_98 ?_
      refine lv_lstore (lv' := [(8, .long (FP.d2l (FP.dmul (FP.dsub x6 FP.dconst1) (FP.l2d ((1 : Int64) <<< ((x3).toInt64 &&& 63)))))), (2, .int x2), (3, .int x3), (4, .long x4), (6, .double x6)]) hx hb dX1_of_99 hl (by decide) rfl (fun ls hl => ?_)
      refine lv_lload hx hb dX1_of_101 (lv_at hl 3 rfl) ?_
      refine lv_iload_n hx hb dX1_of_103 rfl (lv_at hl 2 rfl) ?_
      refine lv_lshl hx hb dX1_of_104 rfl ?_
      refine lv_lload hx hb dX1_of_105 (lv_at hl 0 rfl) ?_
      refine lv_ladd hx hb dX1_of_107 ?_
      have e0 := wke1 hf
      subst e0
      exact W.lret (v := ((x4 <<< ((x3).toInt64 &&& 63)) + (FP.d2l (FP.dmul (FP.dsub x6 FP.dconst1) (FP.l2d ((1 : Int64) <<< ((x3).toInt64 &&& 63))))))) hx hb hr (fun t ht hW => ⟨((x4 <<< ((x3).toInt64 &&& 63)) + (FP.d2l (FP.dmul (FP.dsub x6 FP.dconst1) (FP.l2d ((1 : Int64) <<< ((x3).toInt64 &&& 63)))))), rfl, rfl, ht⟩) (fun q h => absurd h List.not_mem_nil) dX1_of_108
    · have hf := wk_f hf q1
      refine lv_dload hx hb dX1_of_62 (lv_at hl 3 rfl) ?_
      refine lv_dconst1 hx hb dX1_of_64 ?_
      refine lv_dcmp hx hb dX1_of_65 ?_
      refine lv_if_ge (tgt := 89) hx hb dX1_of_66 (by decide) (fun q4 => ?_) (fun q4 => ?_)
      · have hf := wk_t hf q4
        refine lv_dload hx hb dX1_of_89 (lv_at hl 3 rfl) ?_
        refine lv_dconst1 hx hb dX1_of_91 ?_
        obtain ⟨h5, hf⟩ := gok_s hf
        refine lv_dsub hx hb dX1_of_92 h5 ?_
        refine lv_lconst (v := 1) hx hb dX1_of_93 (by decide) ?_
        refine lv_iload_n hx hb dX1_of_94 rfl (lv_at hl 1 rfl) ?_
        refine lv_lshl hx hb dX1_of_95 rfl ?_
        refine lv_l2d hx hb dX1_of_96 ?_
        obtain ⟨h6, hf⟩ := gok_s hf
        refine lv_dmul hx hb dX1_of_97 h6 ?_
        refine lv_d2l hx hb dX1_of_98 ?_
        refine lv_lstore (lv' := [(8, .long (FP.d2l (FP.dmul (FP.dsub x6 FP.dconst1) (FP.l2d ((1 : Int64) <<< ((x3).toInt64 &&& 63)))))), (2, .int x2), (3, .int x3), (4, .long x4), (6, .double x6)]) hx hb dX1_of_99 hl (by decide) rfl (fun ls hl => ?_)
        refine lv_lload hx hb dX1_of_101 (lv_at hl 3 rfl) ?_
        refine lv_iload_n hx hb dX1_of_103 rfl (lv_at hl 2 rfl) ?_
        refine lv_lshl hx hb dX1_of_104 rfl ?_
        refine lv_lload hx hb dX1_of_105 (lv_at hl 0 rfl) ?_
        refine lv_ladd hx hb dX1_of_107 ?_
        have e0 := wke1 hf
        subst e0
        exact W.lret (v := ((x4 <<< ((x3).toInt64 &&& 63)) + (FP.d2l (FP.dmul (FP.dsub x6 FP.dconst1) (FP.l2d ((1 : Int64) <<< ((x3).toInt64 &&& 63))))))) hx hb hr (fun t ht hW => ⟨((x4 <<< ((x3).toInt64 &&& 63)) + (FP.d2l (FP.dmul (FP.dsub x6 FP.dconst1) (FP.l2d ((1 : Int64) <<< ((x3).toInt64 &&& 63)))))), rfl, rfl, ht⟩) (fun q h => absurd h List.not_mem_nil) dX1_of_108
      · have hf := wk_f hf q4
        refine lv_dload hx hb dX1_of_69 (lv_at hl 3 rfl) ?_
        refine lv_ldc2d hx hb hown (hts _ kd_X1_of_RX1_7) dX1_of_71 ?_
        obtain ⟨h7, hf⟩ := gok_s hf
        refine lv_dmul hx hb dX1_of_74 h7 ?_
        refine lv_dstore (lv' := [(6, .double (FP.dmul x6 (4611686018427387904))), (2, .int x2), (3, .int x3), (4, .long x4), (8, .int x8)]) hx hb dX1_of_75 hl (by decide) rfl (fun ls hl => ?_)
        refine lv_lload hx hb dX1_of_77 (lv_at hl 3 rfl) ?_
        refine lv_lconst (v := 1) hx hb dX1_of_79 (by decide) ?_
        refine lv_lsub hx hb dX1_of_80 ?_
        refine lv_lstore (lv' := [(4, .long (x4 - 1)), (6, .double (FP.dmul x6 (4611686018427387904))), (2, .int x2), (3, .int x3), (8, .int x8)]) hx hb dX1_of_81 hl (by decide) rfl (fun ls hl => ?_)
        refine lv_iinc (v := (x8 + 1)) (lv' := [(8, .int (x8 + 1)), (4, .long (x4 - 1)), (6, .double (FP.dmul x6 (4611686018427387904))), (2, .int x2), (3, .int x3)]) hx hb dX1_of_83 hl (k := 4) rfl rfl (by decide) rfl (fun ls hl => ?_)
        refine lv_goto (tgt := 56) hx hb dX1_of_86 (by decide) ?_
        exact ih (x4 - 1) (FP.dmul x6 (4611686018427387904)) (x8 + 1) hf ls (lv_sub hl [3, 4, 1, 2, 0] rfl)
set_option maxHeartbeats 4000000 in
set_option maxRecDepth 100000 in
theorem wl_X1_of_L18 {p : Program} {l : Launch} {e : Env} {s : State} {m : MethodId} {args : Array Value} {below : List Frame} {meth : Method} {c : Code} {dC : Nat → ClassId} {dI : Nat → Nat → Nat} {Y : Nat → ClassId}   {x0 : UInt64} {x2 : Int32} {x3 : Int32} {r : Int64}  (C0 : wk_C p s m args meth c cX1_of 10 (some .long) wsX1_of RX1) (hK : va_K (dC, dI) vwCl (vTy Y) s) (hP : va_P (dC, dI) vwCl ([] : va_W) s.heap) : ∀ (nn : Nat) (x4 : Int64) (x6 : UInt64) (x8 : Int32)  , f_X1_of_L18 x0 x2 x3 nn x4 x6 x8 = some (r) → ∀ (ls : Array Slot), lv_has ls 10 [(2, .int x2), (3, .int x3), (4, .long x4), (6, .double x6), (8, .int x8)] → W p l e (headSpec wsX1_of ({ frames := 0, cells := 0, slots := 0, locals := 0 } : Room)).room s m args below meth c s.heap [] 0 0 (MQ below (vp_Sl (fun r2 => r2 = r)) args s 0 0 (fun _ => False)) (F0 m 18 ls []) := by
  have C0 := C0
  obtain ⟨hx, hb, hml, hr, hlocks, hown, hts⟩ := id C0
  intro nn
  induction nn with
  | zero =>
    intro x4 x6 x8 hf
    rw [f_X1_of_L18] at hf
    cases hf
  | succ nn ih =>
    intro x4 x6 x8 hf ls hl
    rw [f_X1_of_L18] at hf
    have hP : va_P (dC, dI) vwCl [] s.heap := hP
    refine lv_iload hx hb dX1_of_18 (lv_at hl 4 rfl) ?_
    refine lv_iload_n hx hb dX1_of_20 rfl (lv_at hl 0 rfl) ?_
    refine lv_icmp_ge (tgt := 53) hx hb dX1_of_21 (by decide) (fun q1 => ?_) (fun q1 => ?_)
    · have hf := wk_t hf q1
      refine lv_iconst (v := 0) hx hb dX1_of_53 (by decide) ?_
      refine lv_istore (lv' := [(8, .int 0), (2, .int x2), (3, .int x3), (4, .long x4), (6, .double x6)]) hx hb dX1_of_54 hl (by decide) rfl (fun ls hl => ?_)
      exact wl_X1_of_L56 C0 hK hP FU x4 x6 0 hf ls (lv_sub hl [1, 2, 3, 4, 0] rfl)
    · have hf := wk_f hf q1
      refine lv_dload hx hb dX1_of_24 (lv_at hl 3 rfl) ?_
      refine lv_ldc2d hx hb hown (hts _ kd_X1_of_RX1_7) dX1_of_26 ?_
      refine lv_dcmp hx hb dX1_of_29 ?_
      refine lv_if_lt (tgt := 53) hx hb dX1_of_30 (by decide) (fun q2 => ?_) (fun q2 => ?_)
      · have hf := wk_t hf q2
        refine lv_iconst (v := 0) hx hb dX1_of_53 (by decide) ?_
        refine lv_istore (lv' := [(8, .int 0), (2, .int x2), (3, .int x3), (4, .long x4), (6, .double x6)]) hx hb dX1_of_54 hl (by decide) rfl (fun ls hl => ?_)
        exact wl_X1_of_L56 C0 hK hP FU x4 x6 0 hf ls (lv_sub hl [1, 2, 3, 4, 0] rfl)
      · have hf := wk_f hf q2
        refine lv_dload hx hb dX1_of_33 (lv_at hl 3 rfl) ?_
        refine lv_ldc2d hx hb hown (hts _ kd_X1_of_RX1_7) dX1_of_35 ?_
        obtain ⟨h3, hf⟩ := gok_s hf
        refine lv_ddiv hx hb dX1_of_38 h3 ?_
        refine lv_dstore (lv' := [(6, .double (FP.ddiv x6 (4611686018427387904))), (2, .int x2), (3, .int x3), (4, .long x4), (8, .int x8)]) hx hb dX1_of_39 hl (by decide) rfl (fun ls hl => ?_)
        refine lv_lload hx hb dX1_of_41 (lv_at hl 3 rfl) ?_
        refine lv_lconst (v := 1) hx hb dX1_of_43 (by decide) ?_
        refine lv_ladd hx hb dX1_of_44 ?_
        refine lv_lstore (lv' := [(4, .long (x4 + 1)), (6, .double (FP.ddiv x6 (4611686018427387904))), (2, .int x2), (3, .int x3), (8, .int x8)]) hx hb dX1_of_45 hl (by decide) rfl (fun ls hl => ?_)
        refine lv_iinc (v := (x8 + 1)) (lv' := [(8, .int (x8 + 1)), (4, .long (x4 + 1)), (6, .double (FP.ddiv x6 (4611686018427387904))), (2, .int x2), (3, .int x3)]) hx hb dX1_of_47 hl (k := 4) rfl rfl (by decide) rfl (fun ls hl => ?_)
        refine lv_goto (tgt := 18) hx hb dX1_of_50 (by decide) ?_
        exact ih (x4 + 1) (FP.ddiv x6 (4611686018427387904)) (x8 + 1) hf ls (lv_sub hl [3, 4, 1, 2, 0] rfl)
set_option maxHeartbeats 4000000 in
set_option maxRecDepth 100000 in
theorem c_X1_of (l : Launch) (dC : Nat → ClassId) (dI : Nat → Nat → Nat) (Y : Nat → ClassId)   (x0 : UInt64) (x2 : Int32) (x3 : Int32) (r : Int64) (hf : f_X1_of x0 x2 x3 = some (r)) : Met l yX1_of wsX1_of ({ frames := 0, cells := 0, slots := 0, locals := 0 } : Room) (va_Pc [.double x0, .int x2, .int x3] (wk_B (dC, dI) Y ([] : va_W))) (vp_Sl (fun r2 => r2 = r)) 0 0 (fun _ => False) := by
  refine Met.ofW (cc := cX1_of) (maxL := 10) (ret := (some .long)) (by decide) rfl ?_
  intro p e s m args below meth c s₁ B hml hv
  obtain ⟨rfl, hP, hK⟩ := hv
  have hx := B.exec
  have hb := B.bytes
  have hr := B.returns
  have hts := atoms_spec (ws := wsX1_of) B.pre
  have hown : s.vm.findClass RX1 = some m.cls := findClass_of_methodNamed B.named
  have hlocks := B.notSynchronized
  have C0 : wk_C p s m _ meth c cX1_of 10 (some .long) wsX1_of RX1 := ⟨hx, hb, hml, hr, hlocks, hown, hts⟩
  have hP : va_P (dC, dI) vwCl [] s.heap := hP
  have hl := lv_entry ([.double x0, .int x2, .int x3]) (n := 10) (Nat.le_of_ble_eq_true rfl)
  rw [lg_entry_eq]
  generalize (lg_sl ([.double x0, .int x2, .int x3]) ++ List.replicate (10 - (lg_sl ([.double x0, .int x2, .int x3])).length) Slot.unset).toArray = ls at hl ⊢
  have hl : lv_has ls 10 [(0, .double x0), (2, .int x2), (3, .int x3)] := hl
  rw [f_X1_of] at hf
  refine lv_dload_n hx hb dX1_of_0 rfl (lv_at hl 0 rfl) ?_
  refine lv_dconst0 hx hb dX1_of_1 ?_
  refine lv_dcmp hx hb dX1_of_2 ?_
  refine lv_if_ne (tgt := 8) hx hb dX1_of_3 (by decide) (fun q1 => ?_) (fun q1 => ?_)
  · have hf := wk_f hf q1
    refine lv_iload_n hx hb dX1_of_8 rfl (lv_at hl 1 rfl) ?_
    refine lv_i2l hx hb dX1_of_9 rfl ?_
    refine lv_lstore (lv' := [(4, .long ((x2).toInt64)), (0, .double x0), (2, .int x2), (3, .int x3)]) hx hb dX1_of_10 hl (by decide) rfl (fun ls hl => ?_)
    refine lv_dload_n hx hb dX1_of_12 rfl (lv_at hl 1 rfl) ?_
    refine lv_dstore (lv' := [(6, .double x0), (4, .long ((x2).toInt64)), (0, .double x0), (2, .int x2), (3, .int x3)]) hx hb dX1_of_13 hl (by decide) rfl (fun ls hl => ?_)
    refine lv_iconst (v := 0) hx hb dX1_of_15 (by decide) ?_
    refine lv_istore (lv' := [(8, .int 0), (6, .double x0), (4, .long ((x2).toInt64)), (0, .double x0), (2, .int x2), (3, .int x3)]) hx hb dX1_of_16 hl (by decide) rfl (fun ls hl => ?_)
    exact wl_X1_of_L18 C0 hK hP FU ((x2).toInt64) x0 0 hf ls (lv_sub hl [4, 5, 2, 1, 0] rfl)
  · have hf := wk_t hf q1
    refine lv_lconst (v := 0) hx hb dX1_of_6 (by decide) ?_
    have e0 := wke1 hf
    subst e0
    exact W.lret (v := 0) hx hb hr (fun t ht hW => ⟨0, rfl, rfl, ht⟩) (fun q h => absurd h List.not_mem_nil) dX1_of_7
