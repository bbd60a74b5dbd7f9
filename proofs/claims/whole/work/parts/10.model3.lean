theorem lk_X11_writes_RX11_32 : Cond.fieldLink RX11 32 "CircusLedgerModel" "signs" "[C" ∈ wsX11_writes := by decide +kernel
theorem lk_X11_writes_RX11_188 : Cond.fieldLink RX11 188 "CircusLedgerModel" "signMany" "I" ∈ wsX11_writes := by decide +kernel
theorem in_X11_writes_X11 : ∀ w ∈ u_ws RX11 TX11 22, w ∈ wsX11_writes := by decide +kernel
def f_X11_writes (M_signs : Nat → Int32) (M_signMany : Int32) (x1 : Int32) : Option ((Nat → Int32) × Int32) :=
  gin M_signMany 100 (wkl (upd M_signs M_signMany.toNatClampNeg (vp_nar .char (((x1).toUInt32 % 65536).toInt32))) (fun g1 =>
  wkl ((M_signMany + 1)) (fun v3 =>
  some (g1, v3))))
set_option maxHeartbeats 4000000 in
set_option maxRecDepth 100000 in
theorem c_X11_writes (l : Launch) (dC : Nat → ClassId) (dI : Nat → Nat → Nat) (Y : Nat → ClassId) (a : Nat → Nat) (M_g : Nat → Int32) (M_kept : Nat → Int32) (M_saved : Nat → Int32) (M_before : Nat → Int32) (M_isSaved : Int32) (M_changes : Int32) (M_isWithin : Int32) (M_code : Int32) (M_input : Nat → Int32) (M_length : Int32) (M_fault : Int32) (M_failed : Int32) (M_signs : Nat → Int32) (M_signMany : Int32) (M_column : Nat → Int32) (M_loads : Nat → Int32) (M_many : Int32) (M_sums : Nat → Int32) (M_groups : Nat → Int32) (M_at : Int32) (M_told : Nat → Int32) (M_toldMany : Int32) (x1 : Int32) (sz : Nat) (zM_signs : Nat → Int32) (zM_signMany : Int32) (hf : f_X11_writes M_signs M_signMany x1 = some (zM_signs, zM_signMany)) : Met l yX11_writes wsX11_writes ({ frames := 0, cells := 0, slots := 0, locals := 0 } : Room) (va_Pc [.ref (a 0), .int x1] (wk_E (dC, dI) Y (wX11 Y a M_g M_kept M_saved M_before M_isSaved M_changes M_isWithin M_code M_input M_length M_fault M_failed M_signs M_signMany M_column M_loads M_many M_sums M_groups M_at M_told M_toldMany) sz)) (va_Qv (fun (_ : Unit) => True) (fun _ t => wk_X (dC, dI) Y (wX11 Y a M_g M_kept M_saved M_before M_isSaved M_changes M_isWithin M_code M_input M_length M_fault M_failed zM_signs zM_signMany M_column M_loads M_many M_sums M_groups M_at M_told M_toldMany) (va_A (wX11 Y a M_g M_kept M_saved M_before M_isSaved M_changes M_isWithin M_code M_input M_length M_fault M_failed M_signs M_signMany M_column M_loads M_many M_sums M_groups M_at M_told M_toldMany) sz) t) (va_A (wX11 Y a M_g M_kept M_saved M_before M_isSaved M_changes M_isWithin M_code M_input M_length M_fault M_failed M_signs M_signMany M_column M_loads M_many M_sums M_groups M_at M_told M_toldMany) sz)) 0 0 (va_A (wX11 Y a M_g M_kept M_saved M_before M_isSaved M_changes M_isWithin M_code M_input M_length M_fault M_failed M_signs M_signMany M_column M_loads M_many M_sums M_groups M_at M_told M_toldMany) sz) := by
  refine Met.ofW (cc := cX11_writes) (maxL := 2) (ret := none) (by decide) rfl ?_
  intro p e s m args below meth c s₁ B hml hv
  obtain ⟨rfl, hsz, hP, hK, hD0⟩ := hv
  have hx := B.exec
  have hb := B.bytes
  have hr := B.returns
  have hts := atoms_spec (ws := wsX11_writes) B.pre
  have hown : s.vm.findClass RX11 = some m.cls := findClass_of_methodNamed B.named
  have hlocks := B.notSynchronized
  have C0 : wk_C p s m _ meth c cX11_writes 2 none wsX11_writes RX11 := ⟨hx, hb, hml, hr, hlocks, hown, hts⟩
  subst hsz
  have hD := hD0.self (sz := s.heap.size)
  generalize hAe : va_A (wX11 Y a M_g M_kept M_saved M_before M_isSaved M_changes M_isWithin M_code M_input M_length M_fault M_failed M_signs M_signMany M_column M_loads M_many M_sums M_groups M_at M_told M_toldMany) s.heap.size = A at hD ⊢
  have hA : ∀ q : Nat, s.heap.size ≤ q → A q := fun q h => by rw [← hAe]; exact Or.inr h
  have hS : va_S A s.heap s.heap [] := va_S.rf
  obtain ⟨H, hHe⟩ : ∃ H, H = s.heap := ⟨_, rfl⟩
  have hS : va_S A s.heap H [] := by rw [hHe]; exact hS
  have hP : va_P (dC, dI) vwCl [(a 0, .inr (11, [.ref (a 1), .ref (a 2), .ref (a 3), .ref (a 4), .int M_isSaved, .int M_changes, .int M_isWithin, .int M_code, .ref (a 5), .int M_length, .int M_fault, .int M_failed, .ref (a 6), .int M_signMany, .ref (a 7), .ref (a 8), .int M_many, .ref (a 9), .ref (a 10), .int M_at, .ref (a 11), .int M_toldMany])), (a 1, .inl (Y 0, 238, .inl M_g)), (a 2, .inl (Y 0, 1904, .inl M_kept)), (a 3, .inl (Y 0, 238, .inl M_saved)), (a 4, .inl (Y 0, 238, .inl M_before)), (a 5, .inl (Y 0, 60, .inl M_input)), (a 6, .inl (Y 2, 100, .inl M_signs)), (a 7, .inl (Y 0, 6, .inl M_column)), (a 8, .inl (Y 0, 6, .inl M_loads)), (a 9, .inl (Y 0, 2048, .inl M_sums)), (a 10, .inl (Y 0, 2048, .inl M_groups)), (a 11, .inl (Y 0, 155, .inl M_told))] H := by rw [hHe]; exact hP
  have hD : va_D A [(a 0, .inr (11, [.ref (a 1), .ref (a 2), .ref (a 3), .ref (a 4), .int M_isSaved, .int M_changes, .int M_isWithin, .int M_code, .ref (a 5), .int M_length, .int M_fault, .int M_failed, .ref (a 6), .int M_signMany, .ref (a 7), .ref (a 8), .int M_many, .ref (a 9), .ref (a 10), .int M_at, .ref (a 11), .int M_toldMany])), (a 1, .inl (Y 0, 238, .inl M_g)), (a 2, .inl (Y 0, 1904, .inl M_kept)), (a 3, .inl (Y 0, 238, .inl M_saved)), (a 4, .inl (Y 0, 238, .inl M_before)), (a 5, .inl (Y 0, 60, .inl M_input)), (a 6, .inl (Y 2, 100, .inl M_signs)), (a 7, .inl (Y 0, 6, .inl M_column)), (a 8, .inl (Y 0, 6, .inl M_loads)), (a 9, .inl (Y 0, 2048, .inl M_sums)), (a 10, .inl (Y 0, 2048, .inl M_groups)), (a 11, .inl (Y 0, 155, .inl M_told))] := hD
  obtain ⟨locs, hlo⟩ : ∃ locs : List Loc, locs = [] := ⟨_, rfl⟩
  have hS : va_S A s.heap H locs := by rw [hlo]; exact hS
  have hl := lv_entry ([.ref (a 0), .int x1]) (n := 2) (Nat.le_of_ble_eq_true rfl)
  rw [lg_entry_eq]
  generalize (lg_sl ([.ref (a 0), .int x1]) ++ List.replicate (2 - (lg_sl ([.ref (a 0), .int x1])).length) Slot.unset).toArray = ls at hl ⊢
  have hl : lv_has ls 2 [(0, .ref (a 0)), (1, .int x1)] := hl
  refine wk_start hHe hlo ?_
  rw [f_X11_writes] at hf
  refine lv_aload_n hx hb dX11_writes_0 rfl (lv_at hl 0 rfl) ?_
  refine va_get (D := (dC, dI)) (ci := 11) (v := .ref (a 6)) (C := RX11) (T := TX11) (N := 22) hx hb hts in_X11_writes_X11 hown hK hP 0 rfl rfl 12 (by decide) (hts _ lk_X11_writes_RX11_32) (fun _ h9 => h9) rfl dX11_writes_1 ?_
  refine lv_aload_n hx hb dX11_writes_4 rfl (lv_at hl 0 rfl) ?_
  refine va_get (D := (dC, dI)) (ci := 11) (v := .int M_signMany) (C := RX11) (T := TX11) (N := 22) hx hb hts in_X11_writes_X11 hown hK hP 0 rfl rfl 13 (by decide) (hts _ lk_X11_writes_RX11_188) (fun _ h9 => h9) rfl dX11_writes_5 ?_
  refine lv_iload_n hx hb dX11_writes_8 rfl (lv_at hl 1 rfl) ?_
  refine lv_i2c hx hb dX11_writes_9 rfl ?_
  obtain ⟨h2, hf⟩ := gin_s hf
  refine wk_cast hx hb hK hP hD hS 6 2 (k := M_signMany.toNatClampNeg) rfl rfl h2 rfl dX11_writes_10 (fun g1 H locs eg1 hP hD hS => ?_)
  have hP : va_P (dC, dI) vwCl [(a 0, .inr (11, [.ref (a 1), .ref (a 2), .ref (a 3), .ref (a 4), .int M_isSaved, .int M_changes, .int M_isWithin, .int M_code, .ref (a 5), .int M_length, .int M_fault, .int M_failed, .ref (a 6), .int M_signMany, .ref (a 7), .ref (a 8), .int M_many, .ref (a 9), .ref (a 10), .int M_at, .ref (a 11), .int M_toldMany])), (a 1, .inl (Y 0, 238, .inl M_g)), (a 2, .inl (Y 0, 1904, .inl M_kept)), (a 3, .inl (Y 0, 238, .inl M_saved)), (a 4, .inl (Y 0, 238, .inl M_before)), (a 5, .inl (Y 0, 60, .inl M_input)), (a 6, .inl (Y 2, 100, .inl g1)), (a 7, .inl (Y 0, 6, .inl M_column)), (a 8, .inl (Y 0, 6, .inl M_loads)), (a 9, .inl (Y 0, 2048, .inl M_sums)), (a 10, .inl (Y 0, 2048, .inl M_groups)), (a 11, .inl (Y 0, 155, .inl M_told))] H := hP
  have hD : va_D A [(a 0, .inr (11, [.ref (a 1), .ref (a 2), .ref (a 3), .ref (a 4), .int M_isSaved, .int M_changes, .int M_isWithin, .int M_code, .ref (a 5), .int M_length, .int M_fault, .int M_failed, .ref (a 6), .int M_signMany, .ref (a 7), .ref (a 8), .int M_many, .ref (a 9), .ref (a 10), .int M_at, .ref (a 11), .int M_toldMany])), (a 1, .inl (Y 0, 238, .inl M_g)), (a 2, .inl (Y 0, 1904, .inl M_kept)), (a 3, .inl (Y 0, 238, .inl M_saved)), (a 4, .inl (Y 0, 238, .inl M_before)), (a 5, .inl (Y 0, 60, .inl M_input)), (a 6, .inl (Y 2, 100, .inl g1)), (a 7, .inl (Y 0, 6, .inl M_column)), (a 8, .inl (Y 0, 6, .inl M_loads)), (a 9, .inl (Y 0, 2048, .inl M_sums)), (a 10, .inl (Y 0, 2048, .inl M_groups)), (a 11, .inl (Y 0, 155, .inl M_told))] := hD
  have hf := wkl_s hf eg1
  refine lv_aload_n hx hb dX11_writes_11 rfl (lv_at hl 0 rfl) ?_
  refine lv_dup hx hb dX11_writes_12 rfl ?_
  refine va_get (D := (dC, dI)) (ci := 11) (v := .int M_signMany) (C := RX11) (T := TX11) (N := 22) hx hb hts in_X11_writes_X11 hown hK hP 0 rfl rfl 13 (by decide) (hts _ lk_X11_writes_RX11_188) (fun _ h9 => h9) rfl dX11_writes_13 ?_
  refine lv_iconst (v := 1) hx hb dX11_writes_16 (by decide) ?_
  refine lv_iadd hx hb dX11_writes_17 ?_
  refine lv_topi (fun v3 ev3 => ?_)
  have hf := wkl_s hf ev3
  refine va_put (D := (dC, dI)) (ci := 11) (v := .int v3) (ty := .int) (C := RX11) (T := TX11) (N := 22) hx hb hts in_X11_writes_X11 tyX11 tyX11_ok nmX11 hown hK hP hD hS 0 rfl rfl 13 (by decide) (hts _ lk_X11_writes_RX11_188) (fun _ h9 => h9) rfl (by decide +kernel) rfl rfl (Nat.le_of_ble_eq_true rfl) dX11_writes_18 (fun H locs hP hD hS => ?_)
  have hP : va_P (dC, dI) vwCl [(a 0, .inr (11, [.ref (a 1), .ref (a 2), .ref (a 3), .ref (a 4), .int M_isSaved, .int M_changes, .int M_isWithin, .int M_code, .ref (a 5), .int M_length, .int M_fault, .int M_failed, .ref (a 6), .int v3, .ref (a 7), .ref (a 8), .int M_many, .ref (a 9), .ref (a 10), .int M_at, .ref (a 11), .int M_toldMany])), (a 1, .inl (Y 0, 238, .inl M_g)), (a 2, .inl (Y 0, 1904, .inl M_kept)), (a 3, .inl (Y 0, 238, .inl M_saved)), (a 4, .inl (Y 0, 238, .inl M_before)), (a 5, .inl (Y 0, 60, .inl M_input)), (a 6, .inl (Y 2, 100, .inl g1)), (a 7, .inl (Y 0, 6, .inl M_column)), (a 8, .inl (Y 0, 6, .inl M_loads)), (a 9, .inl (Y 0, 2048, .inl M_sums)), (a 10, .inl (Y 0, 2048, .inl M_groups)), (a 11, .inl (Y 0, 155, .inl M_told))] H := hP
  have hD : va_D A [(a 0, .inr (11, [.ref (a 1), .ref (a 2), .ref (a 3), .ref (a 4), .int M_isSaved, .int M_changes, .int M_isWithin, .int M_code, .ref (a 5), .int M_length, .int M_fault, .int M_failed, .ref (a 6), .int v3, .ref (a 7), .ref (a 8), .int M_many, .ref (a 9), .ref (a 10), .int M_at, .ref (a 11), .int M_toldMany])), (a 1, .inl (Y 0, 238, .inl M_g)), (a 2, .inl (Y 0, 1904, .inl M_kept)), (a 3, .inl (Y 0, 238, .inl M_saved)), (a 4, .inl (Y 0, 238, .inl M_before)), (a 5, .inl (Y 0, 60, .inl M_input)), (a 6, .inl (Y 2, 100, .inl g1)), (a 7, .inl (Y 0, 6, .inl M_column)), (a 8, .inl (Y 0, 6, .inl M_loads)), (a 9, .inl (Y 0, 2048, .inl M_sums)), (a 10, .inl (Y 0, 2048, .inl M_groups)), (a 11, .inl (Y 0, 155, .inl M_told))] := hD
  obtain ⟨e0, e1⟩ := wke2 hf
  subst e0
  subst e1
  have hP9 := hP.sub (ws' := (wX11 Y a M_g M_kept M_saved M_before M_isSaved M_changes M_isWithin M_code M_input M_length M_fault M_failed g1 v3 M_column M_loads M_many M_sums M_groups M_at M_told M_toldMany)) [0, 1, 2, 3, 4, 5, 6, 7, 8, 9, 10, 11] rfl
  have hD9 := hD.sub (ws' := (wX11 Y a M_g M_kept M_saved M_before M_isSaved M_changes M_isWithin M_code M_input M_length M_fault M_failed g1 v3 M_column M_loads M_many M_sums M_groups M_at M_told M_toldMany)) [0, 1, 2, 3, 4, 5, 6, 7, 8, 9, 10, 11] (by decide) rfl
  exact W.vret hx hb hr (fun t ht hW => ⟨⟨(), rfl, trivial, by rw [ht]; exact hP9, va_K.moved hW.alike hK, hD9⟩, hS.F ht⟩) hS.2.2 dX11_writes_21
def f_X11_writesNumberb (F : Int32 → (Nat → Int32) → Int32 → Option ((Nat → Int32) × Int32)) (M_signs : Nat → Int32) (M_signMany : Int32) (x1 : Int32) : Option ((Nat → Int32) × Int32) :=
  if x1 ≤ 9 then
    (wkb2 (f_X11_writes M_signs M_signMany (48 + (x1 - x1 / 10 * 10))) (fun w2 w3 =>
    some (w2, w3)))
  else
    (wkb2 (F (x1 / 10) M_signs M_signMany) (fun w5 w6 =>
    wkb2 (f_X11_writes w5 w6 (48 + (x1 - x1 / 10 * 10))) (fun w8 w9 =>
    some (w8, w9))))
set_option maxHeartbeats 4000000 in
set_option maxRecDepth 100000 in
theorem c_X11_writesNumberb (l : Launch) (dC : Nat → ClassId) (dI : Nat → Nat → Nat) (Y : Nat → ClassId) (F : Int32 → (Nat → Int32) → Int32 → Option ((Nat → Int32) × Int32)) (fr lo : Nat) (a : Nat → Nat) (M_g : Nat → Int32) (M_kept : Nat → Int32) (M_saved : Nat → Int32) (M_before : Nat → Int32) (M_isSaved : Int32) (M_changes : Int32) (M_isWithin : Int32) (M_code : Int32) (M_input : Nat → Int32) (M_length : Int32) (M_fault : Int32) (M_failed : Int32) (M_signs : Nat → Int32) (M_signMany : Int32) (M_column : Nat → Int32) (M_loads : Nat → Int32) (M_many : Int32) (M_sums : Nat → Int32) (M_groups : Nat → Int32) (M_at : Int32) (M_told : Nat → Int32) (M_toldMany : Int32) (hF : ∀ (k0 : Int32) (hM_signs : Nat → Int32) (hM_signMany : Int32) (sz : Nat)  (zM_signs : Nat → Int32) (zM_signMany : Int32), F k0 hM_signs hM_signMany = some (zM_signs, zM_signMany) → Met l yX11_writesNumber wsX11_writesNumber ({ frames := fr, cells := 0, slots := 0, locals := lo } : Room) (va_Pc [.ref (a 0), .int k0] (wk_E (dC, dI) Y (wX11 Y a M_g M_kept M_saved M_before M_isSaved M_changes M_isWithin M_code M_input M_length M_fault M_failed hM_signs hM_signMany M_column M_loads M_many M_sums M_groups M_at M_told M_toldMany) sz)) (va_Qv (fun (_ : Unit) => True) (fun _ t => wk_X (dC, dI) Y (wX11 Y a M_g M_kept M_saved M_before M_isSaved M_changes M_isWithin M_code M_input M_length M_fault M_failed zM_signs zM_signMany M_column M_loads M_many M_sums M_groups M_at M_told M_toldMany) (va_A (wX11 Y a M_g M_kept M_saved M_before M_isSaved M_changes M_isWithin M_code M_input M_length M_fault M_failed hM_signs hM_signMany M_column M_loads M_many M_sums M_groups M_at M_told M_toldMany) sz) t) (va_A (wX11 Y a M_g M_kept M_saved M_before M_isSaved M_changes M_isWithin M_code M_input M_length M_fault M_failed hM_signs hM_signMany M_column M_loads M_many M_sums M_groups M_at M_told M_toldMany) sz)) 0 0 (va_A (wX11 Y a M_g M_kept M_saved M_before M_isSaved M_changes M_isWithin M_code M_input M_length M_fault M_failed hM_signs hM_signMany M_column M_loads M_many M_sums M_groups M_at M_told M_toldMany) sz)) (x1 : Int32) (sz : Nat) (zM_signs : Nat → Int32) (zM_signMany : Int32) (hf : f_X11_writesNumberb F M_signs M_signMany x1 = some (zM_signs, zM_signMany)) : Met l yX11_writesNumber wsX11_writesNumber ({ frames := fr + 4, cells := 0, slots := 0, locals := lo + 120 } : Room) (va_Pc [.ref (a 0), .int x1] (wk_E (dC, dI) Y (wX11 Y a M_g M_kept M_saved M_before M_isSaved M_changes M_isWithin M_code M_input M_length M_fault M_failed M_signs M_signMany M_column M_loads M_many M_sums M_groups M_at M_told M_toldMany) sz)) (va_Qv (fun (_ : Unit) => True) (fun _ t => wk_X (dC, dI) Y (wX11 Y a M_g M_kept M_saved M_before M_isSaved M_changes M_isWithin M_code M_input M_length M_fault M_failed zM_signs zM_signMany M_column M_loads M_many M_sums M_groups M_at M_told M_toldMany) (va_A (wX11 Y a M_g M_kept M_saved M_before M_isSaved M_changes M_isWithin M_code M_input M_length M_fault M_failed M_signs M_signMany M_column M_loads M_many M_sums M_groups M_at M_told M_toldMany) sz) t) (va_A (wX11 Y a M_g M_kept M_saved M_before M_isSaved M_changes M_isWithin M_code M_input M_length M_fault M_failed M_signs M_signMany M_column M_loads M_many M_sums M_groups M_at M_told M_toldMany) sz)) 0 0 (va_A (wX11 Y a M_g M_kept M_saved M_before M_isSaved M_changes M_isWithin M_code M_input M_length M_fault M_failed M_signs M_signMany M_column M_loads M_many M_sums M_groups M_at M_told M_toldMany) sz) := by
  refine Met.ofW (cc := cX11_writesNumber) (maxL := 2) (ret := none) (by decide) rfl ?_
  intro p e s m args below meth c s₁ B hml hv
  obtain ⟨rfl, hsz, hP, hK, hD0⟩ := hv
  have hx := B.exec
  have hb := B.bytes
  have hr := B.returns
  have hts := atoms_spec (ws := wsX11_writesNumber) B.pre
  have hown : s.vm.findClass RX11 = some m.cls := findClass_of_methodNamed B.named
  have hlocks := B.notSynchronized
  have C0 : wk_C p s m _ meth c cX11_writesNumber 2 none wsX11_writesNumber RX11 := ⟨hx, hb, hml, hr, hlocks, hown, hts⟩
  subst hsz
  have hD := hD0.self (sz := s.heap.size)
  generalize hAe : va_A (wX11 Y a M_g M_kept M_saved M_before M_isSaved M_changes M_isWithin M_code M_input M_length M_fault M_failed M_signs M_signMany M_column M_loads M_many M_sums M_groups M_at M_told M_toldMany) s.heap.size = A at hD ⊢
  have hA : ∀ q : Nat, s.heap.size ≤ q → A q := fun q h => by rw [← hAe]; exact Or.inr h
  have hS : va_S A s.heap s.heap [] := va_S.rf
  obtain ⟨H, hHe⟩ : ∃ H, H = s.heap := ⟨_, rfl⟩
  have hS : va_S A s.heap H [] := by rw [hHe]; exact hS
  have hP : va_P (dC, dI) vwCl [(a 0, .inr (11, [.ref (a 1), .ref (a 2), .ref (a 3), .ref (a 4), .int M_isSaved, .int M_changes, .int M_isWithin, .int M_code, .ref (a 5), .int M_length, .int M_fault, .int M_failed, .ref (a 6), .int M_signMany, .ref (a 7), .ref (a 8), .int M_many, .ref (a 9), .ref (a 10), .int M_at, .ref (a 11), .int M_toldMany])), (a 1, .inl (Y 0, 238, .inl M_g)), (a 2, .inl (Y 0, 1904, .inl M_kept)), (a 3, .inl (Y 0, 238, .inl M_saved)), (a 4, .inl (Y 0, 238, .inl M_before)), (a 5, .inl (Y 0, 60, .inl M_input)), (a 6, .inl (Y 2, 100, .inl M_signs)), (a 7, .inl (Y 0, 6, .inl M_column)), (a 8, .inl (Y 0, 6, .inl M_loads)), (a 9, .inl (Y 0, 2048, .inl M_sums)), (a 10, .inl (Y 0, 2048, .inl M_groups)), (a 11, .inl (Y 0, 155, .inl M_told))] H := by rw [hHe]; exact hP
  have hD : va_D A [(a 0, .inr (11, [.ref (a 1), .ref (a 2), .ref (a 3), .ref (a 4), .int M_isSaved, .int M_changes, .int M_isWithin, .int M_code, .ref (a 5), .int M_length, .int M_fault, .int M_failed, .ref (a 6), .int M_signMany, .ref (a 7), .ref (a 8), .int M_many, .ref (a 9), .ref (a 10), .int M_at, .ref (a 11), .int M_toldMany])), (a 1, .inl (Y 0, 238, .inl M_g)), (a 2, .inl (Y 0, 1904, .inl M_kept)), (a 3, .inl (Y 0, 238, .inl M_saved)), (a 4, .inl (Y 0, 238, .inl M_before)), (a 5, .inl (Y 0, 60, .inl M_input)), (a 6, .inl (Y 2, 100, .inl M_signs)), (a 7, .inl (Y 0, 6, .inl M_column)), (a 8, .inl (Y 0, 6, .inl M_loads)), (a 9, .inl (Y 0, 2048, .inl M_sums)), (a 10, .inl (Y 0, 2048, .inl M_groups)), (a 11, .inl (Y 0, 155, .inl M_told))] := hD
  obtain ⟨locs, hlo⟩ : ∃ locs : List Loc, locs = [] := ⟨_, rfl⟩
  have hS : va_S A s.heap H locs := by rw [hlo]; exact hS
  have hl := lv_entry ([.ref (a 0), .int x1]) (n := 2) (Nat.le_of_ble_eq_true rfl)
  rw [lg_entry_eq]
  generalize (lg_sl ([.ref (a 0), .int x1]) ++ List.replicate (2 - (lg_sl ([.ref (a 0), .int x1])).length) Slot.unset).toArray = ls at hl ⊢
  have hl : lv_has ls 2 [(0, .ref (a 0)), (1, .int x1)] := hl
  refine wk_start hHe hlo ?_
  rw [f_X11_writesNumberb] at hf
  refine lv_iload_n hx hb dX11_writesNumber_0 rfl (lv_at hl 1 rfl) ?_
  refine lv_bipush (v := 9) hx hb dX11_writesNumber_1 (by decide) ?_
  refine lv_icmp_le (tgt := 14) hx hb dX11_writesNumber_3 (by decide) (fun q1 => ?_) (fun q1 => ?_)
  · have hf := wk_t hf q1
    refine lv_aload_n hx hb dX11_writesNumber_14 rfl (lv_at hl 0 rfl) ?_
    refine lv_bipush (v := 48) hx hb dX11_writesNumber_15 (by decide) ?_
    refine lv_iload_n hx hb dX11_writesNumber_17 rfl (lv_at hl 1 rfl) ?_
    refine lv_bipush (v := 10) hx hb dX11_writesNumber_18 (by decide) ?_
    refine lv_irem hx hb dX11_writesNumber_20 (by decide) ?_
    refine lv_iadd hx hb dX11_writesNumber_21 ?_
    obtain ⟨w2, w3, hr4, hf⟩ := wkb2_s hf
    refine wk_evv (As := [.int (48 + (x1 - x1 / 10 * 10))]) (rest := []) (wc := (wX11 Y a M_g M_kept M_saved M_before M_isSaved M_changes M_isWithin M_code M_input M_length M_fault M_failed M_signs M_signMany M_column M_loads M_many M_sums M_groups M_at M_told M_toldMany)) (w1 := (wX11 Y a M_g M_kept M_saved M_before M_isSaved M_changes M_isWithin M_code M_input M_length M_fault M_failed w2 w3 M_column M_loads M_many M_sums M_groups M_at M_told M_toldMany)) (wr := []) ⟨hx, hb, hml, hown, hts⟩ (c_X11_writes l dC dI Y a M_g M_kept M_saved M_before M_isSaved M_changes M_isWithin M_code M_input M_length M_fault M_failed M_signs M_signMany M_column M_loads M_many M_sums M_groups M_at M_told M_toldMany (48 + (x1 - x1 / 10 * 10)) H.size w2 w3 hr4) (cwV 1 hts gX11_writesNumber_X11_writes rfl rfl rfl (by decide +kernel) ⟨show 0 + 1 ≤ fr + 4 by omega, show 8 + (2 + 11) + 0 ≤ lo + 120 by omega⟩) hK hP hD hS hA [0, 1, 2, 3, 4, 5, 6, 7, 8, 9, 10, 11] [] rfl rfl (by decide) (by decide) (by decide) (va_recv hK hP (ci := 11) (q0 := 0) rfl rfl) rfl hl.1 rfl (Nat.le_of_ble_eq_true rfl) dX11_writesNumber_22 ⟨Nat.le_of_ble_eq_true rfl, Nat.le_of_ble_eq_true rfl⟩ (fun H locs hP hD hS => ?_)
    have hP : va_P (dC, dI) vwCl [(a 0, .inr (11, [.ref (a 1), .ref (a 2), .ref (a 3), .ref (a 4), .int M_isSaved, .int M_changes, .int M_isWithin, .int M_code, .ref (a 5), .int M_length, .int M_fault, .int M_failed, .ref (a 6), .int w3, .ref (a 7), .ref (a 8), .int M_many, .ref (a 9), .ref (a 10), .int M_at, .ref (a 11), .int M_toldMany])), (a 1, .inl (Y 0, 238, .inl M_g)), (a 2, .inl (Y 0, 1904, .inl M_kept)), (a 3, .inl (Y 0, 238, .inl M_saved)), (a 4, .inl (Y 0, 238, .inl M_before)), (a 5, .inl (Y 0, 60, .inl M_input)), (a 6, .inl (Y 2, 100, .inl w2)), (a 7, .inl (Y 0, 6, .inl M_column)), (a 8, .inl (Y 0, 6, .inl M_loads)), (a 9, .inl (Y 0, 2048, .inl M_sums)), (a 10, .inl (Y 0, 2048, .inl M_groups)), (a 11, .inl (Y 0, 155, .inl M_told))] H := hP
    have hD : va_D A [(a 0, .inr (11, [.ref (a 1), .ref (a 2), .ref (a 3), .ref (a 4), .int M_isSaved, .int M_changes, .int M_isWithin, .int M_code, .ref (a 5), .int M_length, .int M_fault, .int M_failed, .ref (a 6), .int w3, .ref (a 7), .ref (a 8), .int M_many, .ref (a 9), .ref (a 10), .int M_at, .ref (a 11), .int M_toldMany])), (a 1, .inl (Y 0, 238, .inl M_g)), (a 2, .inl (Y 0, 1904, .inl M_kept)), (a 3, .inl (Y 0, 238, .inl M_saved)), (a 4, .inl (Y 0, 238, .inl M_before)), (a 5, .inl (Y 0, 60, .inl M_input)), (a 6, .inl (Y 2, 100, .inl w2)), (a 7, .inl (Y 0, 6, .inl M_column)), (a 8, .inl (Y 0, 6, .inl M_loads)), (a 9, .inl (Y 0, 2048, .inl M_sums)), (a 10, .inl (Y 0, 2048, .inl M_groups)), (a 11, .inl (Y 0, 155, .inl M_told))] := hD
    obtain ⟨e0, e1⟩ := wke2 hf
    subst e0
    subst e1
    have hP9 := hP.sub (ws' := (wX11 Y a M_g M_kept M_saved M_before M_isSaved M_changes M_isWithin M_code M_input M_length M_fault M_failed w2 w3 M_column M_loads M_many M_sums M_groups M_at M_told M_toldMany)) [0, 1, 2, 3, 4, 5, 6, 7, 8, 9, 10, 11] rfl
    have hD9 := hD.sub (ws' := (wX11 Y a M_g M_kept M_saved M_before M_isSaved M_changes M_isWithin M_code M_input M_length M_fault M_failed w2 w3 M_column M_loads M_many M_sums M_groups M_at M_told M_toldMany)) [0, 1, 2, 3, 4, 5, 6, 7, 8, 9, 10, 11] (by decide) rfl
    exact W.vret hx hb hr (fun t ht hW => ⟨⟨(), rfl, trivial, by rw [ht]; exact hP9, va_K.moved hW.alike hK, hD9⟩, hS.F ht⟩) hS.2.2 dX11_writesNumber_25
  · have hf := wk_f hf q1
    refine lv_aload_n hx hb dX11_writesNumber_6 rfl (lv_at hl 0 rfl) ?_
    refine lv_iload_n hx hb dX11_writesNumber_7 rfl (lv_at hl 1 rfl) ?_
    refine lv_bipush (v := 10) hx hb dX11_writesNumber_8 (by decide) ?_
    refine lv_idiv hx hb dX11_writesNumber_10 (by decide) ?_
    obtain ⟨w5, w6, hr7, hf⟩ := wkb2_s hf
    refine wk_evv (As := [.int (x1 / 10)]) (rest := []) (wc := (wX11 Y a M_g M_kept M_saved M_before M_isSaved M_changes M_isWithin M_code M_input M_length M_fault M_failed M_signs M_signMany M_column M_loads M_many M_sums M_groups M_at M_told M_toldMany)) (w1 := (wX11 Y a M_g M_kept M_saved M_before M_isSaved M_changes M_isWithin M_code M_input M_length M_fault M_failed w5 w6 M_column M_loads M_many M_sums M_groups M_at M_told M_toldMany)) (wr := []) ⟨hx, hb, hml, hown, hts⟩ (hF (x1 / 10) M_signs M_signMany H.size w5 w6 hr7) (cwV 1 hts gX11_writesNumber_X11_writesNumber rfl rfl rfl (by decide +kernel) ⟨show fr + 1 ≤ fr + 4 by omega, show 8 + (2 + 11) + lo ≤ lo + 120 by omega⟩) hK hP hD hS hA [0, 1, 2, 3, 4, 5, 6, 7, 8, 9, 10, 11] [] rfl rfl (by decide) (by decide) (by decide) (va_recv hK hP (ci := 11) (q0 := 0) rfl rfl) rfl hl.1 rfl (Nat.le_of_ble_eq_true rfl) dX11_writesNumber_11 ⟨Nat.zero_le _, Nat.zero_le _⟩ (fun H locs hP hD hS => ?_)
    have hP : va_P (dC, dI) vwCl [(a 0, .inr (11, [.ref (a 1), .ref (a 2), .ref (a 3), .ref (a 4), .int M_isSaved, .int M_changes, .int M_isWithin, .int M_code, .ref (a 5), .int M_length, .int M_fault, .int M_failed, .ref (a 6), .int w6, .ref (a 7), .ref (a 8), .int M_many, .ref (a 9), .ref (a 10), .int M_at, .ref (a 11), .int M_toldMany])), (a 1, .inl (Y 0, 238, .inl M_g)), (a 2, .inl (Y 0, 1904, .inl M_kept)), (a 3, .inl (Y 0, 238, .inl M_saved)), (a 4, .inl (Y 0, 238, .inl M_before)), (a 5, .inl (Y 0, 60, .inl M_input)), (a 6, .inl (Y 2, 100, .inl w5)), (a 7, .inl (Y 0, 6, .inl M_column)), (a 8, .inl (Y 0, 6, .inl M_loads)), (a 9, .inl (Y 0, 2048, .inl M_sums)), (a 10, .inl (Y 0, 2048, .inl M_groups)), (a 11, .inl (Y 0, 155, .inl M_told))] H := hP
    have hD : va_D A [(a 0, .inr (11, [.ref (a 1), .ref (a 2), .ref (a 3), .ref (a 4), .int M_isSaved, .int M_changes, .int M_isWithin, .int M_code, .ref (a 5), .int M_length, .int M_fault, .int M_failed, .ref (a 6), .int w6, .ref (a 7), .ref (a 8), .int M_many, .ref (a 9), .ref (a 10), .int M_at, .ref (a 11), .int M_toldMany])), (a 1, .inl (Y 0, 238, .inl M_g)), (a 2, .inl (Y 0, 1904, .inl M_kept)), (a 3, .inl (Y 0, 238, .inl M_saved)), (a 4, .inl (Y 0, 238, .inl M_before)), (a 5, .inl (Y 0, 60, .inl M_input)), (a 6, .inl (Y 2, 100, .inl w5)), (a 7, .inl (Y 0, 6, .inl M_column)), (a 8, .inl (Y 0, 6, .inl M_loads)), (a 9, .inl (Y 0, 2048, .inl M_sums)), (a 10, .inl (Y 0, 2048, .inl M_groups)), (a 11, .inl (Y 0, 155, .inl M_told))] := hD
    refine lv_aload_n hx hb dX11_writesNumber_14 rfl (lv_at hl 0 rfl) ?_
    refine lv_bipush (v := 48) hx hb dX11_writesNumber_15 (by decide) ?_
    refine lv_iload_n hx hb dX11_writesNumber_17 rfl (lv_at hl 1 rfl) ?_
    refine lv_bipush (v := 10) hx hb dX11_writesNumber_18 (by decide) ?_
    refine lv_irem hx hb dX11_writesNumber_20 (by decide) ?_
    refine lv_iadd hx hb dX11_writesNumber_21 ?_
    obtain ⟨w8, w9, hr10, hf⟩ := wkb2_s hf
    refine wk_evv (As := [.int (48 + (x1 - x1 / 10 * 10))]) (rest := []) (wc := (wX11 Y a M_g M_kept M_saved M_before M_isSaved M_changes M_isWithin M_code M_input M_length M_fault M_failed w5 w6 M_column M_loads M_many M_sums M_groups M_at M_told M_toldMany)) (w1 := (wX11 Y a M_g M_kept M_saved M_before M_isSaved M_changes M_isWithin M_code M_input M_length M_fault M_failed w8 w9 M_column M_loads M_many M_sums M_groups M_at M_told M_toldMany)) (wr := []) ⟨hx, hb, hml, hown, hts⟩ (c_X11_writes l dC dI Y a M_g M_kept M_saved M_before M_isSaved M_changes M_isWithin M_code M_input M_length M_fault M_failed w5 w6 M_column M_loads M_many M_sums M_groups M_at M_told M_toldMany (48 + (x1 - x1 / 10 * 10)) H.size w8 w9 hr10) (cwV 1 hts gX11_writesNumber_X11_writes rfl rfl rfl (by decide +kernel) ⟨show 0 + 1 ≤ fr + 4 by omega, show 8 + (2 + 11) + 0 ≤ lo + 120 by omega⟩) hK hP hD hS hA [0, 1, 2, 3, 4, 5, 6, 7, 8, 9, 10, 11] [] rfl rfl (by decide) (by decide) (by decide) (va_recv hK hP (ci := 11) (q0 := 0) rfl rfl) rfl hl.1 rfl (Nat.le_of_ble_eq_true rfl) dX11_writesNumber_22 ⟨Nat.le_of_ble_eq_true rfl, Nat.le_of_ble_eq_true rfl⟩ (fun H locs hP hD hS => ?_)
    have hP : va_P (dC, dI) vwCl [(a 0, .inr (11, [.ref (a 1), .ref (a 2), .ref (a 3), .ref (a 4), .int M_isSaved, .int M_changes, .int M_isWithin, .int M_code, .ref (a 5), .int M_length, .int M_fault, .int M_failed, .ref (a 6), .int w9, .ref (a 7), .ref (a 8), .int M_many, .ref (a 9), .ref (a 10), .int M_at, .ref (a 11), .int M_toldMany])), (a 1, .inl (Y 0, 238, .inl M_g)), (a 2, .inl (Y 0, 1904, .inl M_kept)), (a 3, .inl (Y 0, 238, .inl M_saved)), (a 4, .inl (Y 0, 238, .inl M_before)), (a 5, .inl (Y 0, 60, .inl M_input)), (a 6, .inl (Y 2, 100, .inl w8)), (a 7, .inl (Y 0, 6, .inl M_column)), (a 8, .inl (Y 0, 6, .inl M_loads)), (a 9, .inl (Y 0, 2048, .inl M_sums)), (a 10, .inl (Y 0, 2048, .inl M_groups)), (a 11, .inl (Y 0, 155, .inl M_told))] H := hP
    have hD : va_D A [(a 0, .inr (11, [.ref (a 1), .ref (a 2), .ref (a 3), .ref (a 4), .int M_isSaved, .int M_changes, .int M_isWithin, .int M_code, .ref (a 5), .int M_length, .int M_fault, .int M_failed, .ref (a 6), .int w9, .ref (a 7), .ref (a 8), .int M_many, .ref (a 9), .ref (a 10), .int M_at, .ref (a 11), .int M_toldMany])), (a 1, .inl (Y 0, 238, .inl M_g)), (a 2, .inl (Y 0, 1904, .inl M_kept)), (a 3, .inl (Y 0, 238, .inl M_saved)), (a 4, .inl (Y 0, 238, .inl M_before)), (a 5, .inl (Y 0, 60, .inl M_input)), (a 6, .inl (Y 2, 100, .inl w8)), (a 7, .inl (Y 0, 6, .inl M_column)), (a 8, .inl (Y 0, 6, .inl M_loads)), (a 9, .inl (Y 0, 2048, .inl M_sums)), (a 10, .inl (Y 0, 2048, .inl M_groups)), (a 11, .inl (Y 0, 155, .inl M_told))] := hD
    obtain ⟨e0, e1⟩ := wke2 hf
    subst e0
    subst e1
    have hP9 := hP.sub (ws' := (wX11 Y a M_g M_kept M_saved M_before M_isSaved M_changes M_isWithin M_code M_input M_length M_fault M_failed w8 w9 M_column M_loads M_many M_sums M_groups M_at M_told M_toldMany)) [0, 1, 2, 3, 4, 5, 6, 7, 8, 9, 10, 11] rfl
    have hD9 := hD.sub (ws' := (wX11 Y a M_g M_kept M_saved M_before M_isSaved M_changes M_isWithin M_code M_input M_length M_fault M_failed w8 w9 M_column M_loads M_many M_sums M_groups M_at M_told M_toldMany)) [0, 1, 2, 3, 4, 5, 6, 7, 8, 9, 10, 11] (by decide) rfl
    exact W.vret hx hb hr (fun t ht hW => ⟨⟨(), rfl, trivial, by rw [ht]; exact hP9, va_K.moved hW.alike hK, hD9⟩, hS.F ht⟩) hS.2.2 dX11_writesNumber_25
def f_X11_writesNumber  : Nat → Int32 → (Nat → Int32) → Int32 → Option ((Nat → Int32) × Int32)
  | 0, _, _, _ => none
  | rd + 1, x1, M_signs, M_signMany => f_X11_writesNumberb (f_X11_writesNumber  rd) M_signs M_signMany x1
theorem c_X11_writesNumber (l : Launch) (dC : Nat → ClassId) (dI : Nat → Nat → Nat) (Y : Nat → ClassId) : ∀ (rd : Nat) (a : Nat → Nat) (M_g : Nat → Int32) (M_kept : Nat → Int32) (M_saved : Nat → Int32) (M_before : Nat → Int32) (M_isSaved : Int32) (M_changes : Int32) (M_isWithin : Int32) (M_code : Int32) (M_input : Nat → Int32) (M_length : Int32) (M_fault : Int32) (M_failed : Int32) (M_signs : Nat → Int32) (M_signMany : Int32) (M_column : Nat → Int32) (M_loads : Nat → Int32) (M_many : Int32) (M_sums : Nat → Int32) (M_groups : Nat → Int32) (M_at : Int32) (M_told : Nat → Int32) (M_toldMany : Int32) (x1 : Int32) (sz : Nat) (zM_signs : Nat → Int32) (zM_signMany : Int32), f_X11_writesNumber  rd x1 M_signs M_signMany = some (zM_signs, zM_signMany) → Met l yX11_writesNumber wsX11_writesNumber ({ frames := 4 * rd, cells := 0, slots := 0, locals := 120 * rd } : Room) (va_Pc [.ref (a 0), .int x1] (wk_E (dC, dI) Y (wX11 Y a M_g M_kept M_saved M_before M_isSaved M_changes M_isWithin M_code M_input M_length M_fault M_failed M_signs M_signMany M_column M_loads M_many M_sums M_groups M_at M_told M_toldMany) sz)) (va_Qv (fun (_ : Unit) => True) (fun _ t => wk_X (dC, dI) Y (wX11 Y a M_g M_kept M_saved M_before M_isSaved M_changes M_isWithin M_code M_input M_length M_fault M_failed zM_signs zM_signMany M_column M_loads M_many M_sums M_groups M_at M_told M_toldMany) (va_A (wX11 Y a M_g M_kept M_saved M_before M_isSaved M_changes M_isWithin M_code M_input M_length M_fault M_failed M_signs M_signMany M_column M_loads M_many M_sums M_groups M_at M_told M_toldMany) sz) t) (va_A (wX11 Y a M_g M_kept M_saved M_before M_isSaved M_changes M_isWithin M_code M_input M_length M_fault M_failed M_signs M_signMany M_column M_loads M_many M_sums M_groups M_at M_told M_toldMany) sz)) 0 0 (va_A (wX11 Y a M_g M_kept M_saved M_before M_isSaved M_changes M_isWithin M_code M_input M_length M_fault M_failed M_signs M_signMany M_column M_loads M_many M_sums M_groups M_at M_told M_toldMany) sz) := by
  intro rd
  induction rd with
  | zero =>
    intro a M_g M_kept M_saved M_before M_isSaved M_changes M_isWithin M_code M_input M_length M_fault M_failed M_signs M_signMany M_column M_loads M_many M_sums M_groups M_at M_told M_toldMany x1 sz zM_signs zM_signMany hf
    rw [f_X11_writesNumber] at hf
    cases hf
  | succ rd ih =>
    intro a M_g M_kept M_saved M_before M_isSaved M_changes M_isWithin M_code M_input M_length M_fault M_failed M_signs M_signMany M_column M_loads M_many M_sums M_groups M_at M_told M_toldMany x1 sz zM_signs zM_signMany hf
    exact c_X11_writesNumberb l dC dI Y (f_X11_writesNumber  rd) (4 * rd) (120 * rd) a M_g M_kept M_saved M_before M_isSaved M_changes M_isWithin M_code M_input M_length M_fault M_failed M_signs M_signMany M_column M_loads M_many M_sums M_groups M_at M_told M_toldMany (fun k0 hM_signs hM_signMany sz zM_signs zM_signMany hf => ih a M_g M_kept M_saved M_before M_isSaved M_changes M_isWithin M_code M_input M_length M_fault M_failed hM_signs hM_signMany M_column M_loads M_many M_sums M_groups M_at M_told M_toldMany k0 sz zM_signs zM_signMany hf) x1 sz zM_signs zM_signMany hf
def f_X11_writesBehind (M_signs : Nat → Int32) (M_signMany : Int32) (x1 : Int32) (x2 : Int32) : Option ((Nat → Int32) × Int32) :=
  wkb2 (f_X11_writes M_signs M_signMany x1) (fun w1 w2 =>
  wkb2 (f_X11_writesNumber 11 x2 w1 w2) (fun w4 w5 =>
  some (w4, w5)))
set_option maxHeartbeats 4000000 in
set_option maxRecDepth 100000 in
theorem c_X11_writesBehind (l : Launch) (dC : Nat → ClassId) (dI : Nat → Nat → Nat) (Y : Nat → ClassId) (a : Nat → Nat) (M_g : Nat → Int32) (M_kept : Nat → Int32) (M_saved : Nat → Int32) (M_before : Nat → Int32) (M_isSaved : Int32) (M_changes : Int32) (M_isWithin : Int32) (M_code : Int32) (M_input : Nat → Int32) (M_length : Int32) (M_fault : Int32) (M_failed : Int32) (M_signs : Nat → Int32) (M_signMany : Int32) (M_column : Nat → Int32) (M_loads : Nat → Int32) (M_many : Int32) (M_sums : Nat → Int32) (M_groups : Nat → Int32) (M_at : Int32) (M_told : Nat → Int32) (M_toldMany : Int32) (x1 : Int32) (x2 : Int32) (sz : Nat) (zM_signs : Nat → Int32) (zM_signMany : Int32) (hf : f_X11_writesBehind M_signs M_signMany x1 x2 = some (zM_signs, zM_signMany)) : Met l yX11_writesBehind wsX11_writesBehind ({ frames := 45, cells := 0, slots := 0, locals := 1341 } : Room) (va_Pc [.ref (a 0), .int x1, .int x2] (wk_E (dC, dI) Y (wX11 Y a M_g M_kept M_saved M_before M_isSaved M_changes M_isWithin M_code M_input M_length M_fault M_failed M_signs M_signMany M_column M_loads M_many M_sums M_groups M_at M_told M_toldMany) sz)) (va_Qv (fun (_ : Unit) => True) (fun _ t => wk_X (dC, dI) Y (wX11 Y a M_g M_kept M_saved M_before M_isSaved M_changes M_isWithin M_code M_input M_length M_fault M_failed zM_signs zM_signMany M_column M_loads M_many M_sums M_groups M_at M_told M_toldMany) (va_A (wX11 Y a M_g M_kept M_saved M_before M_isSaved M_changes M_isWithin M_code M_input M_length M_fault M_failed M_signs M_signMany M_column M_loads M_many M_sums M_groups M_at M_told M_toldMany) sz) t) (va_A (wX11 Y a M_g M_kept M_saved M_before M_isSaved M_changes M_isWithin M_code M_input M_length M_fault M_failed M_signs M_signMany M_column M_loads M_many M_sums M_groups M_at M_told M_toldMany) sz)) 0 0 (va_A (wX11 Y a M_g M_kept M_saved M_before M_isSaved M_changes M_isWithin M_code M_input M_length M_fault M_failed M_signs M_signMany M_column M_loads M_many M_sums M_groups M_at M_told M_toldMany) sz) := by
  refine Met.ofW (cc := cX11_writesBehind) (maxL := 3) (ret := none) (by decide) rfl ?_
  intro p e s m args below meth c s₁ B hml hv
  obtain ⟨rfl, hsz, hP, hK, hD0⟩ := hv
  have hx := B.exec
  have hb := B.bytes
  have hr := B.returns
  have hts := atoms_spec (ws := wsX11_writesBehind) B.pre
  have hown : s.vm.findClass RX11 = some m.cls := findClass_of_methodNamed B.named
  have hlocks := B.notSynchronized
  have C0 : wk_C p s m _ meth c cX11_writesBehind 3 none wsX11_writesBehind RX11 := ⟨hx, hb, hml, hr, hlocks, hown, hts⟩
  subst hsz
  have hD := hD0.self (sz := s.heap.size)
  generalize hAe : va_A (wX11 Y a M_g M_kept M_saved M_before M_isSaved M_changes M_isWithin M_code M_input M_length M_fault M_failed M_signs M_signMany M_column M_loads M_many M_sums M_groups M_at M_told M_toldMany) s.heap.size = A at hD ⊢
  have hA : ∀ q : Nat, s.heap.size ≤ q → A q := fun q h => by rw [← hAe]; exact Or.inr h
  have hS : va_S A s.heap s.heap [] := va_S.rf
  obtain ⟨H, hHe⟩ : ∃ H, H = s.heap := ⟨_, rfl⟩
  have hS : va_S A s.heap H [] := by rw [hHe]; exact hS
  have hP : va_P (dC, dI) vwCl [(a 0, .inr (11, [.ref (a 1), .ref (a 2), .ref (a 3), .ref (a 4), .int M_isSaved, .int M_changes, .int M_isWithin, .int M_code, .ref (a 5), .int M_length, .int M_fault, .int M_failed, .ref (a 6), .int M_signMany, .ref (a 7), .ref (a 8), .int M_many, .ref (a 9), .ref (a 10), .int M_at, .ref (a 11), .int M_toldMany])), (a 1, .inl (Y 0, 238, .inl M_g)), (a 2, .inl (Y 0, 1904, .inl M_kept)), (a 3, .inl (Y 0, 238, .inl M_saved)), (a 4, .inl (Y 0, 238, .inl M_before)), (a 5, .inl (Y 0, 60, .inl M_input)), (a 6, .inl (Y 2, 100, .inl M_signs)), (a 7, .inl (Y 0, 6, .inl M_column)), (a 8, .inl (Y 0, 6, .inl M_loads)), (a 9, .inl (Y 0, 2048, .inl M_sums)), (a 10, .inl (Y 0, 2048, .inl M_groups)), (a 11, .inl (Y 0, 155, .inl M_told))] H := by rw [hHe]; exact hP
  have hD : va_D A [(a 0, .inr (11, [.ref (a 1), .ref (a 2), .ref (a 3), .ref (a 4), .int M_isSaved, .int M_changes, .int M_isWithin, .int M_code, .ref (a 5), .int M_length, .int M_fault, .int M_failed, .ref (a 6), .int M_signMany, .ref (a 7), .ref (a 8), .int M_many, .ref (a 9), .ref (a 10), .int M_at, .ref (a 11), .int M_toldMany])), (a 1, .inl (Y 0, 238, .inl M_g)), (a 2, .inl (Y 0, 1904, .inl M_kept)), (a 3, .inl (Y 0, 238, .inl M_saved)), (a 4, .inl (Y 0, 238, .inl M_before)), (a 5, .inl (Y 0, 60, .inl M_input)), (a 6, .inl (Y 2, 100, .inl M_signs)), (a 7, .inl (Y 0, 6, .inl M_column)), (a 8, .inl (Y 0, 6, .inl M_loads)), (a 9, .inl (Y 0, 2048, .inl M_sums)), (a 10, .inl (Y 0, 2048, .inl M_groups)), (a 11, .inl (Y 0, 155, .inl M_told))] := hD
  obtain ⟨locs, hlo⟩ : ∃ locs : List Loc, locs = [] := ⟨_, rfl⟩
  have hS : va_S A s.heap H locs := by rw [hlo]; exact hS
  have hl := lv_entry ([.ref (a 0), .int x1, .int x2]) (n := 3) (Nat.le_of_ble_eq_true rfl)
  rw [lg_entry_eq]
  generalize (lg_sl ([.ref (a 0), .int x1, .int x2]) ++ List.replicate (3 - (lg_sl ([.ref (a 0), .int x1, .int x2])).length) Slot.unset).toArray = ls at hl ⊢
  have hl : lv_has ls 3 [(0, .ref (a 0)), (1, .int x1), (2, .int x2)] := hl
  refine wk_start hHe hlo ?_
  rw [f_X11_writesBehind] at hf
  refine lv_aload_n hx hb dX11_writesBehind_0 rfl (lv_at hl 0 rfl) ?_
  refine lv_iload_n hx hb dX11_writesBehind_1 rfl (lv_at hl 1 rfl) ?_
  obtain ⟨w1, w2, hr3, hf⟩ := wkb2_s hf
  refine wk_evv (As := [.int x1]) (rest := []) (wc := (wX11 Y a M_g M_kept M_saved M_before M_isSaved M_changes M_isWithin M_code M_input M_length M_fault M_failed M_signs M_signMany M_column M_loads M_many M_sums M_groups M_at M_told M_toldMany)) (w1 := (wX11 Y a M_g M_kept M_saved M_before M_isSaved M_changes M_isWithin M_code M_input M_length M_fault M_failed w1 w2 M_column M_loads M_many M_sums M_groups M_at M_told M_toldMany)) (wr := []) ⟨hx, hb, hml, hown, hts⟩ (c_X11_writes l dC dI Y a M_g M_kept M_saved M_before M_isSaved M_changes M_isWithin M_code M_input M_length M_fault M_failed M_signs M_signMany M_column M_loads M_many M_sums M_groups M_at M_told M_toldMany x1 H.size w1 w2 hr3) (cwV 1 hts gX11_writesBehind_X11_writes rfl rfl rfl (by decide +kernel) ⟨Nat.le_of_ble_eq_true rfl, Nat.le_of_ble_eq_true rfl⟩) hK hP hD hS hA [0, 1, 2, 3, 4, 5, 6, 7, 8, 9, 10, 11] [] rfl rfl (by decide) (by decide) (by decide) (va_recv hK hP (ci := 11) (q0 := 0) rfl rfl) rfl hl.1 rfl (Nat.le_of_ble_eq_true rfl) dX11_writesBehind_2 ⟨Nat.le_of_ble_eq_true rfl, Nat.le_of_ble_eq_true rfl⟩ (fun H locs hP hD hS => ?_)
  have hP : va_P (dC, dI) vwCl [(a 0, .inr (11, [.ref (a 1), .ref (a 2), .ref (a 3), .ref (a 4), .int M_isSaved, .int M_changes, .int M_isWithin, .int M_code, .ref (a 5), .int M_length, .int M_fault, .int M_failed, .ref (a 6), .int w2, .ref (a 7), .ref (a 8), .int M_many, .ref (a 9), .ref (a 10), .int M_at, .ref (a 11), .int M_toldMany])), (a 1, .inl (Y 0, 238, .inl M_g)), (a 2, .inl (Y 0, 1904, .inl M_kept)), (a 3, .inl (Y 0, 238, .inl M_saved)), (a 4, .inl (Y 0, 238, .inl M_before)), (a 5, .inl (Y 0, 60, .inl M_input)), (a 6, .inl (Y 2, 100, .inl w1)), (a 7, .inl (Y 0, 6, .inl M_column)), (a 8, .inl (Y 0, 6, .inl M_loads)), (a 9, .inl (Y 0, 2048, .inl M_sums)), (a 10, .inl (Y 0, 2048, .inl M_groups)), (a 11, .inl (Y 0, 155, .inl M_told))] H := hP
  have hD : va_D A [(a 0, .inr (11, [.ref (a 1), .ref (a 2), .ref (a 3), .ref (a 4), .int M_isSaved, .int M_changes, .int M_isWithin, .int M_code, .ref (a 5), .int M_length, .int M_fault, .int M_failed, .ref (a 6), .int w2, .ref (a 7), .ref (a 8), .int M_many, .ref (a 9), .ref (a 10), .int M_at, .ref (a 11), .int M_toldMany])), (a 1, .inl (Y 0, 238, .inl M_g)), (a 2, .inl (Y 0, 1904, .inl M_kept)), (a 3, .inl (Y 0, 238, .inl M_saved)), (a 4, .inl (Y 0, 238, .inl M_before)), (a 5, .inl (Y 0, 60, .inl M_input)), (a 6, .inl (Y 2, 100, .inl w1)), (a 7, .inl (Y 0, 6, .inl M_column)), (a 8, .inl (Y 0, 6, .inl M_loads)), (a 9, .inl (Y 0, 2048, .inl M_sums)), (a 10, .inl (Y 0, 2048, .inl M_groups)), (a 11, .inl (Y 0, 155, .inl M_told))] := hD
  refine lv_aload_n hx hb dX11_writesBehind_5 rfl (lv_at hl 0 rfl) ?_
  refine lv_iload_n hx hb dX11_writesBehind_6 rfl (lv_at hl 2 rfl) ?_
  obtain ⟨w4, w5, hr6, hf⟩ := wkb2_s hf
  refine wk_evv (As := [.int x2]) (rest := []) (wc := (wX11 Y a M_g M_kept M_saved M_before M_isSaved M_changes M_isWithin M_code M_input M_length M_fault M_failed w1 w2 M_column M_loads M_many M_sums M_groups M_at M_told M_toldMany)) (w1 := (wX11 Y a M_g M_kept M_saved M_before M_isSaved M_changes M_isWithin M_code M_input M_length M_fault M_failed w4 w5 M_column M_loads M_many M_sums M_groups M_at M_told M_toldMany)) (wr := []) ⟨hx, hb, hml, hown, hts⟩ (c_X11_writesNumber l dC dI Y 11 a M_g M_kept M_saved M_before M_isSaved M_changes M_isWithin M_code M_input M_length M_fault M_failed w1 w2 M_column M_loads M_many M_sums M_groups M_at M_told M_toldMany x2 H.size w4 w5 hr6) (cwV 1 hts gX11_writesBehind_X11_writesNumber rfl rfl rfl (by decide +kernel) ⟨Nat.le_of_ble_eq_true rfl, Nat.le_of_ble_eq_true rfl⟩) hK hP hD hS hA [0, 1, 2, 3, 4, 5, 6, 7, 8, 9, 10, 11] [] rfl rfl (by decide) (by decide) (by decide) (va_recv hK hP (ci := 11) (q0 := 0) rfl rfl) rfl hl.1 rfl (Nat.le_of_ble_eq_true rfl) dX11_writesBehind_7 ⟨Nat.le_of_ble_eq_true rfl, Nat.le_of_ble_eq_true rfl⟩ (fun H locs hP hD hS => ?_)
  have hP : va_P (dC, dI) vwCl [(a 0, .inr (11, [.ref (a 1), .ref (a 2), .ref (a 3), .ref (a 4), .int M_isSaved, .int M_changes, .int M_isWithin, .int M_code, .ref (a 5), .int M_length, .int M_fault, .int M_failed, .ref (a 6), .int w5, .ref (a 7), .ref (a 8), .int M_many, .ref (a 9), .ref (a 10), .int M_at, .ref (a 11), .int M_toldMany])), (a 1, .inl (Y 0, 238, .inl M_g)), (a 2, .inl (Y 0, 1904, .inl M_kept)), (a 3, .inl (Y 0, 238, .inl M_saved)), (a 4, .inl (Y 0, 238, .inl M_before)), (a 5, .inl (Y 0, 60, .inl M_input)), (a 6, .inl (Y 2, 100, .inl w4)), (a 7, .inl (Y 0, 6, .inl M_column)), (a 8, .inl (Y 0, 6, .inl M_loads)), (a 9, .inl (Y 0, 2048, .inl M_sums)), (a 10, .inl (Y 0, 2048, .inl M_groups)), (a 11, .inl (Y 0, 155, .inl M_told))] H := hP
  have hD : va_D A [(a 0, .inr (11, [.ref (a 1), .ref (a 2), .ref (a 3), .ref (a 4), .int M_isSaved, .int M_changes, .int M_isWithin, .int M_code, .ref (a 5), .int M_length, .int M_fault, .int M_failed, .ref (a 6), .int w5, .ref (a 7), .ref (a 8), .int M_many, .ref (a 9), .ref (a 10), .int M_at, .ref (a 11), .int M_toldMany])), (a 1, .inl (Y 0, 238, .inl M_g)), (a 2, .inl (Y 0, 1904, .inl M_kept)), (a 3, .inl (Y 0, 238, .inl M_saved)), (a 4, .inl (Y 0, 238, .inl M_before)), (a 5, .inl (Y 0, 60, .inl M_input)), (a 6, .inl (Y 2, 100, .inl w4)), (a 7, .inl (Y 0, 6, .inl M_column)), (a 8, .inl (Y 0, 6, .inl M_loads)), (a 9, .inl (Y 0, 2048, .inl M_sums)), (a 10, .inl (Y 0, 2048, .inl M_groups)), (a 11, .inl (Y 0, 155, .inl M_told))] := hD
  obtain ⟨e0, e1⟩ := wke2 hf
  subst e0
  subst e1
  have hP9 := hP.sub (ws' := (wX11 Y a M_g M_kept M_saved M_before M_isSaved M_changes M_isWithin M_code M_input M_length M_fault M_failed w4 w5 M_column M_loads M_many M_sums M_groups M_at M_told M_toldMany)) [0, 1, 2, 3, 4, 5, 6, 7, 8, 9, 10, 11] rfl
  have hD9 := hD.sub (ws' := (wX11 Y a M_g M_kept M_saved M_before M_isSaved M_changes M_isWithin M_code M_input M_length M_fault M_failed w4 w5 M_column M_loads M_many M_sums M_groups M_at M_told M_toldMany)) [0, 1, 2, 3, 4, 5, 6, 7, 8, 9, 10, 11] (by decide) rfl
  exact W.vret hx hb hr (fun t ht hW => ⟨⟨(), rfl, trivial, by rw [ht]; exact hP9, va_K.moved hW.alike hK, hD9⟩, hS.F ht⟩) hS.2.2 dX11_writesBehind_10
theorem lk_X11_renderColumn_RX11_36 : Cond.fieldLink RX11 36 "CircusLedgerModel" "column" "[I" ∈ wsX11_renderColumn := by decide +kernel
theorem lk_X11_renderColumn_RX11_39 : Cond.fieldLink RX11 39 "CircusLedgerModel" "loads" "[I" ∈ wsX11_renderColumn := by decide +kernel
theorem lk_X11_renderColumn_RX11_95 : Cond.fieldLink RX11 95 "CircusLedgerModel" "many" "I" ∈ wsX11_renderColumn := by decide +kernel
theorem lk_X11_renderColumn_RX11_188 : Cond.fieldLink RX11 188 "CircusLedgerModel" "signMany" "I" ∈ wsX11_renderColumn := by decide +kernel
theorem in_X11_renderColumn_X11 : ∀ w ∈ u_ws RX11 TX11 22, w ∈ wsX11_renderColumn := by decide +kernel
def f_X11_renderColumn_L35 (M_g : Nat → Int32) (x1 : Int32) (K17 : Int32 → Int32 → (Nat → Int32) → Int32 → (Nat → Int32) → (Nat → Int32) → Int32 → Option (Int32 × Int32 × (Nat → Int32) × Int32 × (Nat → Int32) × (Nat → Int32) × Int32)) (x2 : Int32) (M_code : Int32) (M_signs : (Nat → Int32)) (M_signMany : Int32) (M_column : (Nat → Int32)) (M_loads : (Nat → Int32)) (M_many : Int32) : Option (Int32 × Int32 × (Nat → Int32) × Int32 × (Nat → Int32) × (Nat → Int32) × Int32) :=
    gin x2 6 (wkb2 (f_X11_writesNumber 11 (M_column x2.toNatClampNeg) M_signs M_signMany) (fun w2 w3 =>
    gin x2 6 (wkb2 (f_X11_writesBehind w2 w3 40 (M_loads x2.toNatClampNeg)) (fun w6 w7 =>
    gin x2 6 (wkb1 (f_X11_of M_g (M_column x2.toNatClampNeg) 1) (fun r10 =>
    wkb2 (f_X11_writesBehind w6 w7 47 r10) (fun w12 w13 =>
    wkb2 (f_X11_writes w12 w13 41) (fun w15 w16 =>
    wkb1 (f_X11_breaks M_g M_column M_loads M_many) (fun r18 =>
    if x2 = r18 then
      (wkb2 (f_X11_writes w15 w16 33) (fun w21 w22 =>
      K17 (x2 + 1) M_code w21 w22 M_column M_loads M_many))
    else
      (K17 (x2 + 1) M_code w15 w16 M_column M_loads M_many))))))))))
def f_X11_renderColumn_L17 (M_g : Nat → Int32) (x1 : Int32) : Nat → Int32 → Int32 → (Nat → Int32) → Int32 → (Nat → Int32) → (Nat → Int32) → Int32 → Option (Int32 × Int32 × (Nat → Int32) × Int32 × (Nat → Int32) × (Nat → Int32) × Int32)
  | 0, _, _, _, _, _, _, _ => none
  | nn + 1, x2, M_code, M_signs, M_signMany, M_column, M_loads, M_many =>
    if M_many ≤ x2 then
      (some (M_signMany, M_code, M_signs, M_signMany, M_column, M_loads, M_many))
    else
      (if x2 ≤ 0 then
        (f_X11_renderColumn_L35 M_g x1 (f_X11_renderColumn_L17 M_g x1 nn) x2 M_code M_signs M_signMany M_column M_loads M_many)
      else
        (wkb2 (f_X11_writes M_signs M_signMany 32) (fun w3 w4 =>
        f_X11_renderColumn_L35 M_g x1 (f_X11_renderColumn_L17 M_g x1 nn) x2 M_code w3 w4 M_column M_loads M_many)))
def f_X11_renderColumn (M_g : Nat → Int32) (M_code : Int32) (M_signs : Nat → Int32) (M_signMany : Int32) (M_column : Nat → Int32) (M_loads : Nat → Int32) (M_many : Int32) (x1 : Int32) : Option (Int32 × Int32 × (Nat → Int32) × Int32 × (Nat → Int32) × (Nat → Int32) × Int32) :=
  wkb5 (f_X11_isWrong M_g M_code M_column M_loads M_many x1) (fun r1 w2 w3 w4 w5 =>
  if r1 = 0 then
    (f_X11_renderColumn_L17 M_g x1 FU 0 w2 M_signs 0 w3 w4 w5)
  else
    (some (0, w2, M_signs, M_signMany, w3, w4, w5)))
set_option maxHeartbeats 4000000 in
set_option maxRecDepth 100000 in
theorem wl_X11_renderColumn_L35 {p : Program} {l : Launch} {e : Env} {s : State} {m : MethodId} {args : Array Value} {below : List Frame} {meth : Method} {c : Code} {dC : Nat → ClassId} {dI : Nat → Nat → Nat} {Y : Nat → ClassId} {a : Nat → Nat} {M_g : Nat → Int32} {M_kept : Nat → Int32} {M_saved : Nat → Int32} {M_before : Nat → Int32} {M_isSaved : Int32} {M_changes : Int32} {M_isWithin : Int32} {M_input : Nat → Int32} {M_length : Int32} {M_fault : Int32} {M_failed : Int32} {M_sums : Nat → Int32} {M_groups : Nat → Int32} {M_at : Int32} {M_told : Nat → Int32} {M_toldMany : Int32} {x1 : Int32} {r : Int32} {zM_code : Int32} {zM_signs : Nat → Int32} {zM_signMany : Int32} {zM_column : Nat → Int32} {zM_loads : Nat → Int32} {zM_many : Int32} {K17 : Int32 → Int32 → (Nat → Int32) → Int32 → (Nat → Int32) → (Nat → Int32) → Int32 → Option (Int32 × Int32 × (Nat → Int32) × Int32 × (Nat → Int32) × (Nat → Int32) × Int32)} (C0 : wk_C p s m args meth c cX11_renderColumn 3 (some .int) wsX11_renderColumn RX11) {A : Nat → Prop} (hK : va_K (dC, dI) vwCl (vTy Y) s) (hA : ∀ q, s.heap.size ≤ q → A q) (hK17 : ∀ (x2 : Int32) (M_code : Int32) (M_signs : Nat → Int32) (M_signMany : Int32) (M_column : Nat → Int32) (M_loads : Nat → Int32) (M_many : Int32), K17 x2 M_code M_signs M_signMany M_column M_loads M_many = some (r, zM_code, zM_signs, zM_signMany, zM_column, zM_loads, zM_many) → ∀ (H : Heap) (locs : List Loc), va_P (dC, dI) vwCl (wX11 Y a M_g M_kept M_saved M_before M_isSaved M_changes M_isWithin M_code M_input M_length M_fault M_failed M_signs M_signMany M_column M_loads M_many M_sums M_groups M_at M_told M_toldMany) H → va_D A (wX11 Y a M_g M_kept M_saved M_before M_isSaved M_changes M_isWithin M_code M_input M_length M_fault M_failed M_signs M_signMany M_column M_loads M_many M_sums M_groups M_at M_told M_toldMany) → va_S A s.heap H locs → ∀ (ls : Array Slot), lv_has ls 3 [(0, .ref (a 0)), (2, .int x2)] → W p l e (headSpec wsX11_renderColumn ({ frames := 46, cells := 0, slots := 0, locals := 1363 } : Room)).room s m args below meth c H locs 0 0 (MQ below (va_Qi (fun r2 (_ : Unit) => r2 = r) (fun _ t => wk_X (dC, dI) Y (wX11 Y a M_g M_kept M_saved M_before M_isSaved M_changes M_isWithin zM_code M_input M_length M_fault M_failed zM_signs zM_signMany zM_column zM_loads zM_many M_sums M_groups M_at M_told M_toldMany) A t) A) args s 0 0 A) (F0 m 17 ls [])) : ∀ (x2 : Int32)  (M_code : Int32) (M_signs : Nat → Int32) (M_signMany : Int32) (M_column : Nat → Int32) (M_loads : Nat → Int32) (M_many : Int32), f_X11_renderColumn_L35 M_g x1 K17 x2 M_code M_signs M_signMany M_column M_loads M_many = some (r, zM_code, zM_signs, zM_signMany, zM_column, zM_loads, zM_many) → ∀ (H : Heap) (locs : List Loc), va_P (dC, dI) vwCl (wX11 Y a M_g M_kept M_saved M_before M_isSaved M_changes M_isWithin M_code M_input M_length M_fault M_failed M_signs M_signMany M_column M_loads M_many M_sums M_groups M_at M_told M_toldMany) H → va_D A (wX11 Y a M_g M_kept M_saved M_before M_isSaved M_changes M_isWithin M_code M_input M_length M_fault M_failed M_signs M_signMany M_column M_loads M_many M_sums M_groups M_at M_told M_toldMany) → va_S A s.heap H locs → ∀ (ls : Array Slot), lv_has ls 3 [(0, .ref (a 0)), (2, .int x2)] → W p l e (headSpec wsX11_renderColumn ({ frames := 46, cells := 0, slots := 0, locals := 1363 } : Room)).room s m args below meth c H locs 0 0 (MQ below (va_Qi (fun r2 (_ : Unit) => r2 = r) (fun _ t => wk_X (dC, dI) Y (wX11 Y a M_g M_kept M_saved M_before M_isSaved M_changes M_isWithin zM_code M_input M_length M_fault M_failed zM_signs zM_signMany zM_column zM_loads zM_many M_sums M_groups M_at M_told M_toldMany) A t) A) args s 0 0 A) (F0 m 35 ls []) := by
  obtain ⟨hx, hb, hml, hr, hlocks, hown, hts⟩ := id C0
  intro x2 M_code M_signs M_signMany M_column M_loads M_many hf H locs hP hD hS ls hl
  rw [f_X11_renderColumn_L35] at hf
  have hP : va_P (dC, dI) vwCl [(a 0, .inr (11, [.ref (a 1), .ref (a 2), .ref (a 3), .ref (a 4), .int M_isSaved, .int M_changes, .int M_isWithin, .int M_code, .ref (a 5), .int M_length, .int M_fault, .int M_failed, .ref (a 6), .int M_signMany, .ref (a 7), .ref (a 8), .int M_many, .ref (a 9), .ref (a 10), .int M_at, .ref (a 11), .int M_toldMany])), (a 1, .inl (Y 0, 238, .inl M_g)), (a 2, .inl (Y 0, 1904, .inl M_kept)), (a 3, .inl (Y 0, 238, .inl M_saved)), (a 4, .inl (Y 0, 238, .inl M_before)), (a 5, .inl (Y 0, 60, .inl M_input)), (a 6, .inl (Y 2, 100, .inl M_signs)), (a 7, .inl (Y 0, 6, .inl M_column)), (a 8, .inl (Y 0, 6, .inl M_loads)), (a 9, .inl (Y 0, 2048, .inl M_sums)), (a 10, .inl (Y 0, 2048, .inl M_groups)), (a 11, .inl (Y 0, 155, .inl M_told))] H := hP
  have hD : va_D A [(a 0, .inr (11, [.ref (a 1), .ref (a 2), .ref (a 3), .ref (a 4), .int M_isSaved, .int M_changes, .int M_isWithin, .int M_code, .ref (a 5), .int M_length, .int M_fault, .int M_failed, .ref (a 6), .int M_signMany, .ref (a 7), .ref (a 8), .int M_many, .ref (a 9), .ref (a 10), .int M_at, .ref (a 11), .int M_toldMany])), (a 1, .inl (Y 0, 238, .inl M_g)), (a 2, .inl (Y 0, 1904, .inl M_kept)), (a 3, .inl (Y 0, 238, .inl M_saved)), (a 4, .inl (Y 0, 238, .inl M_before)), (a 5, .inl (Y 0, 60, .inl M_input)), (a 6, .inl (Y 2, 100, .inl M_signs)), (a 7, .inl (Y 0, 6, .inl M_column)), (a 8, .inl (Y 0, 6, .inl M_loads)), (a 9, .inl (Y 0, 2048, .inl M_sums)), (a 10, .inl (Y 0, 2048, .inl M_groups)), (a 11, .inl (Y 0, 155, .inl M_told))] := hD
  refine lv_aload_n hx hb dX11_renderColumn_35 rfl (lv_at hl 0 rfl) ?_
  refine lv_aload_n hx hb dX11_renderColumn_36 rfl (lv_at hl 0 rfl) ?_
  refine va_get (D := (dC, dI)) (ci := 11) (v := .ref (a 7)) (C := RX11) (T := TX11) (N := 22) hx hb hts in_X11_renderColumn_X11 hown hK hP 0 rfl rfl 14 (by decide) (hts _ lk_X11_renderColumn_RX11_36) (fun _ h9 => h9) rfl dX11_renderColumn_37 ?_
  refine lv_iload_n hx hb dX11_renderColumn_40 rfl (lv_at hl 1 rfl) ?_
  obtain ⟨h1, hf⟩ := gin_s hf
  refine wk_iald hx hb hK hP 7 0 rfl rfl h1 rfl dX11_renderColumn_41 ?_
  obtain ⟨w2, w3, hr4, hf⟩ := wkb2_s hf
  refine wk_evv (As := [.int (M_column x2.toNatClampNeg)]) (rest := []) (wc := (wX11 Y a M_g M_kept M_saved M_before M_isSaved M_changes M_isWithin M_code M_input M_length M_fault M_failed M_signs M_signMany M_column M_loads M_many M_sums M_groups M_at M_told M_toldMany)) (w1 := (wX11 Y a M_g M_kept M_saved M_before M_isSaved M_changes M_isWithin M_code M_input M_length M_fault M_failed w2 w3 M_column M_loads M_many M_sums M_groups M_at M_told M_toldMany)) (wr := []) ⟨hx, hb, hml, hown, hts⟩ (c_X11_writesNumber l dC dI Y 11 a M_g M_kept M_saved M_before M_isSaved M_changes M_isWithin M_code M_input M_length M_fault M_failed M_signs M_signMany M_column M_loads M_many M_sums M_groups M_at M_told M_toldMany (M_column x2.toNatClampNeg) H.size w2 w3 hr4) (cwV 1 hts gX11_renderColumn_X11_writesNumber rfl rfl rfl (by decide +kernel) ⟨Nat.le_of_ble_eq_true rfl, Nat.le_of_ble_eq_true rfl⟩) hK hP hD hS hA [0, 1, 2, 3, 4, 5, 6, 7, 8, 9, 10, 11] [] rfl rfl (by decide) (by decide) (by decide) (va_recv hK hP (ci := 11) (q0 := 0) rfl rfl) rfl hl.1 rfl (Nat.le_of_ble_eq_true rfl) dX11_renderColumn_42 ⟨Nat.le_of_ble_eq_true rfl, Nat.le_of_ble_eq_true rfl⟩ (fun H locs hP hD hS => ?_)
  have hP : va_P (dC, dI) vwCl [(a 0, .inr (11, [.ref (a 1), .ref (a 2), .ref (a 3), .ref (a 4), .int M_isSaved, .int M_changes, .int M_isWithin, .int M_code, .ref (a 5), .int M_length, .int M_fault, .int M_failed, .ref (a 6), .int w3, .ref (a 7), .ref (a 8), .int M_many, .ref (a 9), .ref (a 10), .int M_at, .ref (a 11), .int M_toldMany])), (a 1, .inl (Y 0, 238, .inl M_g)), (a 2, .inl (Y 0, 1904, .inl M_kept)), (a 3, .inl (Y 0, 238, .inl M_saved)), (a 4, .inl (Y 0, 238, .inl M_before)), (a 5, .inl (Y 0, 60, .inl M_input)), (a 6, .inl (Y 2, 100, .inl w2)), (a 7, .inl (Y 0, 6, .inl M_column)), (a 8, .inl (Y 0, 6, .inl M_loads)), (a 9, .inl (Y 0, 2048, .inl M_sums)), (a 10, .inl (Y 0, 2048, .inl M_groups)), (a 11, .inl (Y 0, 155, .inl M_told))] H := hP
  have hD : va_D A [(a 0, .inr (11, [.ref (a 1), .ref (a 2), .ref (a 3), .ref (a 4), .int M_isSaved, .int M_changes, .int M_isWithin, .int M_code, .ref (a 5), .int M_length, .int M_fault, .int M_failed, .ref (a 6), .int w3, .ref (a 7), .ref (a 8), .int M_many, .ref (a 9), .ref (a 10), .int M_at, .ref (a 11), .int M_toldMany])), (a 1, .inl (Y 0, 238, .inl M_g)), (a 2, .inl (Y 0, 1904, .inl M_kept)), (a 3, .inl (Y 0, 238, .inl M_saved)), (a 4, .inl (Y 0, 238, .inl M_before)), (a 5, .inl (Y 0, 60, .inl M_input)), (a 6, .inl (Y 2, 100, .inl w2)), (a 7, .inl (Y 0, 6, .inl M_column)), (a 8, .inl (Y 0, 6, .inl M_loads)), (a 9, .inl (Y 0, 2048, .inl M_sums)), (a 10, .inl (Y 0, 2048, .inl M_groups)), (a 11, .inl (Y 0, 155, .inl M_told))] := hD
  refine lv_aload_n hx hb dX11_renderColumn_45 rfl (lv_at hl 0 rfl) ?_
  refine lv_bipush (v := 40) hx hb dX11_renderColumn_46 (by decide) ?_
  refine lv_aload_n hx hb dX11_renderColumn_48 rfl (lv_at hl 0 rfl) ?_
  refine va_get (D := (dC, dI)) (ci := 11) (v := .ref (a 8)) (C := RX11) (T := TX11) (N := 22) hx hb hts in_X11_renderColumn_X11 hown hK hP 0 rfl rfl 15 (by decide) (hts _ lk_X11_renderColumn_RX11_39) (fun _ h9 => h9) rfl dX11_renderColumn_49 ?_
  refine lv_iload_n hx hb dX11_renderColumn_52 rfl (lv_at hl 1 rfl) ?_
  obtain ⟨h5, hf⟩ := gin_s hf
  refine wk_iald hx hb hK hP 8 0 rfl rfl h5 rfl dX11_renderColumn_53 ?_
  obtain ⟨w6, w7, hr8, hf⟩ := wkb2_s hf
  refine wk_evv (As := [.int 40, .int (M_loads x2.toNatClampNeg)]) (rest := []) (wc := (wX11 Y a M_g M_kept M_saved M_before M_isSaved M_changes M_isWithin M_code M_input M_length M_fault M_failed w2 w3 M_column M_loads M_many M_sums M_groups M_at M_told M_toldMany)) (w1 := (wX11 Y a M_g M_kept M_saved M_before M_isSaved M_changes M_isWithin M_code M_input M_length M_fault M_failed w6 w7 M_column M_loads M_many M_sums M_groups M_at M_told M_toldMany)) (wr := []) ⟨hx, hb, hml, hown, hts⟩ (c_X11_writesBehind l dC dI Y a M_g M_kept M_saved M_before M_isSaved M_changes M_isWithin M_code M_input M_length M_fault M_failed w2 w3 M_column M_loads M_many M_sums M_groups M_at M_told M_toldMany 40 (M_loads x2.toNatClampNeg) H.size w6 w7 hr8) (cwV 2 hts gX11_renderColumn_X11_writesBehind rfl rfl rfl (by decide +kernel) ⟨Nat.le_of_ble_eq_true rfl, Nat.le_of_ble_eq_true rfl⟩) hK hP hD hS hA [0, 1, 2, 3, 4, 5, 6, 7, 8, 9, 10, 11] [] rfl rfl (by decide) (by decide) (by decide) (va_recv hK hP (ci := 11) (q0 := 0) rfl rfl) rfl hl.1 rfl (Nat.le_of_ble_eq_true rfl) dX11_renderColumn_54 ⟨Nat.le_of_ble_eq_true rfl, Nat.le_of_ble_eq_true rfl⟩ (fun H locs hP hD hS => ?_)
  have hP : va_P (dC, dI) vwCl [(a 0, .inr (11, [.ref (a 1), .ref (a 2), .ref (a 3), .ref (a 4), .int M_isSaved, .int M_changes, .int M_isWithin, .int M_code, .ref (a 5), .int M_length, .int M_fault, .int M_failed, .ref (a 6), .int w7, .ref (a 7), .ref (a 8), .int M_many, .ref (a 9), .ref (a 10), .int M_at, .ref (a 11), .int M_toldMany])), (a 1, .inl (Y 0, 238, .inl M_g)), (a 2, .inl (Y 0, 1904, .inl M_kept)), (a 3, .inl (Y 0, 238, .inl M_saved)), (a 4, .inl (Y 0, 238, .inl M_before)), (a 5, .inl (Y 0, 60, .inl M_input)), (a 6, .inl (Y 2, 100, .inl w6)), (a 7, .inl (Y 0, 6, .inl M_column)), (a 8, .inl (Y 0, 6, .inl M_loads)), (a 9, .inl (Y 0, 2048, .inl M_sums)), (a 10, .inl (Y 0, 2048, .inl M_groups)), (a 11, .inl (Y 0, 155, .inl M_told))] H := hP
  have hD : va_D A [(a 0, .inr (11, [.ref (a 1), .ref (a 2), .ref (a 3), .ref (a 4), .int M_isSaved, .int M_changes, .int M_isWithin, .int M_code, .ref (a 5), .int M_length, .int M_fault, .int M_failed, .ref (a 6), .int w7, .ref (a 7), .ref (a 8), .int M_many, .ref (a 9), .ref (a 10), .int M_at, .ref (a 11), .int M_toldMany])), (a 1, .inl (Y 0, 238, .inl M_g)), (a 2, .inl (Y 0, 1904, .inl M_kept)), (a 3, .inl (Y 0, 238, .inl M_saved)), (a 4, .inl (Y 0, 238, .inl M_before)), (a 5, .inl (Y 0, 60, .inl M_input)), (a 6, .inl (Y 2, 100, .inl w6)), (a 7, .inl (Y 0, 6, .inl M_column)), (a 8, .inl (Y 0, 6, .inl M_loads)), (a 9, .inl (Y 0, 2048, .inl M_sums)), (a 10, .inl (Y 0, 2048, .inl M_groups)), (a 11, .inl (Y 0, 155, .inl M_told))] := hD
  refine lv_aload_n hx hb dX11_renderColumn_57 rfl (lv_at hl 0 rfl) ?_
  refine lv_bipush (v := 47) hx hb dX11_renderColumn_58 (by decide) ?_
  refine lv_aload_n hx hb dX11_renderColumn_60 rfl (lv_at hl 0 rfl) ?_
  refine lv_aload_n hx hb dX11_renderColumn_61 rfl (lv_at hl 0 rfl) ?_
  refine va_get (D := (dC, dI)) (ci := 11) (v := .ref (a 7)) (C := RX11) (T := TX11) (N := 22) hx hb hts in_X11_renderColumn_X11 hown hK hP 0 rfl rfl 14 (by decide) (hts _ lk_X11_renderColumn_RX11_36) (fun _ h9 => h9) rfl dX11_renderColumn_62 ?_
  refine lv_iload_n hx hb dX11_renderColumn_65 rfl (lv_at hl 1 rfl) ?_
  obtain ⟨h9, hf⟩ := gin_s hf
  refine wk_iald hx hb hK hP 7 0 rfl rfl h9 rfl dX11_renderColumn_66 ?_
  refine lv_iconst (v := 1) hx hb dX11_renderColumn_67 (by decide) ?_
  obtain ⟨r10, hr11, hf⟩ := wkb1_s hf
  have hPc := hP.sub (ws' := (wX11 Y a M_g M_kept M_saved M_before M_isSaved M_changes M_isWithin M_code M_input M_length M_fault M_failed w6 w7 M_column M_loads M_many M_sums M_groups M_at M_told M_toldMany)) [0, 1, 2, 3, 4, 5, 6, 7, 8, 9, 10, 11] rfl
  refine wk_vi (As := [.int (M_column x2.toNatClampNeg), .int 1]) (rest := [.int 47, .ref (a 0)]) ⟨hx, hb, hml, hown, hts⟩ (c_X11_of l dC dI Y a M_g M_kept M_saved M_before M_isSaved M_changes M_isWithin M_code M_input M_length M_fault M_failed w6 w7 M_column M_loads M_many M_sums M_groups M_at M_told M_toldMany (M_column x2.toNatClampNeg) 1 r10 hr11) (cwV 2 hts gX11_renderColumn_X11_of rfl rfl rfl (by decide +kernel) ⟨Nat.le_of_ble_eq_true rfl, Nat.le_of_ble_eq_true rfl⟩) hK hPc (va_recv hK hP (ci := 11) (q0 := 0) rfl rfl) rfl hl.1 rfl (Nat.le_of_ble_eq_true rfl) dX11_renderColumn_68 ⟨Nat.le_of_ble_eq_true rfl, Nat.le_of_ble_eq_true rfl⟩ ?_
  obtain ⟨w12, w13, hr14, hf⟩ := wkb2_s hf
  refine wk_evv (As := [.int 47, .int r10]) (rest := []) (wc := (wX11 Y a M_g M_kept M_saved M_before M_isSaved M_changes M_isWithin M_code M_input M_length M_fault M_failed w6 w7 M_column M_loads M_many M_sums M_groups M_at M_told M_toldMany)) (w1 := (wX11 Y a M_g M_kept M_saved M_before M_isSaved M_changes M_isWithin M_code M_input M_length M_fault M_failed w12 w13 M_column M_loads M_many M_sums M_groups M_at M_told M_toldMany)) (wr := []) ⟨hx, hb, hml, hown, hts⟩ (c_X11_writesBehind l dC dI Y a M_g M_kept M_saved M_before M_isSaved M_changes M_isWithin M_code M_input M_length M_fault M_failed w6 w7 M_column M_loads M_many M_sums M_groups M_at M_told M_toldMany 47 r10 H.size w12 w13 hr14) (cwV 2 hts gX11_renderColumn_X11_writesBehind rfl rfl rfl (by decide +kernel) ⟨Nat.le_of_ble_eq_true rfl, Nat.le_of_ble_eq_true rfl⟩) hK hP hD hS hA [0, 1, 2, 3, 4, 5, 6, 7, 8, 9, 10, 11] [] rfl rfl (by decide) (by decide) (by decide) (va_recv hK hP (ci := 11) (q0 := 0) rfl rfl) rfl hl.1 rfl (Nat.le_of_ble_eq_true rfl) dX11_renderColumn_71 ⟨Nat.le_of_ble_eq_true rfl, Nat.le_of_ble_eq_true rfl⟩ (fun H locs hP hD hS => ?_)
  have hP : va_P (dC, dI) vwCl [(a 0, .inr (11, [.ref (a 1), .ref (a 2), .ref (a 3), .ref (a 4), .int M_isSaved, .int M_changes, .int M_isWithin, .int M_code, .ref (a 5), .int M_length, .int M_fault, .int M_failed, .ref (a 6), .int w13, .ref (a 7), .ref (a 8), .int M_many, .ref (a 9), .ref (a 10), .int M_at, .ref (a 11), .int M_toldMany])), (a 1, .inl (Y 0, 238, .inl M_g)), (a 2, .inl (Y 0, 1904, .inl M_kept)), (a 3, .inl (Y 0, 238, .inl M_saved)), (a 4, .inl (Y 0, 238, .inl M_before)), (a 5, .inl (Y 0, 60, .inl M_input)), (a 6, .inl (Y 2, 100, .inl w12)), (a 7, .inl (Y 0, 6, .inl M_column)), (a 8, .inl (Y 0, 6, .inl M_loads)), (a 9, .inl (Y 0, 2048, .inl M_sums)), (a 10, .inl (Y 0, 2048, .inl M_groups)), (a 11, .inl (Y 0, 155, .inl M_told))] H := hP
  have hD : va_D A [(a 0, .inr (11, [.ref (a 1), .ref (a 2), .ref (a 3), .ref (a 4), .int M_isSaved, .int M_changes, .int M_isWithin, .int M_code, .ref (a 5), .int M_length, .int M_fault, .int M_failed, .ref (a 6), .int w13, .ref (a 7), .ref (a 8), .int M_many, .ref (a 9), .ref (a 10), .int M_at, .ref (a 11), .int M_toldMany])), (a 1, .inl (Y 0, 238, .inl M_g)), (a 2, .inl (Y 0, 1904, .inl M_kept)), (a 3, .inl (Y 0, 238, .inl M_saved)), (a 4, .inl (Y 0, 238, .inl M_before)), (a 5, .inl (Y 0, 60, .inl M_input)), (a 6, .inl (Y 2, 100, .inl w12)), (a 7, .inl (Y 0, 6, .inl M_column)), (a 8, .inl (Y 0, 6, .inl M_loads)), (a 9, .inl (Y 0, 2048, .inl M_sums)), (a 10, .inl (Y 0, 2048, .inl M_groups)), (a 11, .inl (Y 0, 155, .inl M_told))] := hD
  refine lv_aload_n hx hb dX11_renderColumn_74 rfl (lv_at hl 0 rfl) ?_
  refine lv_bipush (v := 41) hx hb dX11_renderColumn_75 (by decide) ?_
  obtain ⟨w15, w16, hr17, hf⟩ := wkb2_s hf
  refine wk_evv (As := [.int 41]) (rest := []) (wc := (wX11 Y a M_g M_kept M_saved M_before M_isSaved M_changes M_isWithin M_code M_input M_length M_fault M_failed w12 w13 M_column M_loads M_many M_sums M_groups M_at M_told M_toldMany)) (w1 := (wX11 Y a M_g M_kept M_saved M_before M_isSaved M_changes M_isWithin M_code M_input M_length M_fault M_failed w15 w16 M_column M_loads M_many M_sums M_groups M_at M_told M_toldMany)) (wr := []) ⟨hx, hb, hml, hown, hts⟩ (c_X11_writes l dC dI Y a M_g M_kept M_saved M_before M_isSaved M_changes M_isWithin M_code M_input M_length M_fault M_failed w12 w13 M_column M_loads M_many M_sums M_groups M_at M_told M_toldMany 41 H.size w15 w16 hr17) (cwV 1 hts gX11_renderColumn_X11_writes rfl rfl rfl (by decide +kernel) ⟨Nat.le_of_ble_eq_true rfl, Nat.le_of_ble_eq_true rfl⟩) hK hP hD hS hA [0, 1, 2, 3, 4, 5, 6, 7, 8, 9, 10, 11] [] rfl rfl (by decide) (by decide) (by decide) (va_recv hK hP (ci := 11) (q0 := 0) rfl rfl) rfl hl.1 rfl (Nat.le_of_ble_eq_true rfl) dX11_renderColumn_77 ⟨Nat.le_of_ble_eq_true rfl, Nat.le_of_ble_eq_true rfl⟩ (fun H locs hP hD hS => ?_)
  have hP : va_P (dC, dI) vwCl [(a 0, .inr (11, [.ref (a 1), .ref (a 2), .ref (a 3), .ref (a 4), .int M_isSaved, .int M_changes, .int M_isWithin, .int M_code, .ref (a 5), .int M_length, .int M_fault, .int M_failed, .ref (a 6), .int w16, .ref (a 7), .ref (a 8), .int M_many, .ref (a 9), .ref (a 10), .int M_at, .ref (a 11), .int M_toldMany])), (a 1, .inl (Y 0, 238, .inl M_g)), (a 2, .inl (Y 0, 1904, .inl M_kept)), (a 3, .inl (Y 0, 238, .inl M_saved)), (a 4, .inl (Y 0, 238, .inl M_before)), (a 5, .inl (Y 0, 60, .inl M_input)), (a 6, .inl (Y 2, 100, .inl w15)), (a 7, .inl (Y 0, 6, .inl M_column)), (a 8, .inl (Y 0, 6, .inl M_loads)), (a 9, .inl (Y 0, 2048, .inl M_sums)), (a 10, .inl (Y 0, 2048, .inl M_groups)), (a 11, .inl (Y 0, 155, .inl M_told))] H := hP
  have hD : va_D A [(a 0, .inr (11, [.ref (a 1), .ref (a 2), .ref (a 3), .ref (a 4), .int M_isSaved, .int M_changes, .int M_isWithin, .int M_code, .ref (a 5), .int M_length, .int M_fault, .int M_failed, .ref (a 6), .int w16, .ref (a 7), .ref (a 8), .int M_many, .ref (a 9), .ref (a 10), .int M_at, .ref (a 11), .int M_toldMany])), (a 1, .inl (Y 0, 238, .inl M_g)), (a 2, .inl (Y 0, 1904, .inl M_kept)), (a 3, .inl (Y 0, 238, .inl M_saved)), (a 4, .inl (Y 0, 238, .inl M_before)), (a 5, .inl (Y 0, 60, .inl M_input)), (a 6, .inl (Y 2, 100, .inl w15)), (a 7, .inl (Y 0, 6, .inl M_column)), (a 8, .inl (Y 0, 6, .inl M_loads)), (a 9, .inl (Y 0, 2048, .inl M_sums)), (a 10, .inl (Y 0, 2048, .inl M_groups)), (a 11, .inl (Y 0, 155, .inl M_told))] := hD
  refine lv_iload_n hx hb dX11_renderColumn_80 rfl (lv_at hl 1 rfl) ?_
  refine lv_aload_n hx hb dX11_renderColumn_81 rfl (lv_at hl 0 rfl) ?_
  obtain ⟨r18, hr19, hf⟩ := wkb1_s hf
  have hPc := hP.sub (ws' := (wX11 Y a M_g M_kept M_saved M_before M_isSaved M_changes M_isWithin M_code M_input M_length M_fault M_failed w15 w16 M_column M_loads M_many M_sums M_groups M_at M_told M_toldMany)) [0, 1, 2, 3, 4, 5, 6, 7, 8, 9, 10, 11] rfl
  refine wk_vi (As := []) (rest := [.int x2]) ⟨hx, hb, hml, hown, hts⟩ (c_X11_breaks l dC dI Y a M_g M_kept M_saved M_before M_isSaved M_changes M_isWithin M_code M_input M_length M_fault M_failed w15 w16 M_column M_loads M_many M_sums M_groups M_at M_told M_toldMany r18 hr19) (cwV 0 hts gX11_renderColumn_X11_breaks rfl rfl rfl (by decide +kernel) ⟨Nat.le_of_ble_eq_true rfl, Nat.le_of_ble_eq_true rfl⟩) hK hPc (va_recv hK hP (ci := 11) (q0 := 0) rfl rfl) rfl hl.1 rfl (Nat.le_of_ble_eq_true rfl) dX11_renderColumn_82 ⟨Nat.le_of_ble_eq_true rfl, Nat.le_of_ble_eq_true rfl⟩ ?_
  refine lv_icmp_ne (tgt := 94) hx hb dX11_renderColumn_85 (by decide) (fun q20 => ?_) (fun q20 => ?_)
  · have hf := wk_f hf q20
    refine lv_iinc (v := (x2 + 1)) (lv' := [(2, .int (x2 + 1)), (0, .ref (a 0))]) hx hb dX11_renderColumn_94 hl (k := 1) rfl rfl (by decide) rfl (fun ls hl => ?_)
    refine lv_goto (tgt := 17) hx hb dX11_renderColumn_97 (by decide) ?_
    exact hK17 (x2 + 1) M_code w15 w16 M_column M_loads M_many hf H locs hP hD hS ls (lv_sub hl [1, 0] rfl)
  · have hf := wk_t hf q20
    refine lv_aload_n hx hb dX11_renderColumn_88 rfl (lv_at hl 0 rfl) ?_
    refine lv_bipush (v := 33) hx hb dX11_renderColumn_89 (by decide) ?_
    obtain ⟨w21, w22, hr23, hf⟩ := wkb2_s hf
    refine wk_evv (As := [.int 33]) (rest := []) (wc := (wX11 Y a M_g M_kept M_saved M_before M_isSaved M_changes M_isWithin M_code M_input M_length M_fault M_failed w15 w16 M_column M_loads M_many M_sums M_groups M_at M_told M_toldMany)) (w1 := (wX11 Y a M_g M_kept M_saved M_before M_isSaved M_changes M_isWithin M_code M_input M_length M_fault M_failed w21 w22 M_column M_loads M_many M_sums M_groups M_at M_told M_toldMany)) (wr := []) ⟨hx, hb, hml, hown, hts⟩ (c_X11_writes l dC dI Y a M_g M_kept M_saved M_before M_isSaved M_changes M_isWithin M_code M_input M_length M_fault M_failed w15 w16 M_column M_loads M_many M_sums M_groups M_at M_told M_toldMany 33 H.size w21 w22 hr23) (cwV 1 hts gX11_renderColumn_X11_writes rfl rfl rfl (by decide +kernel) ⟨Nat.le_of_ble_eq_true rfl, Nat.le_of_ble_eq_true rfl⟩) hK hP hD hS hA [0, 1, 2, 3, 4, 5, 6, 7, 8, 9, 10, 11] [] rfl rfl (by decide) (by decide) (by decide) (va_recv hK hP (ci := 11) (q0 := 0) rfl rfl) rfl hl.1 rfl (Nat.le_of_ble_eq_true rfl) dX11_renderColumn_91 ⟨Nat.le_of_ble_eq_true rfl, Nat.le_of_ble_eq_true rfl⟩ (fun H locs hP hD hS => ?_)
    have hP : va_P (dC, dI) vwCl [(a 0, .inr (11, [.ref (a 1), .ref (a 2), .ref (a 3), .ref (a 4), .int M_isSaved, .int M_changes, .int M_isWithin, .int M_code, .ref (a 5), .int M_length, .int M_fault, .int M_failed, .ref (a 6), .int w22, .ref (a 7), .ref (a 8), .int M_many, .ref (a 9), .ref (a 10), .int M_at, .ref (a 11), .int M_toldMany])), (a 1, .inl (Y 0, 238, .inl M_g)), (a 2, .inl (Y 0, 1904, .inl M_kept)), (a 3, .inl (Y 0, 238, .inl M_saved)), (a 4, .inl (Y 0, 238, .inl M_before)), (a 5, .inl (Y 0, 60, .inl M_input)), (a 6, .inl (Y 2, 100, .inl w21)), (a 7, .inl (Y 0, 6, .inl M_column)), (a 8, .inl (Y 0, 6, .inl M_loads)), (a 9, .inl (Y 0, 2048, .inl M_sums)), (a 10, .inl (Y 0, 2048, .inl M_groups)), (a 11, .inl (Y 0, 155, .inl M_told))] H := hP
    have hD : va_D A [(a 0, .inr (11, [.ref (a 1), .ref (a 2), .ref (a 3), .ref (a 4), .int M_isSaved, .int M_changes, .int M_isWithin, .int M_code, .ref (a 5), .int M_length, .int M_fault, .int M_failed, .ref (a 6), .int w22, .ref (a 7), .ref (a 8), .int M_many, .ref (a 9), .ref (a 10), .int M_at, .ref (a 11), .int M_toldMany])), (a 1, .inl (Y 0, 238, .inl M_g)), (a 2, .inl (Y 0, 1904, .inl M_kept)), (a 3, .inl (Y 0, 238, .inl M_saved)), (a 4, .inl (Y 0, 238, .inl M_before)), (a 5, .inl (Y 0, 60, .inl M_input)), (a 6, .inl (Y 2, 100, .inl w21)), (a 7, .inl (Y 0, 6, .inl M_column)), (a 8, .inl (Y 0, 6, .inl M_loads)), (a 9, .inl (Y 0, 2048, .inl M_sums)), (a 10, .inl (Y 0, 2048, .inl M_groups)), (a 11, .inl (Y 0, 155, .inl M_told))] := hD
    refine lv_iinc (v := (x2 + 1)) (lv' := [(2, .int (x2 + 1)), (0, .ref (a 0))]) hx hb dX11_renderColumn_94 hl (k := 1) rfl rfl (by decide) rfl (fun ls hl => ?_)
    refine lv_goto (tgt := 17) hx hb dX11_renderColumn_97 (by decide) ?_
    exact hK17 (x2 + 1) M_code w21 w22 M_column M_loads M_many hf H locs hP hD hS ls (lv_sub hl [1, 0] rfl)
set_option maxHeartbeats 4000000 in
set_option maxRecDepth 100000 in
theorem wl_X11_renderColumn_L17 {p : Program} {l : Launch} {e : Env} {s : State} {m : MethodId} {args : Array Value} {below : List Frame} {meth : Method} {c : Code} {dC : Nat → ClassId} {dI : Nat → Nat → Nat} {Y : Nat → ClassId} {a : Nat → Nat} {M_g : Nat → Int32} {M_kept : Nat → Int32} {M_saved : Nat → Int32} {M_before : Nat → Int32} {M_isSaved : Int32} {M_changes : Int32} {M_isWithin : Int32} {M_input : Nat → Int32} {M_length : Int32} {M_fault : Int32} {M_failed : Int32} {M_sums : Nat → Int32} {M_groups : Nat → Int32} {M_at : Int32} {M_told : Nat → Int32} {M_toldMany : Int32} {x1 : Int32} {r : Int32} {zM_code : Int32} {zM_signs : Nat → Int32} {zM_signMany : Int32} {zM_column : Nat → Int32} {zM_loads : Nat → Int32} {zM_many : Int32}  (C0 : wk_C p s m args meth c cX11_renderColumn 3 (some .int) wsX11_renderColumn RX11) {A : Nat → Prop} (hK : va_K (dC, dI) vwCl (vTy Y) s) (hA : ∀ q, s.heap.size ≤ q → A q) : ∀ (nn : Nat) (x2 : Int32)  (M_code : Int32) (M_signs : Nat → Int32) (M_signMany : Int32) (M_column : Nat → Int32) (M_loads : Nat → Int32) (M_many : Int32), f_X11_renderColumn_L17 M_g x1 nn x2 M_code M_signs M_signMany M_column M_loads M_many = some (r, zM_code, zM_signs, zM_signMany, zM_column, zM_loads, zM_many) → ∀ (H : Heap) (locs : List Loc), va_P (dC, dI) vwCl (wX11 Y a M_g M_kept M_saved M_before M_isSaved M_changes M_isWithin M_code M_input M_length M_fault M_failed M_signs M_signMany M_column M_loads M_many M_sums M_groups M_at M_told M_toldMany) H → va_D A (wX11 Y a M_g M_kept M_saved M_before M_isSaved M_changes M_isWithin M_code M_input M_length M_fault M_failed M_signs M_signMany M_column M_loads M_many M_sums M_groups M_at M_told M_toldMany) → va_S A s.heap H locs → ∀ (ls : Array Slot), lv_has ls 3 [(0, .ref (a 0)), (2, .int x2)] → W p l e (headSpec wsX11_renderColumn ({ frames := 46, cells := 0, slots := 0, locals := 1363 } : Room)).room s m args below meth c H locs 0 0 (MQ below (va_Qi (fun r2 (_ : Unit) => r2 = r) (fun _ t => wk_X (dC, dI) Y (wX11 Y a M_g M_kept M_saved M_before M_isSaved M_changes M_isWithin zM_code M_input M_length M_fault M_failed zM_signs zM_signMany zM_column zM_loads zM_many M_sums M_groups M_at M_told M_toldMany) A t) A) args s 0 0 A) (F0 m 17 ls []) := by
  have C0 := C0
  obtain ⟨hx, hb, hml, hr, hlocks, hown, hts⟩ := id C0
  intro nn
  induction nn with
  | zero =>
    intro x2 M_code M_signs M_signMany M_column M_loads M_many hf
    rw [f_X11_renderColumn_L17] at hf
    cases hf
  | succ nn ih =>
    intro x2 M_code M_signs M_signMany M_column M_loads M_many hf H locs hP hD hS ls hl
    rw [f_X11_renderColumn_L17] at hf
    have hP : va_P (dC, dI) vwCl [(a 0, .inr (11, [.ref (a 1), .ref (a 2), .ref (a 3), .ref (a 4), .int M_isSaved, .int M_changes, .int M_isWithin, .int M_code, .ref (a 5), .int M_length, .int M_fault, .int M_failed, .ref (a 6), .int M_signMany, .ref (a 7), .ref (a 8), .int M_many, .ref (a 9), .ref (a 10), .int M_at, .ref (a 11), .int M_toldMany])), (a 1, .inl (Y 0, 238, .inl M_g)), (a 2, .inl (Y 0, 1904, .inl M_kept)), (a 3, .inl (Y 0, 238, .inl M_saved)), (a 4, .inl (Y 0, 238, .inl M_before)), (a 5, .inl (Y 0, 60, .inl M_input)), (a 6, .inl (Y 2, 100, .inl M_signs)), (a 7, .inl (Y 0, 6, .inl M_column)), (a 8, .inl (Y 0, 6, .inl M_loads)), (a 9, .inl (Y 0, 2048, .inl M_sums)), (a 10, .inl (Y 0, 2048, .inl M_groups)), (a 11, .inl (Y 0, 155, .inl M_told))] H := hP
    have hD : va_D A [(a 0, .inr (11, [.ref (a 1), .ref (a 2), .ref (a 3), .ref (a 4), .int M_isSaved, .int M_changes, .int M_isWithin, .int M_code, .ref (a 5), .int M_length, .int M_fault, .int M_failed, .ref (a 6), .int M_signMany, .ref (a 7), .ref (a 8), .int M_many, .ref (a 9), .ref (a 10), .int M_at, .ref (a 11), .int M_toldMany])), (a 1, .inl (Y 0, 238, .inl M_g)), (a 2, .inl (Y 0, 1904, .inl M_kept)), (a 3, .inl (Y 0, 238, .inl M_saved)), (a 4, .inl (Y 0, 238, .inl M_before)), (a 5, .inl (Y 0, 60, .inl M_input)), (a 6, .inl (Y 2, 100, .inl M_signs)), (a 7, .inl (Y 0, 6, .inl M_column)), (a 8, .inl (Y 0, 6, .inl M_loads)), (a 9, .inl (Y 0, 2048, .inl M_sums)), (a 10, .inl (Y 0, 2048, .inl M_groups)), (a 11, .inl (Y 0, 155, .inl M_told))] := hD
    refine lv_iload_n hx hb dX11_renderColumn_17 rfl (lv_at hl 1 rfl) ?_
    refine lv_aload_n hx hb dX11_renderColumn_18 rfl (lv_at hl 0 rfl) ?_
    refine va_get (D := (dC, dI)) (ci := 11) (v := .int M_many) (C := RX11) (T := TX11) (N := 22) hx hb hts in_X11_renderColumn_X11 hown hK hP 0 rfl rfl 16 (by decide) (hts _ lk_X11_renderColumn_RX11_95) (fun _ h9 => h9) rfl dX11_renderColumn_19 ?_
    refine lv_icmp_ge (tgt := 100) hx hb dX11_renderColumn_22 (by decide) (fun q1 => ?_) (fun q1 => ?_)
    · have hf := wk_t hf q1
      refine lv_aload_n hx hb dX11_renderColumn_100 rfl (lv_at hl 0 rfl) ?_
      refine va_get (D := (dC, dI)) (ci := 11) (v := .int M_signMany) (C := RX11) (T := TX11) (N := 22) hx hb hts in_X11_renderColumn_X11 hown hK hP 0 rfl rfl 13 (by decide) (hts _ lk_X11_renderColumn_RX11_188) (fun _ h9 => h9) rfl dX11_renderColumn_101 ?_
      obtain ⟨e0, e1, e2, e3, e4, e5, e6⟩ := wke7 hf
      subst e0
      subst e1
      subst e2
      subst e3
      subst e4
      subst e5
      subst e6
      have hP9 := hP.sub (ws' := (wX11 Y a M_g M_kept M_saved M_before M_isSaved M_changes M_isWithin M_code M_input M_length M_fault M_failed M_signs M_signMany M_column M_loads M_many M_sums M_groups M_at M_told M_toldMany)) [0, 1, 2, 3, 4, 5, 6, 7, 8, 9, 10, 11] rfl
      have hD9 := hD.sub (ws' := (wX11 Y a M_g M_kept M_saved M_before M_isSaved M_changes M_isWithin M_code M_input M_length M_fault M_failed M_signs M_signMany M_column M_loads M_many M_sums M_groups M_at M_told M_toldMany)) [0, 1, 2, 3, 4, 5, 6, 7, 8, 9, 10, 11] (by decide) rfl
      exact W.iret (v := M_signMany) hx hb hr (fun t ht hW => ⟨⟨M_signMany, (), rfl, rfl, by rw [ht]; exact hP9, va_K.moved hW.alike hK, hD9⟩, hS.F ht⟩) hS.2.2 dX11_renderColumn_104
    · have hf := wk_f hf q1
      refine lv_iload_n hx hb dX11_renderColumn_25 rfl (lv_at hl 1 rfl) ?_
      refine lv_if_le (tgt := 35) hx hb dX11_renderColumn_26 (by decide) (fun q2 => ?_) (fun q2 => ?_)
      · have hf := wk_t hf q2
        exact wl_X11_renderColumn_L35 C0 hK hA ih x2 M_code M_signs M_signMany M_column M_loads M_many hf H locs hP hD hS ls (lv_sub hl [0, 1] rfl)
      · have hf := wk_f hf q2
        refine lv_aload_n hx hb dX11_renderColumn_29 rfl (lv_at hl 0 rfl) ?_
        refine lv_bipush (v := 32) hx hb dX11_renderColumn_30 (by decide) ?_
        obtain ⟨w3, w4, hr5, hf⟩ := wkb2_s hf
        refine wk_evv (As := [.int 32]) (rest := []) (wc := (wX11 Y a M_g M_kept M_saved M_before M_isSaved M_changes M_isWithin M_code M_input M_length M_fault M_failed M_signs M_signMany M_column M_loads M_many M_sums M_groups M_at M_told M_toldMany)) (w1 := (wX11 Y a M_g M_kept M_saved M_before M_isSaved M_changes M_isWithin M_code M_input M_length M_fault M_failed w3 w4 M_column M_loads M_many M_sums M_groups M_at M_told M_toldMany)) (wr := []) ⟨hx, hb, hml, hown, hts⟩ (c_X11_writes l dC dI Y a M_g M_kept M_saved M_before M_isSaved M_changes M_isWithin M_code M_input M_length M_fault M_failed M_signs M_signMany M_column M_loads M_many M_sums M_groups M_at M_told M_toldMany 32 H.size w3 w4 hr5) (cwV 1 hts gX11_renderColumn_X11_writes rfl rfl rfl (by decide +kernel) ⟨Nat.le_of_ble_eq_true rfl, Nat.le_of_ble_eq_true rfl⟩) hK hP hD hS hA [0, 1, 2, 3, 4, 5, 6, 7, 8, 9, 10, 11] [] rfl rfl (by decide) (by decide) (by decide) (va_recv hK hP (ci := 11) (q0 := 0) rfl rfl) rfl hl.1 rfl (Nat.le_of_ble_eq_true rfl) dX11_renderColumn_32 ⟨Nat.le_of_ble_eq_true rfl, Nat.le_of_ble_eq_true rfl⟩ (fun H locs hP hD hS => ?_)
        have hP : va_P (dC, dI) vwCl [(a 0, .inr (11, [.ref (a 1), .ref (a 2), .ref (a 3), .ref (a 4), .int M_isSaved, .int M_changes, .int M_isWithin, .int M_code, .ref (a 5), .int M_length, .int M_fault, .int M_failed, .ref (a 6), .int w4, .ref (a 7), .ref (a 8), .int M_many, .ref (a 9), .ref (a 10), .int M_at, .ref (a 11), .int M_toldMany])), (a 1, .inl (Y 0, 238, .inl M_g)), (a 2, .inl (Y 0, 1904, .inl M_kept)), (a 3, .inl (Y 0, 238, .inl M_saved)), (a 4, .inl (Y 0, 238, .inl M_before)), (a 5, .inl (Y 0, 60, .inl M_input)), (a 6, .inl (Y 2, 100, .inl w3)), (a 7, .inl (Y 0, 6, .inl M_column)), (a 8, .inl (Y 0, 6, .inl M_loads)), (a 9, .inl (Y 0, 2048, .inl M_sums)), (a 10, .inl (Y 0, 2048, .inl M_groups)), (a 11, .inl (Y 0, 155, .inl M_told))] H := hP
        have hD : va_D A [(a 0, .inr (11, [.ref (a 1), .ref (a 2), .ref (a 3), .ref (a 4), .int M_isSaved, .int M_changes, .int M_isWithin, .int M_code, .ref (a 5), .int M_length, .int M_fault, .int M_failed, .ref (a 6), .int w4, .ref (a 7), .ref (a 8), .int M_many, .ref (a 9), .ref (a 10), .int M_at, .ref (a 11), .int M_toldMany])), (a 1, .inl (Y 0, 238, .inl M_g)), (a 2, .inl (Y 0, 1904, .inl M_kept)), (a 3, .inl (Y 0, 238, .inl M_saved)), (a 4, .inl (Y 0, 238, .inl M_before)), (a 5, .inl (Y 0, 60, .inl M_input)), (a 6, .inl (Y 2, 100, .inl w3)), (a 7, .inl (Y 0, 6, .inl M_column)), (a 8, .inl (Y 0, 6, .inl M_loads)), (a 9, .inl (Y 0, 2048, .inl M_sums)), (a 10, .inl (Y 0, 2048, .inl M_groups)), (a 11, .inl (Y 0, 155, .inl M_told))] := hD
        exact wl_X11_renderColumn_L35 C0 hK hA ih x2 M_code w3 w4 M_column M_loads M_many hf H locs hP hD hS ls (lv_sub hl [0, 1] rfl)
set_option maxHeartbeats 4000000 in
set_option maxRecDepth 100000 in
theorem c_X11_renderColumn (l : Launch) (dC : Nat → ClassId) (dI : Nat → Nat → Nat) (Y : Nat → ClassId) (a : Nat → Nat) (M_g : Nat → Int32) (M_kept : Nat → Int32) (M_saved : Nat → Int32) (M_before : Nat → Int32) (M_isSaved : Int32) (M_changes : Int32) (M_isWithin : Int32) (M_code : Int32) (M_input : Nat → Int32) (M_length : Int32) (M_fault : Int32) (M_failed : Int32) (M_signs : Nat → Int32) (M_signMany : Int32) (M_column : Nat → Int32) (M_loads : Nat → Int32) (M_many : Int32) (M_sums : Nat → Int32) (M_groups : Nat → Int32) (M_at : Int32) (M_told : Nat → Int32) (M_toldMany : Int32) (x1 : Int32) (sz : Nat) (r : Int32) (zM_code : Int32) (zM_signs : Nat → Int32) (zM_signMany : Int32) (zM_column : Nat → Int32) (zM_loads : Nat → Int32) (zM_many : Int32) (hf : f_X11_renderColumn M_g M_code M_signs M_signMany M_column M_loads M_many x1 = some (r, zM_code, zM_signs, zM_signMany, zM_column, zM_loads, zM_many)) : Met l yX11_renderColumn wsX11_renderColumn ({ frames := 46, cells := 0, slots := 0, locals := 1363 } : Room) (va_Pc [.ref (a 0), .int x1] (wk_E (dC, dI) Y (wX11 Y a M_g M_kept M_saved M_before M_isSaved M_changes M_isWithin M_code M_input M_length M_fault M_failed M_signs M_signMany M_column M_loads M_many M_sums M_groups M_at M_told M_toldMany) sz)) (va_Qi (fun r2 (_ : Unit) => r2 = r) (fun _ t => wk_X (dC, dI) Y (wX11 Y a M_g M_kept M_saved M_before M_isSaved M_changes M_isWithin zM_code M_input M_length M_fault M_failed zM_signs zM_signMany zM_column zM_loads zM_many M_sums M_groups M_at M_told M_toldMany) (va_A (wX11 Y a M_g M_kept M_saved M_before M_isSaved M_changes M_isWithin M_code M_input M_length M_fault M_failed M_signs M_signMany M_column M_loads M_many M_sums M_groups M_at M_told M_toldMany) sz) t) (va_A (wX11 Y a M_g M_kept M_saved M_before M_isSaved M_changes M_isWithin M_code M_input M_length M_fault M_failed M_signs M_signMany M_column M_loads M_many M_sums M_groups M_at M_told M_toldMany) sz)) 0 0 (va_A (wX11 Y a M_g M_kept M_saved M_before M_isSaved M_changes M_isWithin M_code M_input M_length M_fault M_failed M_signs M_signMany M_column M_loads M_many M_sums M_groups M_at M_told M_toldMany) sz) := by
  refine Met.ofW (cc := cX11_renderColumn) (maxL := 3) (ret := (some .int)) (by decide) rfl ?_
  intro p e s m args below meth c s₁ B hml hv
  obtain ⟨rfl, hsz, hP, hK, hD0⟩ := hv
  have hx := B.exec
  have hb := B.bytes
  have hr := B.returns
  have hts := atoms_spec (ws := wsX11_renderColumn) B.pre
  have hown : s.vm.findClass RX11 = some m.cls := findClass_of_methodNamed B.named
  have hlocks := B.notSynchronized
  have C0 : wk_C p s m _ meth c cX11_renderColumn 3 (some .int) wsX11_renderColumn RX11 := ⟨hx, hb, hml, hr, hlocks, hown, hts⟩
  subst hsz
  have hD := hD0.self (sz := s.heap.size)
  generalize hAe : va_A (wX11 Y a M_g M_kept M_saved M_before M_isSaved M_changes M_isWithin M_code M_input M_length M_fault M_failed M_signs M_signMany M_column M_loads M_many M_sums M_groups M_at M_told M_toldMany) s.heap.size = A at hD ⊢
  have hA : ∀ q : Nat, s.heap.size ≤ q → A q := fun q h => by rw [← hAe]; exact Or.inr h
  have hS : va_S A s.heap s.heap [] := va_S.rf
  obtain ⟨H, hHe⟩ : ∃ H, H = s.heap := ⟨_, rfl⟩
  have hS : va_S A s.heap H [] := by rw [hHe]; exact hS
  have hP : va_P (dC, dI) vwCl [(a 0, .inr (11, [.ref (a 1), .ref (a 2), .ref (a 3), .ref (a 4), .int M_isSaved, .int M_changes, .int M_isWithin, .int M_code, .ref (a 5), .int M_length, .int M_fault, .int M_failed, .ref (a 6), .int M_signMany, .ref (a 7), .ref (a 8), .int M_many, .ref (a 9), .ref (a 10), .int M_at, .ref (a 11), .int M_toldMany])), (a 1, .inl (Y 0, 238, .inl M_g)), (a 2, .inl (Y 0, 1904, .inl M_kept)), (a 3, .inl (Y 0, 238, .inl M_saved)), (a 4, .inl (Y 0, 238, .inl M_before)), (a 5, .inl (Y 0, 60, .inl M_input)), (a 6, .inl (Y 2, 100, .inl M_signs)), (a 7, .inl (Y 0, 6, .inl M_column)), (a 8, .inl (Y 0, 6, .inl M_loads)), (a 9, .inl (Y 0, 2048, .inl M_sums)), (a 10, .inl (Y 0, 2048, .inl M_groups)), (a 11, .inl (Y 0, 155, .inl M_told))] H := by rw [hHe]; exact hP
  have hD : va_D A [(a 0, .inr (11, [.ref (a 1), .ref (a 2), .ref (a 3), .ref (a 4), .int M_isSaved, .int M_changes, .int M_isWithin, .int M_code, .ref (a 5), .int M_length, .int M_fault, .int M_failed, .ref (a 6), .int M_signMany, .ref (a 7), .ref (a 8), .int M_many, .ref (a 9), .ref (a 10), .int M_at, .ref (a 11), .int M_toldMany])), (a 1, .inl (Y 0, 238, .inl M_g)), (a 2, .inl (Y 0, 1904, .inl M_kept)), (a 3, .inl (Y 0, 238, .inl M_saved)), (a 4, .inl (Y 0, 238, .inl M_before)), (a 5, .inl (Y 0, 60, .inl M_input)), (a 6, .inl (Y 2, 100, .inl M_signs)), (a 7, .inl (Y 0, 6, .inl M_column)), (a 8, .inl (Y 0, 6, .inl M_loads)), (a 9, .inl (Y 0, 2048, .inl M_sums)), (a 10, .inl (Y 0, 2048, .inl M_groups)), (a 11, .inl (Y 0, 155, .inl M_told))] := hD
  obtain ⟨locs, hlo⟩ : ∃ locs : List Loc, locs = [] := ⟨_, rfl⟩
  have hS : va_S A s.heap H locs := by rw [hlo]; exact hS
  have hl := lv_entry ([.ref (a 0), .int x1]) (n := 3) (Nat.le_of_ble_eq_true rfl)
  rw [lg_entry_eq]
  generalize (lg_sl ([.ref (a 0), .int x1]) ++ List.replicate (3 - (lg_sl ([.ref (a 0), .int x1])).length) Slot.unset).toArray = ls at hl ⊢
  have hl : lv_has ls 3 [(0, .ref (a 0)), (1, .int x1)] := hl
  refine wk_start hHe hlo ?_
  rw [f_X11_renderColumn] at hf
  refine lv_aload_n hx hb dX11_renderColumn_0 rfl (lv_at hl 0 rfl) ?_
  refine lv_iload_n hx hb dX11_renderColumn_1 rfl (lv_at hl 1 rfl) ?_
  obtain ⟨r1, w2, w3, w4, w5, hr6, hf⟩ := wkb5_s hf
  refine wk_evi (As := [.int x1]) (rest := []) (wc := (wX11 Y a M_g M_kept M_saved M_before M_isSaved M_changes M_isWithin M_code M_input M_length M_fault M_failed M_signs M_signMany M_column M_loads M_many M_sums M_groups M_at M_told M_toldMany)) (w1 := (wX11 Y a M_g M_kept M_saved M_before M_isSaved M_changes M_isWithin w2 M_input M_length M_fault M_failed M_signs M_signMany w3 w4 w5 M_sums M_groups M_at M_told M_toldMany)) (wr := []) ⟨hx, hb, hml, hown, hts⟩ (c_X11_isWrong l dC dI Y a M_g M_kept M_saved M_before M_isSaved M_changes M_isWithin M_code M_input M_length M_fault M_failed M_signs M_signMany M_column M_loads M_many M_sums M_groups M_at M_told M_toldMany x1 H.size r1 w2 w3 w4 w5 hr6) (cwV 1 hts gX11_renderColumn_X11_isWrong rfl rfl rfl (by decide +kernel) ⟨Nat.le_of_ble_eq_true rfl, Nat.le_of_ble_eq_true rfl⟩) hK hP hD hS hA [0, 1, 2, 3, 4, 5, 6, 7, 8, 9, 10, 11] [] rfl rfl (by decide) (by decide) (by decide) (va_recv hK hP (ci := 11) (q0 := 0) rfl rfl) rfl hl.1 rfl (Nat.le_of_ble_eq_true rfl) dX11_renderColumn_2 ⟨Nat.le_of_ble_eq_true rfl, Nat.le_of_ble_eq_true rfl⟩ (fun H locs hP hD hS => ?_)
  have hP : va_P (dC, dI) vwCl [(a 0, .inr (11, [.ref (a 1), .ref (a 2), .ref (a 3), .ref (a 4), .int M_isSaved, .int M_changes, .int M_isWithin, .int w2, .ref (a 5), .int M_length, .int M_fault, .int M_failed, .ref (a 6), .int M_signMany, .ref (a 7), .ref (a 8), .int w5, .ref (a 9), .ref (a 10), .int M_at, .ref (a 11), .int M_toldMany])), (a 1, .inl (Y 0, 238, .inl M_g)), (a 2, .inl (Y 0, 1904, .inl M_kept)), (a 3, .inl (Y 0, 238, .inl M_saved)), (a 4, .inl (Y 0, 238, .inl M_before)), (a 5, .inl (Y 0, 60, .inl M_input)), (a 6, .inl (Y 2, 100, .inl M_signs)), (a 7, .inl (Y 0, 6, .inl w3)), (a 8, .inl (Y 0, 6, .inl w4)), (a 9, .inl (Y 0, 2048, .inl M_sums)), (a 10, .inl (Y 0, 2048, .inl M_groups)), (a 11, .inl (Y 0, 155, .inl M_told))] H := hP
  have hD : va_D A [(a 0, .inr (11, [.ref (a 1), .ref (a 2), .ref (a 3), .ref (a 4), .int M_isSaved, .int M_changes, .int M_isWithin, .int w2, .ref (a 5), .int M_length, .int M_fault, .int M_failed, .ref (a 6), .int M_signMany, .ref (a 7), .ref (a 8), .int w5, .ref (a 9), .ref (a 10), .int M_at, .ref (a 11), .int M_toldMany])), (a 1, .inl (Y 0, 238, .inl M_g)), (a 2, .inl (Y 0, 1904, .inl M_kept)), (a 3, .inl (Y 0, 238, .inl M_saved)), (a 4, .inl (Y 0, 238, .inl M_before)), (a 5, .inl (Y 0, 60, .inl M_input)), (a 6, .inl (Y 2, 100, .inl M_signs)), (a 7, .inl (Y 0, 6, .inl w3)), (a 8, .inl (Y 0, 6, .inl w4)), (a 9, .inl (Y 0, 2048, .inl M_sums)), (a 10, .inl (Y 0, 2048, .inl M_groups)), (a 11, .inl (Y 0, 155, .inl M_told))] := hD
  refine lv_if_eq (tgt := 10) hx hb dX11_renderColumn_5 (by decide) (fun q7 => ?_) (fun q7 => ?_)
  · have hf := wk_t hf q7
    refine lv_aload_n hx hb dX11_renderColumn_10 rfl (lv_at hl 0 rfl) ?_
    refine lv_iconst (v := 0) hx hb dX11_renderColumn_11 (by decide) ?_
    refine va_put (D := (dC, dI)) (ci := 11) (v := .int 0) (ty := .int) (C := RX11) (T := TX11) (N := 22) hx hb hts in_X11_renderColumn_X11 tyX11 tyX11_ok nmX11 hown hK hP hD hS 0 rfl rfl 13 (by decide) (hts _ lk_X11_renderColumn_RX11_188) (fun _ h9 => h9) rfl (by decide +kernel) rfl rfl (Nat.le_of_ble_eq_true rfl) dX11_renderColumn_12 (fun H locs hP hD hS => ?_)
    have hP : va_P (dC, dI) vwCl [(a 0, .inr (11, [.ref (a 1), .ref (a 2), .ref (a 3), .ref (a 4), .int M_isSaved, .int M_changes, .int M_isWithin, .int w2, .ref (a 5), .int M_length, .int M_fault, .int M_failed, .ref (a 6), .int 0, .ref (a 7), .ref (a 8), .int w5, .ref (a 9), .ref (a 10), .int M_at, .ref (a 11), .int M_toldMany])), (a 1, .inl (Y 0, 238, .inl M_g)), (a 2, .inl (Y 0, 1904, .inl M_kept)), (a 3, .inl (Y 0, 238, .inl M_saved)), (a 4, .inl (Y 0, 238, .inl M_before)), (a 5, .inl (Y 0, 60, .inl M_input)), (a 6, .inl (Y 2, 100, .inl M_signs)), (a 7, .inl (Y 0, 6, .inl w3)), (a 8, .inl (Y 0, 6, .inl w4)), (a 9, .inl (Y 0, 2048, .inl M_sums)), (a 10, .inl (Y 0, 2048, .inl M_groups)), (a 11, .inl (Y 0, 155, .inl M_told))] H := hP
    have hD : va_D A [(a 0, .inr (11, [.ref (a 1), .ref (a 2), .ref (a 3), .ref (a 4), .int M_isSaved, .int M_changes, .int M_isWithin, .int w2, .ref (a 5), .int M_length, .int M_fault, .int M_failed, .ref (a 6), .int 0, .ref (a 7), .ref (a 8), .int w5, .ref (a 9), .ref (a 10), .int M_at, .ref (a 11), .int M_toldMany])), (a 1, .inl (Y 0, 238, .inl M_g)), (a 2, .inl (Y 0, 1904, .inl M_kept)), (a 3, .inl (Y 0, 238, .inl M_saved)), (a 4, .inl (Y 0, 238, .inl M_before)), (a 5, .inl (Y 0, 60, .inl M_input)), (a 6, .inl (Y 2, 100, .inl M_signs)), (a 7, .inl (Y 0, 6, .inl w3)), (a 8, .inl (Y 0, 6, .inl w4)), (a 9, .inl (Y 0, 2048, .inl M_sums)), (a 10, .inl (Y 0, 2048, .inl M_groups)), (a 11, .inl (Y 0, 155, .inl M_told))] := hD
    refine lv_iconst (v := 0) hx hb dX11_renderColumn_15 (by decide) ?_
    refine lv_istore_n (lv' := [(2, .int 0), (0, .ref (a 0)), (1, .int x1)]) hx hb dX11_renderColumn_16 rfl hl (by decide) rfl (fun ls hl => ?_)
    exact wl_X11_renderColumn_L17 C0 hK hA FU 0 w2 M_signs 0 w3 w4 w5 hf H locs hP hD hS ls (lv_sub hl [1, 0] rfl)
  · have hf := wk_f hf q7
    refine lv_iconst (v := 0) hx hb dX11_renderColumn_8 (by decide) ?_
    obtain ⟨e0, e1, e2, e3, e4, e5, e6⟩ := wke7 hf
    subst e0
    subst e1
    subst e2
    subst e3
    subst e4
    subst e5
    subst e6
    have hP9 := hP.sub (ws' := (wX11 Y a M_g M_kept M_saved M_before M_isSaved M_changes M_isWithin w2 M_input M_length M_fault M_failed M_signs M_signMany w3 w4 w5 M_sums M_groups M_at M_told M_toldMany)) [0, 1, 2, 3, 4, 5, 6, 7, 8, 9, 10, 11] rfl
    have hD9 := hD.sub (ws' := (wX11 Y a M_g M_kept M_saved M_before M_isSaved M_changes M_isWithin w2 M_input M_length M_fault M_failed M_signs M_signMany w3 w4 w5 M_sums M_groups M_at M_told M_toldMany)) [0, 1, 2, 3, 4, 5, 6, 7, 8, 9, 10, 11] (by decide) rfl
    exact W.iret (v := 0) hx hb hr (fun t ht hW => ⟨⟨0, (), rfl, rfl, by rw [ht]; exact hP9, va_K.moved hW.alike hK, hD9⟩, hS.F ht⟩) hS.2.2 dX11_renderColumn_9
theorem lk_X11_renderEntry_RX11_7 : Cond.fieldLink RX11 7 "CircusLedgerModel" "g" "[I" ∈ wsX11_renderEntry := by decide +kernel
theorem lk_X11_renderEntry_RX11_188 : Cond.fieldLink RX11 188 "CircusLedgerModel" "signMany" "I" ∈ wsX11_renderEntry := by decide +kernel
theorem in_X11_renderEntry_X11 : ∀ w ∈ u_ws RX11 TX11 22, w ∈ wsX11_renderEntry := by decide +kernel
def f_X11_renderEntry_L22 (M_g : Nat → Int32) (x1 : Int32) (y0 : Int32) (M_code : Int32) (M_signs : (Nat → Int32)) (M_signMany : Int32) : Option (Int32 × Int32 × (Nat → Int32) × Int32) :=
    wkb2 (f_X11_fails M_code y0) (fun r1 w2 =>
    if r1 = 0 then
      (wkb1 (f_X11_entry M_g x1 0) (fun r5 =>
      wkb2 (f_X11_writesNumber 11 r5 M_signs 0) (fun w7 w8 =>
      wkb1 (f_X11_entry M_g x1 1) (fun r10 =>
      wkb2 (f_X11_writesBehind w7 w8 62 r10) (fun w12 w13 =>
      wkb1 (f_X11_entry M_g x1 2) (fun r15 =>
      wkb2 (f_X11_writesBehind w12 w13 61 r15) (fun w17 w18 =>
      some (w18, w2, w17, w18))))))))
    else
      (some (0, w2, M_signs, M_signMany)))
def f_X11_renderEntry (M_g : Nat → Int32) (M_code : Int32) (M_signs : Nat → Int32) (M_signMany : Int32) (x1 : Int32) : Option (Int32 × Int32 × (Nat → Int32) × Int32) :=
  wkb1 (f_X11_in x1 0 ((M_g 3) - 1)) (fun r1 =>
  if r1 = 0 then
    (f_X11_renderEntry_L22 M_g x1 1 M_code M_signs M_signMany)
  else
    (f_X11_renderEntry_L22 M_g x1 0 M_code M_signs M_signMany))
set_option maxHeartbeats 4000000 in
set_option maxRecDepth 100000 in
theorem wl_X11_renderEntry_L22 {p : Program} {l : Launch} {e : Env} {s : State} {m : MethodId} {args : Array Value} {below : List Frame} {meth : Method} {c : Code} {dC : Nat → ClassId} {dI : Nat → Nat → Nat} {Y : Nat → ClassId} {a : Nat → Nat} {M_g : Nat → Int32} {M_kept : Nat → Int32} {M_saved : Nat → Int32} {M_before : Nat → Int32} {M_isSaved : Int32} {M_changes : Int32} {M_isWithin : Int32} {M_input : Nat → Int32} {M_length : Int32} {M_fault : Int32} {M_failed : Int32} {M_column : Nat → Int32} {M_loads : Nat → Int32} {M_many : Int32} {M_sums : Nat → Int32} {M_groups : Nat → Int32} {M_at : Int32} {M_told : Nat → Int32} {M_toldMany : Int32} {x1 : Int32} {r : Int32} {zM_code : Int32} {zM_signs : Nat → Int32} {zM_signMany : Int32}  (C0 : wk_C p s m args meth c cX11_renderEntry 2 (some .int) wsX11_renderEntry RX11) {A : Nat → Prop} (hK : va_K (dC, dI) vwCl (vTy Y) s) (hA : ∀ q, s.heap.size ≤ q → A q) : ∀  (y0 : Int32) (M_code : Int32) (M_signs : Nat → Int32) (M_signMany : Int32), f_X11_renderEntry_L22 M_g x1 y0 M_code M_signs M_signMany = some (r, zM_code, zM_signs, zM_signMany) → ∀ (H : Heap) (locs : List Loc), va_P (dC, dI) vwCl (wX11 Y a M_g M_kept M_saved M_before M_isSaved M_changes M_isWithin M_code M_input M_length M_fault M_failed M_signs M_signMany M_column M_loads M_many M_sums M_groups M_at M_told M_toldMany) H → va_D A (wX11 Y a M_g M_kept M_saved M_before M_isSaved M_changes M_isWithin M_code M_input M_length M_fault M_failed M_signs M_signMany M_column M_loads M_many M_sums M_groups M_at M_told M_toldMany) → va_S A s.heap H locs → ∀ (ls : Array Slot), lv_has ls 2 [(0, .ref (a 0)), (1, .int x1)] → W p l e (headSpec wsX11_renderEntry ({ frames := 46, cells := 0, slots := 0, locals := 1363 } : Room)).room s m args below meth c H locs 0 0 (MQ below (va_Qi (fun r2 (_ : Unit) => r2 = r) (fun _ t => wk_X (dC, dI) Y (wX11 Y a M_g M_kept M_saved M_before M_isSaved M_changes M_isWithin zM_code M_input M_length M_fault M_failed zM_signs zM_signMany M_column M_loads M_many M_sums M_groups M_at M_told M_toldMany) A t) A) args s 0 0 A) (F0 m 22 ls [.int y0, .ref (a 0)]) := by
  obtain ⟨hx, hb, hml, hr, hlocks, hown, hts⟩ := id C0
  intro y0 M_code M_signs M_signMany hf H locs hP hD hS ls hl
  rw [f_X11_renderEntry_L22] at hf
  have hP : va_P (dC, dI) vwCl [(a 0, .inr (11, [.ref (a 1), .ref (a 2), .ref (a 3), .ref (a 4), .int M_isSaved, .int M_changes, .int M_isWithin, .int M_code, .ref (a 5), .int M_length, .int M_fault, .int M_failed, .ref (a 6), .int M_signMany, .ref (a 7), .ref (a 8), .int M_many, .ref (a 9), .ref (a 10), .int M_at, .ref (a 11), .int M_toldMany])), (a 1, .inl (Y 0, 238, .inl M_g)), (a 2, .inl (Y 0, 1904, .inl M_kept)), (a 3, .inl (Y 0, 238, .inl M_saved)), (a 4, .inl (Y 0, 238, .inl M_before)), (a 5, .inl (Y 0, 60, .inl M_input)), (a 6, .inl (Y 2, 100, .inl M_signs)), (a 7, .inl (Y 0, 6, .inl M_column)), (a 8, .inl (Y 0, 6, .inl M_loads)), (a 9, .inl (Y 0, 2048, .inl M_sums)), (a 10, .inl (Y 0, 2048, .inl M_groups)), (a 11, .inl (Y 0, 155, .inl M_told))] H := hP
  have hD : va_D A [(a 0, .inr (11, [.ref (a 1), .ref (a 2), .ref (a 3), .ref (a 4), .int M_isSaved, .int M_changes, .int M_isWithin, .int M_code, .ref (a 5), .int M_length, .int M_fault, .int M_failed, .ref (a 6), .int M_signMany, .ref (a 7), .ref (a 8), .int M_many, .ref (a 9), .ref (a 10), .int M_at, .ref (a 11), .int M_toldMany])), (a 1, .inl (Y 0, 238, .inl M_g)), (a 2, .inl (Y 0, 1904, .inl M_kept)), (a 3, .inl (Y 0, 238, .inl M_saved)), (a 4, .inl (Y 0, 238, .inl M_before)), (a 5, .inl (Y 0, 60, .inl M_input)), (a 6, .inl (Y 2, 100, .inl M_signs)), (a 7, .inl (Y 0, 6, .inl M_column)), (a 8, .inl (Y 0, 6, .inl M_loads)), (a 9, .inl (Y 0, 2048, .inl M_sums)), (a 10, .inl (Y 0, 2048, .inl M_groups)), (a 11, .inl (Y 0, 155, .inl M_told))] := hD
  obtain ⟨r1, w2, hr3, hf⟩ := wkb2_s hf
  refine wk_evi (As := [.int y0]) (rest := []) (wc := (wX11 Y a M_g M_kept M_saved M_before M_isSaved M_changes M_isWithin M_code M_input M_length M_fault M_failed M_signs M_signMany M_column M_loads M_many M_sums M_groups M_at M_told M_toldMany)) (w1 := (wX11 Y a M_g M_kept M_saved M_before M_isSaved M_changes M_isWithin w2 M_input M_length M_fault M_failed M_signs M_signMany M_column M_loads M_many M_sums M_groups M_at M_told M_toldMany)) (wr := []) ⟨hx, hb, hml, hown, hts⟩ (c_X11_fails l dC dI Y a M_g M_kept M_saved M_before M_isSaved M_changes M_isWithin M_code M_input M_length M_fault M_failed M_signs M_signMany M_column M_loads M_many M_sums M_groups M_at M_told M_toldMany y0 H.size r1 w2 hr3) (cwV 1 hts gX11_renderEntry_X11_fails rfl rfl rfl (by decide +kernel) ⟨Nat.le_of_ble_eq_true rfl, Nat.le_of_ble_eq_true rfl⟩) hK hP hD hS hA [0, 1, 2, 3, 4, 5, 6, 7, 8, 9, 10, 11] [] rfl rfl (by decide) (by decide) (by decide) (va_recv hK hP (ci := 11) (q0 := 0) rfl rfl) rfl hl.1 rfl (Nat.le_of_ble_eq_true rfl) dX11_renderEntry_22 ⟨Nat.le_of_ble_eq_true rfl, Nat.le_of_ble_eq_true rfl⟩ (fun H locs hP hD hS => ?_)
  have hP : va_P (dC, dI) vwCl [(a 0, .inr (11, [.ref (a 1), .ref (a 2), .ref (a 3), .ref (a 4), .int M_isSaved, .int M_changes, .int M_isWithin, .int w2, .ref (a 5), .int M_length, .int M_fault, .int M_failed, .ref (a 6), .int M_signMany, .ref (a 7), .ref (a 8), .int M_many, .ref (a 9), .ref (a 10), .int M_at, .ref (a 11), .int M_toldMany])), (a 1, .inl (Y 0, 238, .inl M_g)), (a 2, .inl (Y 0, 1904, .inl M_kept)), (a 3, .inl (Y 0, 238, .inl M_saved)), (a 4, .inl (Y 0, 238, .inl M_before)), (a 5, .inl (Y 0, 60, .inl M_input)), (a 6, .inl (Y 2, 100, .inl M_signs)), (a 7, .inl (Y 0, 6, .inl M_column)), (a 8, .inl (Y 0, 6, .inl M_loads)), (a 9, .inl (Y 0, 2048, .inl M_sums)), (a 10, .inl (Y 0, 2048, .inl M_groups)), (a 11, .inl (Y 0, 155, .inl M_told))] H := hP
  have hD : va_D A [(a 0, .inr (11, [.ref (a 1), .ref (a 2), .ref (a 3), .ref (a 4), .int M_isSaved, .int M_changes, .int M_isWithin, .int w2, .ref (a 5), .int M_length, .int M_fault, .int M_failed, .ref (a 6), .int M_signMany, .ref (a 7), .ref (a 8), .int M_many, .ref (a 9), .ref (a 10), .int M_at, .ref (a 11), .int M_toldMany])), (a 1, .inl (Y 0, 238, .inl M_g)), (a 2, .inl (Y 0, 1904, .inl M_kept)), (a 3, .inl (Y 0, 238, .inl M_saved)), (a 4, .inl (Y 0, 238, .inl M_before)), (a 5, .inl (Y 0, 60, .inl M_input)), (a 6, .inl (Y 2, 100, .inl M_signs)), (a 7, .inl (Y 0, 6, .inl M_column)), (a 8, .inl (Y 0, 6, .inl M_loads)), (a 9, .inl (Y 0, 2048, .inl M_sums)), (a 10, .inl (Y 0, 2048, .inl M_groups)), (a 11, .inl (Y 0, 155, .inl M_told))] := hD
  refine lv_if_eq (tgt := 30) hx hb dX11_renderEntry_25 (by decide) (fun q4 => ?_) (fun q4 => ?_)
  · have hf := wk_t hf q4
    refine lv_aload_n hx hb dX11_renderEntry_30 rfl (lv_at hl 0 rfl) ?_
    refine lv_iconst (v := 0) hx hb dX11_renderEntry_31 (by decide) ?_
    refine va_put (D := (dC, dI)) (ci := 11) (v := .int 0) (ty := .int) (C := RX11) (T := TX11) (N := 22) hx hb hts in_X11_renderEntry_X11 tyX11 tyX11_ok nmX11 hown hK hP hD hS 0 rfl rfl 13 (by decide) (hts _ lk_X11_renderEntry_RX11_188) (fun _ h9 => h9) rfl (by decide +kernel) rfl rfl (Nat.le_of_ble_eq_true rfl) dX11_renderEntry_32 (fun H locs hP hD hS => ?_)
    have hP : va_P (dC, dI) vwCl [(a 0, .inr (11, [.ref (a 1), .ref (a 2), .ref (a 3), .ref (a 4), .int M_isSaved, .int M_changes, .int M_isWithin, .int w2, .ref (a 5), .int M_length, .int M_fault, .int M_failed, .ref (a 6), .int 0, .ref (a 7), .ref (a 8), .int M_many, .ref (a 9), .ref (a 10), .int M_at, .ref (a 11), .int M_toldMany])), (a 1, .inl (Y 0, 238, .inl M_g)), (a 2, .inl (Y 0, 1904, .inl M_kept)), (a 3, .inl (Y 0, 238, .inl M_saved)), (a 4, .inl (Y 0, 238, .inl M_before)), (a 5, .inl (Y 0, 60, .inl M_input)), (a 6, .inl (Y 2, 100, .inl M_signs)), (a 7, .inl (Y 0, 6, .inl M_column)), (a 8, .inl (Y 0, 6, .inl M_loads)), (a 9, .inl (Y 0, 2048, .inl M_sums)), (a 10, .inl (Y 0, 2048, .inl M_groups)), (a 11, .inl (Y 0, 155, .inl M_told))] H := hP
    have hD : va_D A [(a 0, .inr (11, [.ref (a 1), .ref (a 2), .ref (a 3), .ref (a 4), .int M_isSaved, .int M_changes, .int M_isWithin, .int w2, .ref (a 5), .int M_length, .int M_fault, .int M_failed, .ref (a 6), .int 0, .ref (a 7), .ref (a 8), .int M_many, .ref (a 9), .ref (a 10), .int M_at, .ref (a 11), .int M_toldMany])), (a 1, .inl (Y 0, 238, .inl M_g)), (a 2, .inl (Y 0, 1904, .inl M_kept)), (a 3, .inl (Y 0, 238, .inl M_saved)), (a 4, .inl (Y 0, 238, .inl M_before)), (a 5, .inl (Y 0, 60, .inl M_input)), (a 6, .inl (Y 2, 100, .inl M_signs)), (a 7, .inl (Y 0, 6, .inl M_column)), (a 8, .inl (Y 0, 6, .inl M_loads)), (a 9, .inl (Y 0, 2048, .inl M_sums)), (a 10, .inl (Y 0, 2048, .inl M_groups)), (a 11, .inl (Y 0, 155, .inl M_told))] := hD
    refine lv_aload_n hx hb dX11_renderEntry_35 rfl (lv_at hl 0 rfl) ?_
    refine lv_aload_n hx hb dX11_renderEntry_36 rfl (lv_at hl 0 rfl) ?_
    refine lv_iload_n hx hb dX11_renderEntry_37 rfl (lv_at hl 1 rfl) ?_
    refine lv_iconst (v := 0) hx hb dX11_renderEntry_38 (by decide) ?_
    obtain ⟨r5, hr6, hf⟩ := wkb1_s hf
    have hPc := hP.sub (ws' := (wX11 Y a M_g M_kept M_saved M_before M_isSaved M_changes M_isWithin w2 M_input M_length M_fault M_failed M_signs 0 M_column M_loads M_many M_sums M_groups M_at M_told M_toldMany)) [0, 1, 2, 3, 4, 5, 6, 7, 8, 9, 10, 11] rfl
    refine wk_vi (As := [.int x1, .int 0]) (rest := [.ref (a 0)]) ⟨hx, hb, hml, hown, hts⟩ (c_X11_entry l dC dI Y a M_g M_kept M_saved M_before M_isSaved M_changes M_isWithin w2 M_input M_length M_fault M_failed M_signs 0 M_column M_loads M_many M_sums M_groups M_at M_told M_toldMany x1 0 r5 hr6) (cwV 2 hts gX11_renderEntry_X11_entry rfl rfl rfl (by decide +kernel) ⟨Nat.le_of_ble_eq_true rfl, Nat.le_of_ble_eq_true rfl⟩) hK hPc (va_recv hK hP (ci := 11) (q0 := 0) rfl rfl) rfl hl.1 rfl (Nat.le_of_ble_eq_true rfl) dX11_renderEntry_39 ⟨Nat.le_of_ble_eq_true rfl, Nat.le_of_ble_eq_true rfl⟩ ?_
    obtain ⟨w7, w8, hr9, hf⟩ := wkb2_s hf
    refine wk_evv (As := [.int r5]) (rest := []) (wc := (wX11 Y a M_g M_kept M_saved M_before M_isSaved M_changes M_isWithin w2 M_input M_length M_fault M_failed M_signs 0 M_column M_loads M_many M_sums M_groups M_at M_told M_toldMany)) (w1 := (wX11 Y a M_g M_kept M_saved M_before M_isSaved M_changes M_isWithin w2 M_input M_length M_fault M_failed w7 w8 M_column M_loads M_many M_sums M_groups M_at M_told M_toldMany)) (wr := []) ⟨hx, hb, hml, hown, hts⟩ (c_X11_writesNumber l dC dI Y 11 a M_g M_kept M_saved M_before M_isSaved M_changes M_isWithin w2 M_input M_length M_fault M_failed M_signs 0 M_column M_loads M_many M_sums M_groups M_at M_told M_toldMany r5 H.size w7 w8 hr9) (cwV 1 hts gX11_renderEntry_X11_writesNumber rfl rfl rfl (by decide +kernel) ⟨Nat.le_of_ble_eq_true rfl, Nat.le_of_ble_eq_true rfl⟩) hK hP hD hS hA [0, 1, 2, 3, 4, 5, 6, 7, 8, 9, 10, 11] [] rfl rfl (by decide) (by decide) (by decide) (va_recv hK hP (ci := 11) (q0 := 0) rfl rfl) rfl hl.1 rfl (Nat.le_of_ble_eq_true rfl) dX11_renderEntry_42 ⟨Nat.le_of_ble_eq_true rfl, Nat.le_of_ble_eq_true rfl⟩ (fun H locs hP hD hS => ?_)
    have hP : va_P (dC, dI) vwCl [(a 0, .inr (11, [.ref (a 1), .ref (a 2), .ref (a 3), .ref (a 4), .int M_isSaved, .int M_changes, .int M_isWithin, .int w2, .ref (a 5), .int M_length, .int M_fault, .int M_failed, .ref (a 6), .int w8, .ref (a 7), .ref (a 8), .int M_many, .ref (a 9), .ref (a 10), .int M_at, .ref (a 11), .int M_toldMany])), (a 1, .inl (Y 0, 238, .inl M_g)), (a 2, .inl (Y 0, 1904, .inl M_kept)), (a 3, .inl (Y 0, 238, .inl M_saved)), (a 4, .inl (Y 0, 238, .inl M_before)), (a 5, .inl (Y 0, 60, .inl M_input)), (a 6, .inl (Y 2, 100, .inl w7)), (a 7, .inl (Y 0, 6, .inl M_column)), (a 8, .inl (Y 0, 6, .inl M_loads)), (a 9, .inl (Y 0, 2048, .inl M_sums)), (a 10, .inl (Y 0, 2048, .inl M_groups)), (a 11, .inl (Y 0, 155, .inl M_told))] H := hP
    have hD : va_D A [(a 0, .inr (11, [.ref (a 1), .ref (a 2), .ref (a 3), .ref (a 4), .int M_isSaved, .int M_changes, .int M_isWithin, .int w2, .ref (a 5), .int M_length, .int M_fault, .int M_failed, .ref (a 6), .int w8, .ref (a 7), .ref (a 8), .int M_many, .ref (a 9), .ref (a 10), .int M_at, .ref (a 11), .int M_toldMany])), (a 1, .inl (Y 0, 238, .inl M_g)), (a 2, .inl (Y 0, 1904, .inl M_kept)), (a 3, .inl (Y 0, 238, .inl M_saved)), (a 4, .inl (Y 0, 238, .inl M_before)), (a 5, .inl (Y 0, 60, .inl M_input)), (a 6, .inl (Y 2, 100, .inl w7)), (a 7, .inl (Y 0, 6, .inl M_column)), (a 8, .inl (Y 0, 6, .inl M_loads)), (a 9, .inl (Y 0, 2048, .inl M_sums)), (a 10, .inl (Y 0, 2048, .inl M_groups)), (a 11, .inl (Y 0, 155, .inl M_told))] := hD
    refine lv_aload_n hx hb dX11_renderEntry_45 rfl (lv_at hl 0 rfl) ?_
    refine lv_bipush (v := 62) hx hb dX11_renderEntry_46 (by decide) ?_
    refine lv_aload_n hx hb dX11_renderEntry_48 rfl (lv_at hl 0 rfl) ?_
    refine lv_iload_n hx hb dX11_renderEntry_49 rfl (lv_at hl 1 rfl) ?_
    refine lv_iconst (v := 1) hx hb dX11_renderEntry_50 (by decide) ?_
    obtain ⟨r10, hr11, hf⟩ := wkb1_s hf
    have hPc := hP.sub (ws' := (wX11 Y a M_g M_kept M_saved M_before M_isSaved M_changes M_isWithin w2 M_input M_length M_fault M_failed w7 w8 M_column M_loads M_many M_sums M_groups M_at M_told M_toldMany)) [0, 1, 2, 3, 4, 5, 6, 7, 8, 9, 10, 11] rfl
    refine wk_vi (As := [.int x1, .int 1]) (rest := [.int 62, .ref (a 0)]) ⟨hx, hb, hml, hown, hts⟩ (c_X11_entry l dC dI Y a M_g M_kept M_saved M_before M_isSaved M_changes M_isWithin w2 M_input M_length M_fault M_failed w7 w8 M_column M_loads M_many M_sums M_groups M_at M_told M_toldMany x1 1 r10 hr11) (cwV 2 hts gX11_renderEntry_X11_entry rfl rfl rfl (by decide +kernel) ⟨Nat.le_of_ble_eq_true rfl, Nat.le_of_ble_eq_true rfl⟩) hK hPc (va_recv hK hP (ci := 11) (q0 := 0) rfl rfl) rfl hl.1 rfl (Nat.le_of_ble_eq_true rfl) dX11_renderEntry_51 ⟨Nat.le_of_ble_eq_true rfl, Nat.le_of_ble_eq_true rfl⟩ ?_
    obtain ⟨w12, w13, hr14, hf⟩ := wkb2_s hf
    refine wk_evv (As := [.int 62, .int r10]) (rest := []) (wc := (wX11 Y a M_g M_kept M_saved M_before M_isSaved M_changes M_isWithin w2 M_input M_length M_fault M_failed w7 w8 M_column M_loads M_many M_sums M_groups M_at M_told M_toldMany)) (w1 := (wX11 Y a M_g M_kept M_saved M_before M_isSaved M_changes M_isWithin w2 M_input M_length M_fault M_failed w12 w13 M_column M_loads M_many M_sums M_groups M_at M_told M_toldMany)) (wr := []) ⟨hx, hb, hml, hown, hts⟩ (c_X11_writesBehind l dC dI Y a M_g M_kept M_saved M_before M_isSaved M_changes M_isWithin w2 M_input M_length M_fault M_failed w7 w8 M_column M_loads M_many M_sums M_groups M_at M_told M_toldMany 62 r10 H.size w12 w13 hr14) (cwV 2 hts gX11_renderEntry_X11_writesBehind rfl rfl rfl (by decide +kernel) ⟨Nat.le_of_ble_eq_true rfl, Nat.le_of_ble_eq_true rfl⟩) hK hP hD hS hA [0, 1, 2, 3, 4, 5, 6, 7, 8, 9, 10, 11] [] rfl rfl (by decide) (by decide) (by decide) (va_recv hK hP (ci := 11) (q0 := 0) rfl rfl) rfl hl.1 rfl (Nat.le_of_ble_eq_true rfl) dX11_renderEntry_54 ⟨Nat.le_of_ble_eq_true rfl, Nat.le_of_ble_eq_true rfl⟩ (fun H locs hP hD hS => ?_)
    have hP : va_P (dC, dI) vwCl [(a 0, .inr (11, [.ref (a 1), .ref (a 2), .ref (a 3), .ref (a 4), .int M_isSaved, .int M_changes, .int M_isWithin, .int w2, .ref (a 5), .int M_length, .int M_fault, .int M_failed, .ref (a 6), .int w13, .ref (a 7), .ref (a 8), .int M_many, .ref (a 9), .ref (a 10), .int M_at, .ref (a 11), .int M_toldMany])), (a 1, .inl (Y 0, 238, .inl M_g)), (a 2, .inl (Y 0, 1904, .inl M_kept)), (a 3, .inl (Y 0, 238, .inl M_saved)), (a 4, .inl (Y 0, 238, .inl M_before)), (a 5, .inl (Y 0, 60, .inl M_input)), (a 6, .inl (Y 2, 100, .inl w12)), (a 7, .inl (Y 0, 6, .inl M_column)), (a 8, .inl (Y 0, 6, .inl M_loads)), (a 9, .inl (Y 0, 2048, .inl M_sums)), (a 10, .inl (Y 0, 2048, .inl M_groups)), (a 11, .inl (Y 0, 155, .inl M_told))] H := hP
    have hD : va_D A [(a 0, .inr (11, [.ref (a 1), .ref (a 2), .ref (a 3), .ref (a 4), .int M_isSaved, .int M_changes, .int M_isWithin, .int w2, .ref (a 5), .int M_length, .int M_fault, .int M_failed, .ref (a 6), .int w13, .ref (a 7), .ref (a 8), .int M_many, .ref (a 9), .ref (a 10), .int M_at, .ref (a 11), .int M_toldMany])), (a 1, .inl (Y 0, 238, .inl M_g)), (a 2, .inl (Y 0, 1904, .inl M_kept)), (a 3, .inl (Y 0, 238, .inl M_saved)), (a 4, .inl (Y 0, 238, .inl M_before)), (a 5, .inl (Y 0, 60, .inl M_input)), (a 6, .inl (Y 2, 100, .inl w12)), (a 7, .inl (Y 0, 6, .inl M_column)), (a 8, .inl (Y 0, 6, .inl M_loads)), (a 9, .inl (Y 0, 2048, .inl M_sums)), (a 10, .inl (Y 0, 2048, .inl M_groups)), (a 11, .inl (Y 0, 155, .inl M_told))] := hD
    refine lv_aload_n hx hb dX11_renderEntry_57 rfl (lv_at hl 0 rfl) ?_
    refine lv_bipush (v := 61) hx hb dX11_renderEntry_58 (by decide) ?_
    refine lv_aload_n hx hb dX11_renderEntry_60 rfl (lv_at hl 0 rfl) ?_
    refine lv_iload_n hx hb dX11_renderEntry_61 rfl (lv_at hl 1 rfl) ?_
    refine lv_iconst (v := 2) hx hb dX11_renderEntry_62 (by decide) ?_
    obtain ⟨r15, hr16, hf⟩ := wkb1_s hf
    have hPc := hP.sub (ws' := (wX11 Y a M_g M_kept M_saved M_before M_isSaved M_changes M_isWithin w2 M_input M_length M_fault M_failed w12 w13 M_column M_loads M_many M_sums M_groups M_at M_told M_toldMany)) [0, 1, 2, 3, 4, 5, 6, 7, 8, 9, 10, 11] rfl
    refine wk_vi (As := [.int x1, .int 2]) (rest := [.int 61, .ref (a 0)]) ⟨hx, hb, hml, hown, hts⟩ (c_X11_entry l dC dI Y a M_g M_kept M_saved M_before M_isSaved M_changes M_isWithin w2 M_input M_length M_fault M_failed w12 w13 M_column M_loads M_many M_sums M_groups M_at M_told M_toldMany x1 2 r15 hr16) (cwV 2 hts gX11_renderEntry_X11_entry rfl rfl rfl (by decide +kernel) ⟨Nat.le_of_ble_eq_true rfl, Nat.le_of_ble_eq_true rfl⟩) hK hPc (va_recv hK hP (ci := 11) (q0 := 0) rfl rfl) rfl hl.1 rfl (Nat.le_of_ble_eq_true rfl) dX11_renderEntry_63 ⟨Nat.le_of_ble_eq_true rfl, Nat.le_of_ble_eq_true rfl⟩ ?_
    obtain ⟨w17, w18, hr19, hf⟩ := wkb2_s hf
    refine wk_evv (As := [.int 61, .int r15]) (rest := []) (wc := (wX11 Y a M_g M_kept M_saved M_before M_isSaved M_changes M_isWithin w2 M_input M_length M_fault M_failed w12 w13 M_column M_loads M_many M_sums M_groups M_at M_told M_toldMany)) (w1 := (wX11 Y a M_g M_kept M_saved M_before M_isSaved M_changes M_isWithin w2 M_input M_length M_fault M_failed w17 w18 M_column M_loads M_many M_sums M_groups M_at M_told M_toldMany)) (wr := []) ⟨hx, hb, hml, hown, hts⟩ (c_X11_writesBehind l dC dI Y a M_g M_kept M_saved M_before M_isSaved M_changes M_isWithin w2 M_input M_length M_fault M_failed w12 w13 M_column M_loads M_many M_sums M_groups M_at M_told M_toldMany 61 r15 H.size w17 w18 hr19) (cwV 2 hts gX11_renderEntry_X11_writesBehind rfl rfl rfl (by decide +kernel) ⟨Nat.le_of_ble_eq_true rfl, Nat.le_of_ble_eq_true rfl⟩) hK hP hD hS hA [0, 1, 2, 3, 4, 5, 6, 7, 8, 9, 10, 11] [] rfl rfl (by decide) (by decide) (by decide) (va_recv hK hP (ci := 11) (q0 := 0) rfl rfl) rfl hl.1 rfl (Nat.le_of_ble_eq_true rfl) dX11_renderEntry_66 ⟨Nat.le_of_ble_eq_true rfl, Nat.le_of_ble_eq_true rfl⟩ (fun H locs hP hD hS => ?_)
    have hP : va_P (dC, dI) vwCl [(a 0, .inr (11, [.ref (a 1), .ref (a 2), .ref (a 3), .ref (a 4), .int M_isSaved, .int M_changes, .int M_isWithin, .int w2, .ref (a 5), .int M_length, .int M_fault, .int M_failed, .ref (a 6), .int w18, .ref (a 7), .ref (a 8), .int M_many, .ref (a 9), .ref (a 10), .int M_at, .ref (a 11), .int M_toldMany])), (a 1, .inl (Y 0, 238, .inl M_g)), (a 2, .inl (Y 0, 1904, .inl M_kept)), (a 3, .inl (Y 0, 238, .inl M_saved)), (a 4, .inl (Y 0, 238, .inl M_before)), (a 5, .inl (Y 0, 60, .inl M_input)), (a 6, .inl (Y 2, 100, .inl w17)), (a 7, .inl (Y 0, 6, .inl M_column)), (a 8, .inl (Y 0, 6, .inl M_loads)), (a 9, .inl (Y 0, 2048, .inl M_sums)), (a 10, .inl (Y 0, 2048, .inl M_groups)), (a 11, .inl (Y 0, 155, .inl M_told))] H := hP
    have hD : va_D A [(a 0, .inr (11, [.ref (a 1), .ref (a 2), .ref (a 3), .ref (a 4), .int M_isSaved, .int M_changes, .int M_isWithin, .int w2, .ref (a 5), .int M_length, .int M_fault, .int M_failed, .ref (a 6), .int w18, .ref (a 7), .ref (a 8), .int M_many, .ref (a 9), .ref (a 10), .int M_at, .ref (a 11), .int M_toldMany])), (a 1, .inl (Y 0, 238, .inl M_g)), (a 2, .inl (Y 0, 1904, .inl M_kept)), (a 3, .inl (Y 0, 238, .inl M_saved)), (a 4, .inl (Y 0, 238, .inl M_before)), (a 5, .inl (Y 0, 60, .inl M_input)), (a 6, .inl (Y 2, 100, .inl w17)), (a 7, .inl (Y 0, 6, .inl M_column)), (a 8, .inl (Y 0, 6, .inl M_loads)), (a 9, .inl (Y 0, 2048, .inl M_sums)), (a 10, .inl (Y 0, 2048, .inl M_groups)), (a 11, .inl (Y 0, 155, .inl M_told))] := hD
    refine lv_aload_n hx hb dX11_renderEntry_69 rfl (lv_at hl 0 rfl) ?_
    refine va_get (D := (dC, dI)) (ci := 11) (v := .int w18) (C := RX11) (T := TX11) (N := 22) hx hb hts in_X11_renderEntry_X11 hown hK hP 0 rfl rfl 13 (by decide) (hts _ lk_X11_renderEntry_RX11_188) (fun _ h9 => h9) rfl dX11_renderEntry_70 ?_
    obtain ⟨e0, e1, e2, e3⟩ := wke4 hf
    subst e0
    subst e1
    subst e2
    subst e3
    have hP9 := hP.sub (ws' := (wX11 Y a M_g M_kept M_saved M_before M_isSaved M_changes M_isWithin w2 M_input M_length M_fault M_failed w17 w18 M_column M_loads M_many M_sums M_groups M_at M_told M_toldMany)) [0, 1, 2, 3, 4, 5, 6, 7, 8, 9, 10, 11] rfl
    have hD9 := hD.sub (ws' := (wX11 Y a M_g M_kept M_saved M_before M_isSaved M_changes M_isWithin w2 M_input M_length M_fault M_failed w17 w18 M_column M_loads M_many M_sums M_groups M_at M_told M_toldMany)) [0, 1, 2, 3, 4, 5, 6, 7, 8, 9, 10, 11] (by decide) rfl
    exact W.iret (v := w18) hx hb hr (fun t ht hW => ⟨⟨w18, (), rfl, rfl, by rw [ht]; exact hP9, va_K.moved hW.alike hK, hD9⟩, hS.F ht⟩) hS.2.2 dX11_renderEntry_73
  · have hf := wk_f hf q4
    refine lv_iconst (v := 0) hx hb dX11_renderEntry_28 (by decide) ?_
    obtain ⟨e0, e1, e2, e3⟩ := wke4 hf
    subst e0
    subst e1
    subst e2
    subst e3
    have hP9 := hP.sub (ws' := (wX11 Y a M_g M_kept M_saved M_before M_isSaved M_changes M_isWithin w2 M_input M_length M_fault M_failed M_signs M_signMany M_column M_loads M_many M_sums M_groups M_at M_told M_toldMany)) [0, 1, 2, 3, 4, 5, 6, 7, 8, 9, 10, 11] rfl
    have hD9 := hD.sub (ws' := (wX11 Y a M_g M_kept M_saved M_before M_isSaved M_changes M_isWithin w2 M_input M_length M_fault M_failed M_signs M_signMany M_column M_loads M_many M_sums M_groups M_at M_told M_toldMany)) [0, 1, 2, 3, 4, 5, 6, 7, 8, 9, 10, 11] (by decide) rfl
    exact W.iret (v := 0) hx hb hr (fun t ht hW => ⟨⟨0, (), rfl, rfl, by rw [ht]; exact hP9, va_K.moved hW.alike hK, hD9⟩, hS.F ht⟩) hS.2.2 dX11_renderEntry_29
set_option maxHeartbeats 4000000 in
set_option maxRecDepth 100000 in
theorem c_X11_renderEntry (l : Launch) (dC : Nat → ClassId) (dI : Nat → Nat → Nat) (Y : Nat → ClassId) (a : Nat → Nat) (M_g : Nat → Int32) (M_kept : Nat → Int32) (M_saved : Nat → Int32) (M_before : Nat → Int32) (M_isSaved : Int32) (M_changes : Int32) (M_isWithin : Int32) (M_code : Int32) (M_input : Nat → Int32) (M_length : Int32) (M_fault : Int32) (M_failed : Int32) (M_signs : Nat → Int32) (M_signMany : Int32) (M_column : Nat → Int32) (M_loads : Nat → Int32) (M_many : Int32) (M_sums : Nat → Int32) (M_groups : Nat → Int32) (M_at : Int32) (M_told : Nat → Int32) (M_toldMany : Int32) (x1 : Int32) (sz : Nat) (r : Int32) (zM_code : Int32) (zM_signs : Nat → Int32) (zM_signMany : Int32) (hf : f_X11_renderEntry M_g M_code M_signs M_signMany x1 = some (r, zM_code, zM_signs, zM_signMany)) : Met l yX11_renderEntry wsX11_renderEntry ({ frames := 46, cells := 0, slots := 0, locals := 1363 } : Room) (va_Pc [.ref (a 0), .int x1] (wk_E (dC, dI) Y (wX11 Y a M_g M_kept M_saved M_before M_isSaved M_changes M_isWithin M_code M_input M_length M_fault M_failed M_signs M_signMany M_column M_loads M_many M_sums M_groups M_at M_told M_toldMany) sz)) (va_Qi (fun r2 (_ : Unit) => r2 = r) (fun _ t => wk_X (dC, dI) Y (wX11 Y a M_g M_kept M_saved M_before M_isSaved M_changes M_isWithin zM_code M_input M_length M_fault M_failed zM_signs zM_signMany M_column M_loads M_many M_sums M_groups M_at M_told M_toldMany) (va_A (wX11 Y a M_g M_kept M_saved M_before M_isSaved M_changes M_isWithin M_code M_input M_length M_fault M_failed M_signs M_signMany M_column M_loads M_many M_sums M_groups M_at M_told M_toldMany) sz) t) (va_A (wX11 Y a M_g M_kept M_saved M_before M_isSaved M_changes M_isWithin M_code M_input M_length M_fault M_failed M_signs M_signMany M_column M_loads M_many M_sums M_groups M_at M_told M_toldMany) sz)) 0 0 (va_A (wX11 Y a M_g M_kept M_saved M_before M_isSaved M_changes M_isWithin M_code M_input M_length M_fault M_failed M_signs M_signMany M_column M_loads M_many M_sums M_groups M_at M_told M_toldMany) sz) := by
  refine Met.ofW (cc := cX11_renderEntry) (maxL := 2) (ret := (some .int)) (by decide) rfl ?_
  intro p e s m args below meth c s₁ B hml hv
  obtain ⟨rfl, hsz, hP, hK, hD0⟩ := hv
  have hx := B.exec
  have hb := B.bytes
  have hr := B.returns
  have hts := atoms_spec (ws := wsX11_renderEntry) B.pre
  have hown : s.vm.findClass RX11 = some m.cls := findClass_of_methodNamed B.named
  have hlocks := B.notSynchronized
  have C0 : wk_C p s m _ meth c cX11_renderEntry 2 (some .int) wsX11_renderEntry RX11 := ⟨hx, hb, hml, hr, hlocks, hown, hts⟩
  subst hsz
  have hD := hD0.self (sz := s.heap.size)
  generalize hAe : va_A (wX11 Y a M_g M_kept M_saved M_before M_isSaved M_changes M_isWithin M_code M_input M_length M_fault M_failed M_signs M_signMany M_column M_loads M_many M_sums M_groups M_at M_told M_toldMany) s.heap.size = A at hD ⊢
  have hA : ∀ q : Nat, s.heap.size ≤ q → A q := fun q h => by rw [← hAe]; exact Or.inr h
  have hS : va_S A s.heap s.heap [] := va_S.rf
  obtain ⟨H, hHe⟩ : ∃ H, H = s.heap := ⟨_, rfl⟩
  have hS : va_S A s.heap H [] := by rw [hHe]; exact hS
  have hP : va_P (dC, dI) vwCl [(a 0, .inr (11, [.ref (a 1), .ref (a 2), .ref (a 3), .ref (a 4), .int M_isSaved, .int M_changes, .int M_isWithin, .int M_code, .ref (a 5), .int M_length, .int M_fault, .int M_failed, .ref (a 6), .int M_signMany, .ref (a 7), .ref (a 8), .int M_many, .ref (a 9), .ref (a 10), .int M_at, .ref (a 11), .int M_toldMany])), (a 1, .inl (Y 0, 238, .inl M_g)), (a 2, .inl (Y 0, 1904, .inl M_kept)), (a 3, .inl (Y 0, 238, .inl M_saved)), (a 4, .inl (Y 0, 238, .inl M_before)), (a 5, .inl (Y 0, 60, .inl M_input)), (a 6, .inl (Y 2, 100, .inl M_signs)), (a 7, .inl (Y 0, 6, .inl M_column)), (a 8, .inl (Y 0, 6, .inl M_loads)), (a 9, .inl (Y 0, 2048, .inl M_sums)), (a 10, .inl (Y 0, 2048, .inl M_groups)), (a 11, .inl (Y 0, 155, .inl M_told))] H := by rw [hHe]; exact hP
  have hD : va_D A [(a 0, .inr (11, [.ref (a 1), .ref (a 2), .ref (a 3), .ref (a 4), .int M_isSaved, .int M_changes, .int M_isWithin, .int M_code, .ref (a 5), .int M_length, .int M_fault, .int M_failed, .ref (a 6), .int M_signMany, .ref (a 7), .ref (a 8), .int M_many, .ref (a 9), .ref (a 10), .int M_at, .ref (a 11), .int M_toldMany])), (a 1, .inl (Y 0, 238, .inl M_g)), (a 2, .inl (Y 0, 1904, .inl M_kept)), (a 3, .inl (Y 0, 238, .inl M_saved)), (a 4, .inl (Y 0, 238, .inl M_before)), (a 5, .inl (Y 0, 60, .inl M_input)), (a 6, .inl (Y 2, 100, .inl M_signs)), (a 7, .inl (Y 0, 6, .inl M_column)), (a 8, .inl (Y 0, 6, .inl M_loads)), (a 9, .inl (Y 0, 2048, .inl M_sums)), (a 10, .inl (Y 0, 2048, .inl M_groups)), (a 11, .inl (Y 0, 155, .inl M_told))] := hD
  obtain ⟨locs, hlo⟩ : ∃ locs : List Loc, locs = [] := ⟨_, rfl⟩
  have hS : va_S A s.heap H locs := by rw [hlo]; exact hS
  have hl := lv_entry ([.ref (a 0), .int x1]) (n := 2) (Nat.le_of_ble_eq_true rfl)
  rw [lg_entry_eq]
  generalize (lg_sl ([.ref (a 0), .int x1]) ++ List.replicate (2 - (lg_sl ([.ref (a 0), .int x1])).length) Slot.unset).toArray = ls at hl ⊢
  have hl : lv_has ls 2 [(0, .ref (a 0)), (1, .int x1)] := hl
  refine wk_start hHe hlo ?_
  rw [f_X11_renderEntry] at hf
  refine lv_aload_n hx hb dX11_renderEntry_0 rfl (lv_at hl 0 rfl) ?_
  refine lv_iload_n hx hb dX11_renderEntry_1 rfl (lv_at hl 1 rfl) ?_
  refine lv_iconst (v := 0) hx hb dX11_renderEntry_2 (by decide) ?_
  refine lv_aload_n hx hb dX11_renderEntry_3 rfl (lv_at hl 0 rfl) ?_
  refine va_get (D := (dC, dI)) (ci := 11) (v := .ref (a 1)) (C := RX11) (T := TX11) (N := 22) hx hb hts in_X11_renderEntry_X11 hown hK hP 0 rfl rfl 0 (by decide) (hts _ lk_X11_renderEntry_RX11_7) (fun _ h9 => h9) rfl dX11_renderEntry_4 ?_
  refine lv_iconst (v := 3) hx hb dX11_renderEntry_7 (by decide) ?_
  refine wk_iald hx hb hK hP 1 0 (k := 3) rfl rfl (vp_lit (by decide)) (by decide) dX11_renderEntry_8 ?_
  refine lv_iconst (v := 1) hx hb dX11_renderEntry_9 (by decide) ?_
  refine lv_isub hx hb dX11_renderEntry_10 ?_
  obtain ⟨r1, hr2, hf⟩ := wkb1_s hf
  have hPc := hP.sub (ws' := ([] : va_W)) [] rfl
  refine wk_si (As := [.int x1, .int 0, .int ((M_g 3) - 1)]) (rest := [.ref (a 0)]) ⟨hx, hb, hml, hown, hts⟩ (c_X11_in l dC dI Y x1 0 ((M_g 3) - 1) r1 hr2) (va_cwS 3 hts gX11_renderEntry_X11_in rfl rfl rfl (by decide +kernel) ⟨Nat.le_of_ble_eq_true rfl, Nat.le_of_ble_eq_true rfl⟩) hK hPc rfl hl.1 rfl (Nat.le_of_ble_eq_true rfl) dX11_renderEntry_11 ⟨Nat.le_of_ble_eq_true rfl, Nat.le_of_ble_eq_true rfl⟩ ?_
  refine lv_if_eq (tgt := 21) hx hb dX11_renderEntry_14 (by decide) (fun q3 => ?_) (fun q3 => ?_)
  · have hf := wk_t hf q3
    refine lv_iconst (v := 1) hx hb dX11_renderEntry_21 (by decide) ?_
    exact wl_X11_renderEntry_L22 C0 hK hA 1 M_code M_signs M_signMany hf H locs hP hD hS ls (lv_sub hl [0, 1] rfl)
  · have hf := wk_f hf q3
    refine lv_iconst (v := 0) hx hb dX11_renderEntry_17 (by decide) ?_
    refine lv_goto (tgt := 22) hx hb dX11_renderEntry_18 (by decide) ?_
    exact wl_X11_renderEntry_L22 C0 hK hA 0 M_code M_signs M_signMany hf H locs hP hD hS ls (lv_sub hl [0, 1] rfl)
theorem lk_X11_outputAt_RX11_32 : Cond.fieldLink RX11 32 "CircusLedgerModel" "signs" "[C" ∈ wsX11_outputAt := by decide +kernel
theorem lk_X11_outputAt_RX11_188 : Cond.fieldLink RX11 188 "CircusLedgerModel" "signMany" "I" ∈ wsX11_outputAt := by decide +kernel
theorem in_X11_outputAt_X11 : ∀ w ∈ u_ws RX11 TX11 22, w ∈ wsX11_outputAt := by decide +kernel
def f_X11_outputAt (M_code : Int32) (M_signs : Nat → Int32) (M_signMany : Int32) (x1 : Int32) : Option (Int32 × Int32) :=
  wkb1 (f_X11_in x1 0 (M_signMany - 1)) (fun r1 =>
  if r1 = 0 then
    (wkb2 (f_X11_fails M_code 1) (fun r4 w5 =>
    if r4 = 0 then
      (gin x1 100 (gok ((M_signs x1.toNatClampNeg).toUInt32.toUInt16.toUInt32.toInt32 = (M_signs x1.toNatClampNeg)) (some ((M_signs x1.toNatClampNeg), w5))))
    else
      (some (32, w5))))
  else
    (wkb2 (f_X11_fails M_code 0) (fun r9 w10 =>
    if r9 = 0 then
      (gin x1 100 (gok ((M_signs x1.toNatClampNeg).toUInt32.toUInt16.toUInt32.toInt32 = (M_signs x1.toNatClampNeg)) (some ((M_signs x1.toNatClampNeg), w10))))
    else
      (some (32, w10)))))
set_option maxHeartbeats 4000000 in
set_option maxRecDepth 100000 in
theorem c_X11_outputAt (l : Launch) (dC : Nat → ClassId) (dI : Nat → Nat → Nat) (Y : Nat → ClassId) (a : Nat → Nat) (M_g : Nat → Int32) (M_kept : Nat → Int32) (M_saved : Nat → Int32) (M_before : Nat → Int32) (M_isSaved : Int32) (M_changes : Int32) (M_isWithin : Int32) (M_code : Int32) (M_input : Nat → Int32) (M_length : Int32) (M_fault : Int32) (M_failed : Int32) (M_signs : Nat → Int32) (M_signMany : Int32) (M_column : Nat → Int32) (M_loads : Nat → Int32) (M_many : Int32) (M_sums : Nat → Int32) (M_groups : Nat → Int32) (M_at : Int32) (M_told : Nat → Int32) (M_toldMany : Int32) (x1 : Int32) (sz : Nat) (r : Int32) (zM_code : Int32) (hf : f_X11_outputAt M_code M_signs M_signMany x1 = some (r, zM_code)) : Met l yX11_outputAt wsX11_outputAt ({ frames := 1, cells := 0, slots := 0, locals := 22 } : Room) (va_Pc [.ref (a 0), .int x1] (wk_E (dC, dI) Y (wX11 Y a M_g M_kept M_saved M_before M_isSaved M_changes M_isWithin M_code M_input M_length M_fault M_failed M_signs M_signMany M_column M_loads M_many M_sums M_groups M_at M_told M_toldMany) sz)) (va_Qi (fun r2 (_ : Unit) => r2 = r) (fun _ t => wk_X (dC, dI) Y (wX11 Y a M_g M_kept M_saved M_before M_isSaved M_changes M_isWithin zM_code M_input M_length M_fault M_failed M_signs M_signMany M_column M_loads M_many M_sums M_groups M_at M_told M_toldMany) (va_A (wX11 Y a M_g M_kept M_saved M_before M_isSaved M_changes M_isWithin M_code M_input M_length M_fault M_failed M_signs M_signMany M_column M_loads M_many M_sums M_groups M_at M_told M_toldMany) sz) t) (va_A (wX11 Y a M_g M_kept M_saved M_before M_isSaved M_changes M_isWithin M_code M_input M_length M_fault M_failed M_signs M_signMany M_column M_loads M_many M_sums M_groups M_at M_told M_toldMany) sz)) 0 0 (va_A (wX11 Y a M_g M_kept M_saved M_before M_isSaved M_changes M_isWithin M_code M_input M_length M_fault M_failed M_signs M_signMany M_column M_loads M_many M_sums M_groups M_at M_told M_toldMany) sz) := by
  refine Met.ofW (cc := cX11_outputAt) (maxL := 2) (ret := (some .char)) (by decide) rfl ?_
  intro p e s m args below meth c s₁ B hml hv
  obtain ⟨rfl, hsz, hP, hK, hD0⟩ := hv
  have hx := B.exec
  have hb := B.bytes
  have hr := B.returns
  have hts := atoms_spec (ws := wsX11_outputAt) B.pre
  have hown : s.vm.findClass RX11 = some m.cls := findClass_of_methodNamed B.named
  have hlocks := B.notSynchronized
  have C0 : wk_C p s m _ meth c cX11_outputAt 2 (some .char) wsX11_outputAt RX11 := ⟨hx, hb, hml, hr, hlocks, hown, hts⟩
  subst hsz
  have hD := hD0.self (sz := s.heap.size)
  generalize hAe : va_A (wX11 Y a M_g M_kept M_saved M_before M_isSaved M_changes M_isWithin M_code M_input M_length M_fault M_failed M_signs M_signMany M_column M_loads M_many M_sums M_groups M_at M_told M_toldMany) s.heap.size = A at hD ⊢
  have hA : ∀ q : Nat, s.heap.size ≤ q → A q := fun q h => by rw [← hAe]; exact Or.inr h
  have hS : va_S A s.heap s.heap [] := va_S.rf
  obtain ⟨H, hHe⟩ : ∃ H, H = s.heap := ⟨_, rfl⟩
  have hS : va_S A s.heap H [] := by rw [hHe]; exact hS
  have hP : va_P (dC, dI) vwCl [(a 0, .inr (11, [.ref (a 1), .ref (a 2), .ref (a 3), .ref (a 4), .int M_isSaved, .int M_changes, .int M_isWithin, .int M_code, .ref (a 5), .int M_length, .int M_fault, .int M_failed, .ref (a 6), .int M_signMany, .ref (a 7), .ref (a 8), .int M_many, .ref (a 9), .ref (a 10), .int M_at, .ref (a 11), .int M_toldMany])), (a 1, .inl (Y 0, 238, .inl M_g)), (a 2, .inl (Y 0, 1904, .inl M_kept)), (a 3, .inl (Y 0, 238, .inl M_saved)), (a 4, .inl (Y 0, 238, .inl M_before)), (a 5, .inl (Y 0, 60, .inl M_input)), (a 6, .inl (Y 2, 100, .inl M_signs)), (a 7, .inl (Y 0, 6, .inl M_column)), (a 8, .inl (Y 0, 6, .inl M_loads)), (a 9, .inl (Y 0, 2048, .inl M_sums)), (a 10, .inl (Y 0, 2048, .inl M_groups)), (a 11, .inl (Y 0, 155, .inl M_told))] H := by rw [hHe]; exact hP
  have hD : va_D A [(a 0, .inr (11, [.ref (a 1), .ref (a 2), .ref (a 3), .ref (a 4), .int M_isSaved, .int M_changes, .int M_isWithin, .int M_code, .ref (a 5), .int M_length, .int M_fault, .int M_failed, .ref (a 6), .int M_signMany, .ref (a 7), .ref (a 8), .int M_many, .ref (a 9), .ref (a 10), .int M_at, .ref (a 11), .int M_toldMany])), (a 1, .inl (Y 0, 238, .inl M_g)), (a 2, .inl (Y 0, 1904, .inl M_kept)), (a 3, .inl (Y 0, 238, .inl M_saved)), (a 4, .inl (Y 0, 238, .inl M_before)), (a 5, .inl (Y 0, 60, .inl M_input)), (a 6, .inl (Y 2, 100, .inl M_signs)), (a 7, .inl (Y 0, 6, .inl M_column)), (a 8, .inl (Y 0, 6, .inl M_loads)), (a 9, .inl (Y 0, 2048, .inl M_sums)), (a 10, .inl (Y 0, 2048, .inl M_groups)), (a 11, .inl (Y 0, 155, .inl M_told))] := hD
  obtain ⟨locs, hlo⟩ : ∃ locs : List Loc, locs = [] := ⟨_, rfl⟩
  have hS : va_S A s.heap H locs := by rw [hlo]; exact hS
  have hl := lv_entry ([.ref (a 0), .int x1]) (n := 2) (Nat.le_of_ble_eq_true rfl)
  rw [lg_entry_eq]
  generalize (lg_sl ([.ref (a 0), .int x1]) ++ List.replicate (2 - (lg_sl ([.ref (a 0), .int x1])).length) Slot.unset).toArray = ls at hl ⊢
  have hl : lv_has ls 2 [(0, .ref (a 0)), (1, .int x1)] := hl
  refine wk_start hHe hlo ?_
  rw [f_X11_outputAt] at hf
  refine lv_aload_n hx hb dX11_outputAt_0 rfl (lv_at hl 0 rfl) ?_
  refine lv_iload_n hx hb dX11_outputAt_1 rfl (lv_at hl 1 rfl) ?_
  refine lv_iconst (v := 0) hx hb dX11_outputAt_2 (by decide) ?_
  refine lv_aload_n hx hb dX11_outputAt_3 rfl (lv_at hl 0 rfl) ?_
  refine va_get (D := (dC, dI)) (ci := 11) (v := .int M_signMany) (C := RX11) (T := TX11) (N := 22) hx hb hts in_X11_outputAt_X11 hown hK hP 0 rfl rfl 13 (by decide) (hts _ lk_X11_outputAt_RX11_188) (fun _ h9 => h9) rfl dX11_outputAt_4 ?_
  refine lv_iconst (v := 1) hx hb dX11_outputAt_7 (by decide) ?_
  refine lv_isub hx hb dX11_outputAt_8 ?_
  obtain ⟨r1, hr2, hf⟩ := wkb1_s hf
  have hPc := hP.sub (ws' := ([] : va_W)) [] rfl
  refine wk_si (As := [.int x1, .int 0, .int (M_signMany - 1)]) (rest := [.ref (a 0)]) ⟨hx, hb, hml, hown, hts⟩ (c_X11_in l dC dI Y x1 0 (M_signMany - 1) r1 hr2) (va_cwS 3 hts gX11_outputAt_X11_in rfl rfl rfl (by decide +kernel) ⟨Nat.le_of_ble_eq_true rfl, Nat.le_of_ble_eq_true rfl⟩) hK hPc rfl hl.1 rfl (Nat.le_of_ble_eq_true rfl) dX11_outputAt_9 ⟨Nat.le_of_ble_eq_true rfl, Nat.le_of_ble_eq_true rfl⟩ ?_
  refine lv_if_eq (tgt := 19) hx hb dX11_outputAt_12 (by decide) (fun q3 => ?_) (fun q3 => ?_)
  · have hf := wk_t hf q3
    refine lv_iconst (v := 1) hx hb dX11_outputAt_19 (by decide) ?_
    obtain ⟨r4, w5, hr6, hf⟩ := wkb2_s hf
    refine wk_evi (As := [.int 1]) (rest := []) (wc := (wX11 Y a M_g M_kept M_saved M_before M_isSaved M_changes M_isWithin M_code M_input M_length M_fault M_failed M_signs M_signMany M_column M_loads M_many M_sums M_groups M_at M_told M_toldMany)) (w1 := (wX11 Y a M_g M_kept M_saved M_before M_isSaved M_changes M_isWithin w5 M_input M_length M_fault M_failed M_signs M_signMany M_column M_loads M_many M_sums M_groups M_at M_told M_toldMany)) (wr := []) ⟨hx, hb, hml, hown, hts⟩ (c_X11_fails l dC dI Y a M_g M_kept M_saved M_before M_isSaved M_changes M_isWithin M_code M_input M_length M_fault M_failed M_signs M_signMany M_column M_loads M_many M_sums M_groups M_at M_told M_toldMany 1 H.size r4 w5 hr6) (cwV 1 hts gX11_outputAt_X11_fails rfl rfl rfl (by decide +kernel) ⟨Nat.le_of_ble_eq_true rfl, Nat.le_of_ble_eq_true rfl⟩) hK hP hD hS hA [0, 1, 2, 3, 4, 5, 6, 7, 8, 9, 10, 11] [] rfl rfl (by decide) (by decide) (by decide) (va_recv hK hP (ci := 11) (q0 := 0) rfl rfl) rfl hl.1 rfl (Nat.le_of_ble_eq_true rfl) dX11_outputAt_20 ⟨Nat.le_of_ble_eq_true rfl, Nat.le_of_ble_eq_true rfl⟩ (fun H locs hP hD hS => ?_)
    have hP : va_P (dC, dI) vwCl [(a 0, .inr (11, [.ref (a 1), .ref (a 2), .ref (a 3), .ref (a 4), .int M_isSaved, .int M_changes, .int M_isWithin, .int w5, .ref (a 5), .int M_length, .int M_fault, .int M_failed, .ref (a 6), .int M_signMany, .ref (a 7), .ref (a 8), .int M_many, .ref (a 9), .ref (a 10), .int M_at, .ref (a 11), .int M_toldMany])), (a 1, .inl (Y 0, 238, .inl M_g)), (a 2, .inl (Y 0, 1904, .inl M_kept)), (a 3, .inl (Y 0, 238, .inl M_saved)), (a 4, .inl (Y 0, 238, .inl M_before)), (a 5, .inl (Y 0, 60, .inl M_input)), (a 6, .inl (Y 2, 100, .inl M_signs)), (a 7, .inl (Y 0, 6, .inl M_column)), (a 8, .inl (Y 0, 6, .inl M_loads)), (a 9, .inl (Y 0, 2048, .inl M_sums)), (a 10, .inl (Y 0, 2048, .inl M_groups)), (a 11, .inl (Y 0, 155, .inl M_told))] H := hP
    have hD : va_D A [(a 0, .inr (11, [.ref (a 1), .ref (a 2), .ref (a 3), .ref (a 4), .int M_isSaved, .int M_changes, .int M_isWithin, .int w5, .ref (a 5), .int M_length, .int M_fault, .int M_failed, .ref (a 6), .int M_signMany, .ref (a 7), .ref (a 8), .int M_many, .ref (a 9), .ref (a 10), .int M_at, .ref (a 11), .int M_toldMany])), (a 1, .inl (Y 0, 238, .inl M_g)), (a 2, .inl (Y 0, 1904, .inl M_kept)), (a 3, .inl (Y 0, 238, .inl M_saved)), (a 4, .inl (Y 0, 238, .inl M_before)), (a 5, .inl (Y 0, 60, .inl M_input)), (a 6, .inl (Y 2, 100, .inl M_signs)), (a 7, .inl (Y 0, 6, .inl M_column)), (a 8, .inl (Y 0, 6, .inl M_loads)), (a 9, .inl (Y 0, 2048, .inl M_sums)), (a 10, .inl (Y 0, 2048, .inl M_groups)), (a 11, .inl (Y 0, 155, .inl M_told))] := hD
    refine lv_if_eq (tgt := 31) hx hb dX11_outputAt_23 (by decide) (fun q7 => ?_) (fun q7 => ?_)
    · have hf := wk_t hf q7
      refine lv_aload_n hx hb dX11_outputAt_31 rfl (lv_at hl 0 rfl) ?_
      refine va_get (D := (dC, dI)) (ci := 11) (v := .ref (a 6)) (C := RX11) (T := TX11) (N := 22) hx hb hts in_X11_outputAt_X11 hown hK hP 0 rfl rfl 12 (by decide) (hts _ lk_X11_outputAt_RX11_32) (fun _ h9 => h9) rfl dX11_outputAt_32 ?_
      refine lv_iload_n hx hb dX11_outputAt_35 rfl (lv_at hl 1 rfl) ?_
      obtain ⟨h8, hf⟩ := gin_s hf
      refine va_cald hx hb hK hP 6 2 rfl rfl h8 dX11_outputAt_36 ?_
      obtain ⟨h01, hf⟩ := gok_s hf
      obtain ⟨e0, e1⟩ := wke2 hf
      subst e0
      subst e1
      have hP9 := hP.sub (ws' := (wX11 Y a M_g M_kept M_saved M_before M_isSaved M_changes M_isWithin w5 M_input M_length M_fault M_failed M_signs M_signMany M_column M_loads M_many M_sums M_groups M_at M_told M_toldMany)) [0, 1, 2, 3, 4, 5, 6, 7, 8, 9, 10, 11] rfl
      have hD9 := hD.sub (ws' := (wX11 Y a M_g M_kept M_saved M_before M_isSaved M_changes M_isWithin w5 M_input M_length M_fault M_failed M_signs M_signMany M_column M_loads M_many M_sums M_groups M_at M_told M_toldMany)) [0, 1, 2, 3, 4, 5, 6, 7, 8, 9, 10, 11] (by decide) rfl
      exact W.zret (v := (M_signs x1.toNatClampNeg)) (ty := .char) hx hb hr (gch_n h01) (fun t ht hW => ⟨⟨(M_signs x1.toNatClampNeg), (), rfl, rfl, by rw [ht]; exact hP9, va_K.moved hW.alike hK, hD9⟩, hS.F ht⟩) hS.2.2 dX11_outputAt_37
    · have hf := wk_f hf q7
      refine lv_bipush (v := 32) hx hb dX11_outputAt_26 (by decide) ?_
      refine lv_goto (tgt := 37) hx hb dX11_outputAt_28 (by decide) ?_
      obtain ⟨e0, e1⟩ := wke2 hf
      subst e0
      subst e1
      have hP9 := hP.sub (ws' := (wX11 Y a M_g M_kept M_saved M_before M_isSaved M_changes M_isWithin w5 M_input M_length M_fault M_failed M_signs M_signMany M_column M_loads M_many M_sums M_groups M_at M_told M_toldMany)) [0, 1, 2, 3, 4, 5, 6, 7, 8, 9, 10, 11] rfl
      have hD9 := hD.sub (ws' := (wX11 Y a M_g M_kept M_saved M_before M_isSaved M_changes M_isWithin w5 M_input M_length M_fault M_failed M_signs M_signMany M_column M_loads M_many M_sums M_groups M_at M_told M_toldMany)) [0, 1, 2, 3, 4, 5, 6, 7, 8, 9, 10, 11] (by decide) rfl
      exact W.zret (v := 32) (ty := .char) hx hb hr rfl (fun t ht hW => ⟨⟨32, (), rfl, rfl, by rw [ht]; exact hP9, va_K.moved hW.alike hK, hD9⟩, hS.F ht⟩) hS.2.2 dX11_outputAt_37
  · have hf := wk_f hf q3
    refine lv_iconst (v := 0) hx hb dX11_outputAt_15 (by decide) ?_
    refine lv_goto (tgt := 20) hx hb dX11_outputAt_16 (by decide) ?_
    obtain ⟨r9, w10, hr11, hf⟩ := wkb2_s hf
    refine wk_evi (As := [.int 0]) (rest := []) (wc := (wX11 Y a M_g M_kept M_saved M_before M_isSaved M_changes M_isWithin M_code M_input M_length M_fault M_failed M_signs M_signMany M_column M_loads M_many M_sums M_groups M_at M_told M_toldMany)) (w1 := (wX11 Y a M_g M_kept M_saved M_before M_isSaved M_changes M_isWithin w10 M_input M_length M_fault M_failed M_signs M_signMany M_column M_loads M_many M_sums M_groups M_at M_told M_toldMany)) (wr := []) ⟨hx, hb, hml, hown, hts⟩ (c_X11_fails l dC dI Y a M_g M_kept M_saved M_before M_isSaved M_changes M_isWithin M_code M_input M_length M_fault M_failed M_signs M_signMany M_column M_loads M_many M_sums M_groups M_at M_told M_toldMany 0 H.size r9 w10 hr11) (cwV 1 hts gX11_outputAt_X11_fails rfl rfl rfl (by decide +kernel) ⟨Nat.le_of_ble_eq_true rfl, Nat.le_of_ble_eq_true rfl⟩) hK hP hD hS hA [0, 1, 2, 3, 4, 5, 6, 7, 8, 9, 10, 11] [] rfl rfl (by decide) (by decide) (by decide) (va_recv hK hP (ci := 11) (q0 := 0) rfl rfl) rfl hl.1 rfl (Nat.le_of_ble_eq_true rfl) dX11_outputAt_20 ⟨Nat.le_of_ble_eq_true rfl, Nat.le_of_ble_eq_true rfl⟩ (fun H locs hP hD hS => ?_)
    have hP : va_P (dC, dI) vwCl [(a 0, .inr (11, [.ref (a 1), .ref (a 2), .ref (a 3), .ref (a 4), .int M_isSaved, .int M_changes, .int M_isWithin, .int w10, .ref (a 5), .int M_length, .int M_fault, .int M_failed, .ref (a 6), .int M_signMany, .ref (a 7), .ref (a 8), .int M_many, .ref (a 9), .ref (a 10), .int M_at, .ref (a 11), .int M_toldMany])), (a 1, .inl (Y 0, 238, .inl M_g)), (a 2, .inl (Y 0, 1904, .inl M_kept)), (a 3, .inl (Y 0, 238, .inl M_saved)), (a 4, .inl (Y 0, 238, .inl M_before)), (a 5, .inl (Y 0, 60, .inl M_input)), (a 6, .inl (Y 2, 100, .inl M_signs)), (a 7, .inl (Y 0, 6, .inl M_column)), (a 8, .inl (Y 0, 6, .inl M_loads)), (a 9, .inl (Y 0, 2048, .inl M_sums)), (a 10, .inl (Y 0, 2048, .inl M_groups)), (a 11, .inl (Y 0, 155, .inl M_told))] H := hP
    have hD : va_D A [(a 0, .inr (11, [.ref (a 1), .ref (a 2), .ref (a 3), .ref (a 4), .int M_isSaved, .int M_changes, .int M_isWithin, .int w10, .ref (a 5), .int M_length, .int M_fault, .int M_failed, .ref (a 6), .int M_signMany, .ref (a 7), .ref (a 8), .int M_many, .ref (a 9), .ref (a 10), .int M_at, .ref (a 11), .int M_toldMany])), (a 1, .inl (Y 0, 238, .inl M_g)), (a 2, .inl (Y 0, 1904, .inl M_kept)), (a 3, .inl (Y 0, 238, .inl M_saved)), (a 4, .inl (Y 0, 238, .inl M_before)), (a 5, .inl (Y 0, 60, .inl M_input)), (a 6, .inl (Y 2, 100, .inl M_signs)), (a 7, .inl (Y 0, 6, .inl M_column)), (a 8, .inl (Y 0, 6, .inl M_loads)), (a 9, .inl (Y 0, 2048, .inl M_sums)), (a 10, .inl (Y 0, 2048, .inl M_groups)), (a 11, .inl (Y 0, 155, .inl M_told))] := hD
    refine lv_if_eq (tgt := 31) hx hb dX11_outputAt_23 (by decide) (fun q12 => ?_) (fun q12 => ?_)
    · have hf := wk_t hf q12
      refine lv_aload_n hx hb dX11_outputAt_31 rfl (lv_at hl 0 rfl) ?_
      refine va_get (D := (dC, dI)) (ci := 11) (v := .ref (a 6)) (C := RX11) (T := TX11) (N := 22) hx hb hts in_X11_outputAt_X11 hown hK hP 0 rfl rfl 12 (by decide) (hts _ lk_X11_outputAt_RX11_32) (fun _ h9 => h9) rfl dX11_outputAt_32 ?_
      refine lv_iload_n hx hb dX11_outputAt_35 rfl (lv_at hl 1 rfl) ?_
      obtain ⟨h13, hf⟩ := gin_s hf
      refine va_cald hx hb hK hP 6 2 rfl rfl h13 dX11_outputAt_36 ?_
      obtain ⟨h01, hf⟩ := gok_s hf
      obtain ⟨e0, e1⟩ := wke2 hf
      subst e0
      subst e1
      have hP9 := hP.sub (ws' := (wX11 Y a M_g M_kept M_saved M_before M_isSaved M_changes M_isWithin w10 M_input M_length M_fault M_failed M_signs M_signMany M_column M_loads M_many M_sums M_groups M_at M_told M_toldMany)) [0, 1, 2, 3, 4, 5, 6, 7, 8, 9, 10, 11] rfl
      have hD9 := hD.sub (ws' := (wX11 Y a M_g M_kept M_saved M_before M_isSaved M_changes M_isWithin w10 M_input M_length M_fault M_failed M_signs M_signMany M_column M_loads M_many M_sums M_groups M_at M_told M_toldMany)) [0, 1, 2, 3, 4, 5, 6, 7, 8, 9, 10, 11] (by decide) rfl
      exact W.zret (v := (M_signs x1.toNatClampNeg)) (ty := .char) hx hb hr (gch_n h01) (fun t ht hW => ⟨⟨(M_signs x1.toNatClampNeg), (), rfl, rfl, by rw [ht]; exact hP9, va_K.moved hW.alike hK, hD9⟩, hS.F ht⟩) hS.2.2 dX11_outputAt_37
    · have hf := wk_f hf q12
      refine lv_bipush (v := 32) hx hb dX11_outputAt_26 (by decide) ?_
      refine lv_goto (tgt := 37) hx hb dX11_outputAt_28 (by decide) ?_
      obtain ⟨e0, e1⟩ := wke2 hf
      subst e0
      subst e1
      have hP9 := hP.sub (ws' := (wX11 Y a M_g M_kept M_saved M_before M_isSaved M_changes M_isWithin w10 M_input M_length M_fault M_failed M_signs M_signMany M_column M_loads M_many M_sums M_groups M_at M_told M_toldMany)) [0, 1, 2, 3, 4, 5, 6, 7, 8, 9, 10, 11] rfl
      have hD9 := hD.sub (ws' := (wX11 Y a M_g M_kept M_saved M_before M_isSaved M_changes M_isWithin w10 M_input M_length M_fault M_failed M_signs M_signMany M_column M_loads M_many M_sums M_groups M_at M_told M_toldMany)) [0, 1, 2, 3, 4, 5, 6, 7, 8, 9, 10, 11] (by decide) rfl
      exact W.zret (v := 32) (ty := .char) hx hb hr rfl (fun t ht hW => ⟨⟨32, (), rfl, rfl, by rw [ht]; exact hP9, va_K.moved hW.alike hK, hD9⟩, hS.F ht⟩) hS.2.2 dX11_outputAt_37
theorem lk_X11_type_RX11_22 : Cond.fieldLink RX11 22 "CircusLedgerModel" "input" "[I" ∈ wsX11_type := by decide +kernel
theorem lk_X11_type_RX11_201 : Cond.fieldLink RX11 201 "CircusLedgerModel" "length" "I" ∈ wsX11_type := by decide +kernel
theorem in_X11_type_X11 : ∀ w ∈ u_ws RX11 TX11 22, w ∈ wsX11_type := by decide +kernel
def f_X11_type_L30 (x1 : Int32) (y0 : Int32) (M_code : Int32) (M_input : (Nat → Int32)) (M_length : Int32) : Option (Int32 × Int32 × (Nat → Int32) × Int32) :=
    wkb2 (f_X11_fails M_code y0) (fun r1 w2 =>
    if r1 = 0 then
      (gin M_length 60 (wkl (upd M_input M_length.toNatClampNeg x1) (fun g5 =>
      wkl ((M_length + 1)) (fun v7 =>
      some (v7, w2, g5, v7)))))
    else
      (some (0, w2, M_input, M_length)))
def f_X11_type (M_code : Int32) (M_input : Nat → Int32) (M_length : Int32) (x1 : Int32) : Option (Int32 × Int32 × (Nat → Int32) × Int32) :=
  wkb1 (f_X11_in x1 32 126) (fun r1 =>
  if r1 = 0 then
    (f_X11_type_L30 x1 1 M_code M_input M_length)
  else
    (if M_length = 60 then
      (f_X11_type_L30 x1 2 M_code M_input M_length)
    else
      (f_X11_type_L30 x1 0 M_code M_input M_length)))
set_option maxHeartbeats 4000000 in
set_option maxRecDepth 100000 in
theorem wl_X11_type_L30 {p : Program} {l : Launch} {e : Env} {s : State} {m : MethodId} {args : Array Value} {below : List Frame} {meth : Method} {c : Code} {dC : Nat → ClassId} {dI : Nat → Nat → Nat} {Y : Nat → ClassId} {a : Nat → Nat} {M_g : Nat → Int32} {M_kept : Nat → Int32} {M_saved : Nat → Int32} {M_before : Nat → Int32} {M_isSaved : Int32} {M_changes : Int32} {M_isWithin : Int32} {M_fault : Int32} {M_failed : Int32} {M_signs : Nat → Int32} {M_signMany : Int32} {M_column : Nat → Int32} {M_loads : Nat → Int32} {M_many : Int32} {M_sums : Nat → Int32} {M_groups : Nat → Int32} {M_at : Int32} {M_told : Nat → Int32} {M_toldMany : Int32} {x1 : Int32} {r : Int32} {zM_code : Int32} {zM_input : Nat → Int32} {zM_length : Int32}  (C0 : wk_C p s m args meth c cX11_type 2 (some .int) wsX11_type RX11) {A : Nat → Prop} (hK : va_K (dC, dI) vwCl (vTy Y) s) (hA : ∀ q, s.heap.size ≤ q → A q) : ∀  (y0 : Int32) (M_code : Int32) (M_input : Nat → Int32) (M_length : Int32), f_X11_type_L30 x1 y0 M_code M_input M_length = some (r, zM_code, zM_input, zM_length) → ∀ (H : Heap) (locs : List Loc), va_P (dC, dI) vwCl (wX11 Y a M_g M_kept M_saved M_before M_isSaved M_changes M_isWithin M_code M_input M_length M_fault M_failed M_signs M_signMany M_column M_loads M_many M_sums M_groups M_at M_told M_toldMany) H → va_D A (wX11 Y a M_g M_kept M_saved M_before M_isSaved M_changes M_isWithin M_code M_input M_length M_fault M_failed M_signs M_signMany M_column M_loads M_many M_sums M_groups M_at M_told M_toldMany) → va_S A s.heap H locs → ∀ (ls : Array Slot), lv_has ls 2 [(0, .ref (a 0)), (1, .int x1)] → W p l e (headSpec wsX11_type ({ frames := 1, cells := 0, slots := 0, locals := 22 } : Room)).room s m args below meth c H locs 0 0 (MQ below (va_Qi (fun r2 (_ : Unit) => r2 = r) (fun _ t => wk_X (dC, dI) Y (wX11 Y a M_g M_kept M_saved M_before M_isSaved M_changes M_isWithin zM_code zM_input zM_length M_fault M_failed M_signs M_signMany M_column M_loads M_many M_sums M_groups M_at M_told M_toldMany) A t) A) args s 0 0 A) (F0 m 30 ls [.int y0, .ref (a 0)]) := by
  obtain ⟨hx, hb, hml, hr, hlocks, hown, hts⟩ := id C0
  intro y0 M_code M_input M_length hf H locs hP hD hS ls hl
  rw [f_X11_type_L30] at hf
  have hP : va_P (dC, dI) vwCl [(a 0, .inr (11, [.ref (a 1), .ref (a 2), .ref (a 3), .ref (a 4), .int M_isSaved, .int M_changes, .int M_isWithin, .int M_code, .ref (a 5), .int M_length, .int M_fault, .int M_failed, .ref (a 6), .int M_signMany, .ref (a 7), .ref (a 8), .int M_many, .ref (a 9), .ref (a 10), .int M_at, .ref (a 11), .int M_toldMany])), (a 1, .inl (Y 0, 238, .inl M_g)), (a 2, .inl (Y 0, 1904, .inl M_kept)), (a 3, .inl (Y 0, 238, .inl M_saved)), (a 4, .inl (Y 0, 238, .inl M_before)), (a 5, .inl (Y 0, 60, .inl M_input)), (a 6, .inl (Y 2, 100, .inl M_signs)), (a 7, .inl (Y 0, 6, .inl M_column)), (a 8, .inl (Y 0, 6, .inl M_loads)), (a 9, .inl (Y 0, 2048, .inl M_sums)), (a 10, .inl (Y 0, 2048, .inl M_groups)), (a 11, .inl (Y 0, 155, .inl M_told))] H := hP
  have hD : va_D A [(a 0, .inr (11, [.ref (a 1), .ref (a 2), .ref (a 3), .ref (a 4), .int M_isSaved, .int M_changes, .int M_isWithin, .int M_code, .ref (a 5), .int M_length, .int M_fault, .int M_failed, .ref (a 6), .int M_signMany, .ref (a 7), .ref (a 8), .int M_many, .ref (a 9), .ref (a 10), .int M_at, .ref (a 11), .int M_toldMany])), (a 1, .inl (Y 0, 238, .inl M_g)), (a 2, .inl (Y 0, 1904, .inl M_kept)), (a 3, .inl (Y 0, 238, .inl M_saved)), (a 4, .inl (Y 0, 238, .inl M_before)), (a 5, .inl (Y 0, 60, .inl M_input)), (a 6, .inl (Y 2, 100, .inl M_signs)), (a 7, .inl (Y 0, 6, .inl M_column)), (a 8, .inl (Y 0, 6, .inl M_loads)), (a 9, .inl (Y 0, 2048, .inl M_sums)), (a 10, .inl (Y 0, 2048, .inl M_groups)), (a 11, .inl (Y 0, 155, .inl M_told))] := hD
  obtain ⟨r1, w2, hr3, hf⟩ := wkb2_s hf
  refine wk_evi (As := [.int y0]) (rest := []) (wc := (wX11 Y a M_g M_kept M_saved M_before M_isSaved M_changes M_isWithin M_code M_input M_length M_fault M_failed M_signs M_signMany M_column M_loads M_many M_sums M_groups M_at M_told M_toldMany)) (w1 := (wX11 Y a M_g M_kept M_saved M_before M_isSaved M_changes M_isWithin w2 M_input M_length M_fault M_failed M_signs M_signMany M_column M_loads M_many M_sums M_groups M_at M_told M_toldMany)) (wr := []) ⟨hx, hb, hml, hown, hts⟩ (c_X11_fails l dC dI Y a M_g M_kept M_saved M_before M_isSaved M_changes M_isWithin M_code M_input M_length M_fault M_failed M_signs M_signMany M_column M_loads M_many M_sums M_groups M_at M_told M_toldMany y0 H.size r1 w2 hr3) (cwV 1 hts gX11_type_X11_fails rfl rfl rfl (by decide +kernel) ⟨Nat.le_of_ble_eq_true rfl, Nat.le_of_ble_eq_true rfl⟩) hK hP hD hS hA [0, 1, 2, 3, 4, 5, 6, 7, 8, 9, 10, 11] [] rfl rfl (by decide) (by decide) (by decide) (va_recv hK hP (ci := 11) (q0 := 0) rfl rfl) rfl hl.1 rfl (Nat.le_of_ble_eq_true rfl) dX11_type_30 ⟨Nat.le_of_ble_eq_true rfl, Nat.le_of_ble_eq_true rfl⟩ (fun H locs hP hD hS => ?_)
  have hP : va_P (dC, dI) vwCl [(a 0, .inr (11, [.ref (a 1), .ref (a 2), .ref (a 3), .ref (a 4), .int M_isSaved, .int M_changes, .int M_isWithin, .int w2, .ref (a 5), .int M_length, .int M_fault, .int M_failed, .ref (a 6), .int M_signMany, .ref (a 7), .ref (a 8), .int M_many, .ref (a 9), .ref (a 10), .int M_at, .ref (a 11), .int M_toldMany])), (a 1, .inl (Y 0, 238, .inl M_g)), (a 2, .inl (Y 0, 1904, .inl M_kept)), (a 3, .inl (Y 0, 238, .inl M_saved)), (a 4, .inl (Y 0, 238, .inl M_before)), (a 5, .inl (Y 0, 60, .inl M_input)), (a 6, .inl (Y 2, 100, .inl M_signs)), (a 7, .inl (Y 0, 6, .inl M_column)), (a 8, .inl (Y 0, 6, .inl M_loads)), (a 9, .inl (Y 0, 2048, .inl M_sums)), (a 10, .inl (Y 0, 2048, .inl M_groups)), (a 11, .inl (Y 0, 155, .inl M_told))] H := hP
  have hD : va_D A [(a 0, .inr (11, [.ref (a 1), .ref (a 2), .ref (a 3), .ref (a 4), .int M_isSaved, .int M_changes, .int M_isWithin, .int w2, .ref (a 5), .int M_length, .int M_fault, .int M_failed, .ref (a 6), .int M_signMany, .ref (a 7), .ref (a 8), .int M_many, .ref (a 9), .ref (a 10), .int M_at, .ref (a 11), .int M_toldMany])), (a 1, .inl (Y 0, 238, .inl M_g)), (a 2, .inl (Y 0, 1904, .inl M_kept)), (a 3, .inl (Y 0, 238, .inl M_saved)), (a 4, .inl (Y 0, 238, .inl M_before)), (a 5, .inl (Y 0, 60, .inl M_input)), (a 6, .inl (Y 2, 100, .inl M_signs)), (a 7, .inl (Y 0, 6, .inl M_column)), (a 8, .inl (Y 0, 6, .inl M_loads)), (a 9, .inl (Y 0, 2048, .inl M_sums)), (a 10, .inl (Y 0, 2048, .inl M_groups)), (a 11, .inl (Y 0, 155, .inl M_told))] := hD
  refine lv_if_eq (tgt := 38) hx hb dX11_type_33 (by decide) (fun q4 => ?_) (fun q4 => ?_)
  · have hf := wk_t hf q4
    refine lv_aload_n hx hb dX11_type_38 rfl (lv_at hl 0 rfl) ?_
    refine va_get (D := (dC, dI)) (ci := 11) (v := .ref (a 5)) (C := RX11) (T := TX11) (N := 22) hx hb hts in_X11_type_X11 hown hK hP 0 rfl rfl 8 (by decide) (hts _ lk_X11_type_RX11_22) (fun _ h9 => h9) rfl dX11_type_39 ?_
    refine lv_aload_n hx hb dX11_type_42 rfl (lv_at hl 0 rfl) ?_
    refine va_get (D := (dC, dI)) (ci := 11) (v := .int M_length) (C := RX11) (T := TX11) (N := 22) hx hb hts in_X11_type_X11 hown hK hP 0 rfl rfl 9 (by decide) (hts _ lk_X11_type_RX11_201) (fun _ h9 => h9) rfl dX11_type_43 ?_
    refine lv_iload_n hx hb dX11_type_46 rfl (lv_at hl 1 rfl) ?_
    obtain ⟨h6, hf⟩ := gin_s hf
    refine wk_iast hx hb hK hP hD hS 5 0 (k := M_length.toNatClampNeg) rfl rfl h6 rfl dX11_type_47 (fun g5 H locs eg5 hP hD hS => ?_)
    have hP : va_P (dC, dI) vwCl [(a 0, .inr (11, [.ref (a 1), .ref (a 2), .ref (a 3), .ref (a 4), .int M_isSaved, .int M_changes, .int M_isWithin, .int w2, .ref (a 5), .int M_length, .int M_fault, .int M_failed, .ref (a 6), .int M_signMany, .ref (a 7), .ref (a 8), .int M_many, .ref (a 9), .ref (a 10), .int M_at, .ref (a 11), .int M_toldMany])), (a 1, .inl (Y 0, 238, .inl M_g)), (a 2, .inl (Y 0, 1904, .inl M_kept)), (a 3, .inl (Y 0, 238, .inl M_saved)), (a 4, .inl (Y 0, 238, .inl M_before)), (a 5, .inl (Y 0, 60, .inl g5)), (a 6, .inl (Y 2, 100, .inl M_signs)), (a 7, .inl (Y 0, 6, .inl M_column)), (a 8, .inl (Y 0, 6, .inl M_loads)), (a 9, .inl (Y 0, 2048, .inl M_sums)), (a 10, .inl (Y 0, 2048, .inl M_groups)), (a 11, .inl (Y 0, 155, .inl M_told))] H := hP
    have hD : va_D A [(a 0, .inr (11, [.ref (a 1), .ref (a 2), .ref (a 3), .ref (a 4), .int M_isSaved, .int M_changes, .int M_isWithin, .int w2, .ref (a 5), .int M_length, .int M_fault, .int M_failed, .ref (a 6), .int M_signMany, .ref (a 7), .ref (a 8), .int M_many, .ref (a 9), .ref (a 10), .int M_at, .ref (a 11), .int M_toldMany])), (a 1, .inl (Y 0, 238, .inl M_g)), (a 2, .inl (Y 0, 1904, .inl M_kept)), (a 3, .inl (Y 0, 238, .inl M_saved)), (a 4, .inl (Y 0, 238, .inl M_before)), (a 5, .inl (Y 0, 60, .inl g5)), (a 6, .inl (Y 2, 100, .inl M_signs)), (a 7, .inl (Y 0, 6, .inl M_column)), (a 8, .inl (Y 0, 6, .inl M_loads)), (a 9, .inl (Y 0, 2048, .inl M_sums)), (a 10, .inl (Y 0, 2048, .inl M_groups)), (a 11, .inl (Y 0, 155, .inl M_told))] := hD
    have hf := wkl_s hf eg5
    refine lv_aload_n hx hb dX11_type_48 rfl (lv_at hl 0 rfl) ?_
    refine lv_dup hx hb dX11_type_49 rfl ?_
    refine va_get (D := (dC, dI)) (ci := 11) (v := .int M_length) (C := RX11) (T := TX11) (N := 22) hx hb hts in_X11_type_X11 hown hK hP 0 rfl rfl 9 (by decide) (hts _ lk_X11_type_RX11_201) (fun _ h9 => h9) rfl dX11_type_50 ?_
    refine lv_iconst (v := 1) hx hb dX11_type_53 (by decide) ?_
    refine lv_iadd hx hb dX11_type_54 ?_
    refine lv_topi (fun v7 ev7 => ?_)
    have hf := wkl_s hf ev7
    refine va_put (D := (dC, dI)) (ci := 11) (v := .int v7) (ty := .int) (C := RX11) (T := TX11) (N := 22) hx hb hts in_X11_type_X11 tyX11 tyX11_ok nmX11 hown hK hP hD hS 0 rfl rfl 9 (by decide) (hts _ lk_X11_type_RX11_201) (fun _ h9 => h9) rfl (by decide +kernel) rfl rfl (Nat.le_of_ble_eq_true rfl) dX11_type_55 (fun H locs hP hD hS => ?_)
    have hP : va_P (dC, dI) vwCl [(a 0, .inr (11, [.ref (a 1), .ref (a 2), .ref (a 3), .ref (a 4), .int M_isSaved, .int M_changes, .int M_isWithin, .int w2, .ref (a 5), .int v7, .int M_fault, .int M_failed, .ref (a 6), .int M_signMany, .ref (a 7), .ref (a 8), .int M_many, .ref (a 9), .ref (a 10), .int M_at, .ref (a 11), .int M_toldMany])), (a 1, .inl (Y 0, 238, .inl M_g)), (a 2, .inl (Y 0, 1904, .inl M_kept)), (a 3, .inl (Y 0, 238, .inl M_saved)), (a 4, .inl (Y 0, 238, .inl M_before)), (a 5, .inl (Y 0, 60, .inl g5)), (a 6, .inl (Y 2, 100, .inl M_signs)), (a 7, .inl (Y 0, 6, .inl M_column)), (a 8, .inl (Y 0, 6, .inl M_loads)), (a 9, .inl (Y 0, 2048, .inl M_sums)), (a 10, .inl (Y 0, 2048, .inl M_groups)), (a 11, .inl (Y 0, 155, .inl M_told))] H := hP
    have hD : va_D A [(a 0, .inr (11, [.ref (a 1), .ref (a 2), .ref (a 3), .ref (a 4), .int M_isSaved, .int M_changes, .int M_isWithin, .int w2, .ref (a 5), .int v7, .int M_fault, .int M_failed, .ref (a 6), .int M_signMany, .ref (a 7), .ref (a 8), .int M_many, .ref (a 9), .ref (a 10), .int M_at, .ref (a 11), .int M_toldMany])), (a 1, .inl (Y 0, 238, .inl M_g)), (a 2, .inl (Y 0, 1904, .inl M_kept)), (a 3, .inl (Y 0, 238, .inl M_saved)), (a 4, .inl (Y 0, 238, .inl M_before)), (a 5, .inl (Y 0, 60, .inl g5)), (a 6, .inl (Y 2, 100, .inl M_signs)), (a 7, .inl (Y 0, 6, .inl M_column)), (a 8, .inl (Y 0, 6, .inl M_loads)), (a 9, .inl (Y 0, 2048, .inl M_sums)), (a 10, .inl (Y 0, 2048, .inl M_groups)), (a 11, .inl (Y 0, 155, .inl M_told))] := hD
    refine lv_aload_n hx hb dX11_type_58 rfl (lv_at hl 0 rfl) ?_
    refine va_get (D := (dC, dI)) (ci := 11) (v := .int v7) (C := RX11) (T := TX11) (N := 22) hx hb hts in_X11_type_X11 hown hK hP 0 rfl rfl 9 (by decide) (hts _ lk_X11_type_RX11_201) (fun _ h9 => h9) rfl dX11_type_59 ?_
    obtain ⟨e0, e1, e2, e3⟩ := wke4 hf
    subst e0
    subst e1
    subst e2
    subst e3
    have hP9 := hP.sub (ws' := (wX11 Y a M_g M_kept M_saved M_before M_isSaved M_changes M_isWithin w2 g5 v7 M_fault M_failed M_signs M_signMany M_column M_loads M_many M_sums M_groups M_at M_told M_toldMany)) [0, 1, 2, 3, 4, 5, 6, 7, 8, 9, 10, 11] rfl
    have hD9 := hD.sub (ws' := (wX11 Y a M_g M_kept M_saved M_before M_isSaved M_changes M_isWithin w2 g5 v7 M_fault M_failed M_signs M_signMany M_column M_loads M_many M_sums M_groups M_at M_told M_toldMany)) [0, 1, 2, 3, 4, 5, 6, 7, 8, 9, 10, 11] (by decide) rfl
    exact W.iret (v := v7) hx hb hr (fun t ht hW => ⟨⟨v7, (), rfl, rfl, by rw [ht]; exact hP9, va_K.moved hW.alike hK, hD9⟩, hS.F ht⟩) hS.2.2 dX11_type_62
  · have hf := wk_f hf q4
    refine lv_iconst (v := 0) hx hb dX11_type_36 (by decide) ?_
    obtain ⟨e0, e1, e2, e3⟩ := wke4 hf
    subst e0
    subst e1
    subst e2
    subst e3
    have hP9 := hP.sub (ws' := (wX11 Y a M_g M_kept M_saved M_before M_isSaved M_changes M_isWithin w2 M_input M_length M_fault M_failed M_signs M_signMany M_column M_loads M_many M_sums M_groups M_at M_told M_toldMany)) [0, 1, 2, 3, 4, 5, 6, 7, 8, 9, 10, 11] rfl
    have hD9 := hD.sub (ws' := (wX11 Y a M_g M_kept M_saved M_before M_isSaved M_changes M_isWithin w2 M_input M_length M_fault M_failed M_signs M_signMany M_column M_loads M_many M_sums M_groups M_at M_told M_toldMany)) [0, 1, 2, 3, 4, 5, 6, 7, 8, 9, 10, 11] (by decide) rfl
    exact W.iret (v := 0) hx hb hr (fun t ht hW => ⟨⟨0, (), rfl, rfl, by rw [ht]; exact hP9, va_K.moved hW.alike hK, hD9⟩, hS.F ht⟩) hS.2.2 dX11_type_37
set_option maxHeartbeats 4000000 in
set_option maxRecDepth 100000 in
theorem c_X11_type (l : Launch) (dC : Nat → ClassId) (dI : Nat → Nat → Nat) (Y : Nat → ClassId) (a : Nat → Nat) (M_g : Nat → Int32) (M_kept : Nat → Int32) (M_saved : Nat → Int32) (M_before : Nat → Int32) (M_isSaved : Int32) (M_changes : Int32) (M_isWithin : Int32) (M_code : Int32) (M_input : Nat → Int32) (M_length : Int32) (M_fault : Int32) (M_failed : Int32) (M_signs : Nat → Int32) (M_signMany : Int32) (M_column : Nat → Int32) (M_loads : Nat → Int32) (M_many : Int32) (M_sums : Nat → Int32) (M_groups : Nat → Int32) (M_at : Int32) (M_told : Nat → Int32) (M_toldMany : Int32) (x1 : Int32) (sz : Nat) (r : Int32) (zM_code : Int32) (zM_input : Nat → Int32) (zM_length : Int32) (hf : f_X11_type M_code M_input M_length x1 = some (r, zM_code, zM_input, zM_length)) : Met l yX11_type wsX11_type ({ frames := 1, cells := 0, slots := 0, locals := 22 } : Room) (va_Pc [.ref (a 0), .int x1] (wk_E (dC, dI) Y (wX11 Y a M_g M_kept M_saved M_before M_isSaved M_changes M_isWithin M_code M_input M_length M_fault M_failed M_signs M_signMany M_column M_loads M_many M_sums M_groups M_at M_told M_toldMany) sz)) (va_Qi (fun r2 (_ : Unit) => r2 = r) (fun _ t => wk_X (dC, dI) Y (wX11 Y a M_g M_kept M_saved M_before M_isSaved M_changes M_isWithin zM_code zM_input zM_length M_fault M_failed M_signs M_signMany M_column M_loads M_many M_sums M_groups M_at M_told M_toldMany) (va_A (wX11 Y a M_g M_kept M_saved M_before M_isSaved M_changes M_isWithin M_code M_input M_length M_fault M_failed M_signs M_signMany M_column M_loads M_many M_sums M_groups M_at M_told M_toldMany) sz) t) (va_A (wX11 Y a M_g M_kept M_saved M_before M_isSaved M_changes M_isWithin M_code M_input M_length M_fault M_failed M_signs M_signMany M_column M_loads M_many M_sums M_groups M_at M_told M_toldMany) sz)) 0 0 (va_A (wX11 Y a M_g M_kept M_saved M_before M_isSaved M_changes M_isWithin M_code M_input M_length M_fault M_failed M_signs M_signMany M_column M_loads M_many M_sums M_groups M_at M_told M_toldMany) sz) := by
  refine Met.ofW (cc := cX11_type) (maxL := 2) (ret := (some .int)) (by decide) rfl ?_
  intro p e s m args below meth c s₁ B hml hv
  obtain ⟨rfl, hsz, hP, hK, hD0⟩ := hv
  have hx := B.exec
  have hb := B.bytes
  have hr := B.returns
  have hts := atoms_spec (ws := wsX11_type) B.pre
  have hown : s.vm.findClass RX11 = some m.cls := findClass_of_methodNamed B.named
  have hlocks := B.notSynchronized
  have C0 : wk_C p s m _ meth c cX11_type 2 (some .int) wsX11_type RX11 := ⟨hx, hb, hml, hr, hlocks, hown, hts⟩
  subst hsz
  have hD := hD0.self (sz := s.heap.size)
  generalize hAe : va_A (wX11 Y a M_g M_kept M_saved M_before M_isSaved M_changes M_isWithin M_code M_input M_length M_fault M_failed M_signs M_signMany M_column M_loads M_many M_sums M_groups M_at M_told M_toldMany) s.heap.size = A at hD ⊢
  have hA : ∀ q : Nat, s.heap.size ≤ q → A q := fun q h => by rw [← hAe]; exact Or.inr h
  have hS : va_S A s.heap s.heap [] := va_S.rf
  obtain ⟨H, hHe⟩ : ∃ H, H = s.heap := ⟨_, rfl⟩
  have hS : va_S A s.heap H [] := by rw [hHe]; exact hS
  have hP : va_P (dC, dI) vwCl [(a 0, .inr (11, [.ref (a 1), .ref (a 2), .ref (a 3), .ref (a 4), .int M_isSaved, .int M_changes, .int M_isWithin, .int M_code, .ref (a 5), .int M_length, .int M_fault, .int M_failed, .ref (a 6), .int M_signMany, .ref (a 7), .ref (a 8), .int M_many, .ref (a 9), .ref (a 10), .int M_at, .ref (a 11), .int M_toldMany])), (a 1, .inl (Y 0, 238, .inl M_g)), (a 2, .inl (Y 0, 1904, .inl M_kept)), (a 3, .inl (Y 0, 238, .inl M_saved)), (a 4, .inl (Y 0, 238, .inl M_before)), (a 5, .inl (Y 0, 60, .inl M_input)), (a 6, .inl (Y 2, 100, .inl M_signs)), (a 7, .inl (Y 0, 6, .inl M_column)), (a 8, .inl (Y 0, 6, .inl M_loads)), (a 9, .inl (Y 0, 2048, .inl M_sums)), (a 10, .inl (Y 0, 2048, .inl M_groups)), (a 11, .inl (Y 0, 155, .inl M_told))] H := by rw [hHe]; exact hP
  have hD : va_D A [(a 0, .inr (11, [.ref (a 1), .ref (a 2), .ref (a 3), .ref (a 4), .int M_isSaved, .int M_changes, .int M_isWithin, .int M_code, .ref (a 5), .int M_length, .int M_fault, .int M_failed, .ref (a 6), .int M_signMany, .ref (a 7), .ref (a 8), .int M_many, .ref (a 9), .ref (a 10), .int M_at, .ref (a 11), .int M_toldMany])), (a 1, .inl (Y 0, 238, .inl M_g)), (a 2, .inl (Y 0, 1904, .inl M_kept)), (a 3, .inl (Y 0, 238, .inl M_saved)), (a 4, .inl (Y 0, 238, .inl M_before)), (a 5, .inl (Y 0, 60, .inl M_input)), (a 6, .inl (Y 2, 100, .inl M_signs)), (a 7, .inl (Y 0, 6, .inl M_column)), (a 8, .inl (Y 0, 6, .inl M_loads)), (a 9, .inl (Y 0, 2048, .inl M_sums)), (a 10, .inl (Y 0, 2048, .inl M_groups)), (a 11, .inl (Y 0, 155, .inl M_told))] := hD
  obtain ⟨locs, hlo⟩ : ∃ locs : List Loc, locs = [] := ⟨_, rfl⟩
  have hS : va_S A s.heap H locs := by rw [hlo]; exact hS
  have hl := lv_entry ([.ref (a 0), .int x1]) (n := 2) (Nat.le_of_ble_eq_true rfl)
  rw [lg_entry_eq]
  generalize (lg_sl ([.ref (a 0), .int x1]) ++ List.replicate (2 - (lg_sl ([.ref (a 0), .int x1])).length) Slot.unset).toArray = ls at hl ⊢
  have hl : lv_has ls 2 [(0, .ref (a 0)), (1, .int x1)] := hl
  refine wk_start hHe hlo ?_
  rw [f_X11_type] at hf
  refine lv_aload_n hx hb dX11_type_0 rfl (lv_at hl 0 rfl) ?_
  refine lv_iload_n hx hb dX11_type_1 rfl (lv_at hl 1 rfl) ?_
  refine lv_bipush (v := 32) hx hb dX11_type_2 (by decide) ?_
  refine lv_bipush (v := 126) hx hb dX11_type_4 (by decide) ?_
  obtain ⟨r1, hr2, hf⟩ := wkb1_s hf
  have hPc := hP.sub (ws' := ([] : va_W)) [] rfl
  refine wk_si (As := [.int x1, .int 32, .int 126]) (rest := [.ref (a 0)]) ⟨hx, hb, hml, hown, hts⟩ (c_X11_in l dC dI Y x1 32 126 r1 hr2) (va_cwS 3 hts gX11_type_X11_in rfl rfl rfl (by decide +kernel) ⟨Nat.le_of_ble_eq_true rfl, Nat.le_of_ble_eq_true rfl⟩) hK hPc rfl hl.1 rfl (Nat.le_of_ble_eq_true rfl) dX11_type_6 ⟨Nat.le_of_ble_eq_true rfl, Nat.le_of_ble_eq_true rfl⟩ ?_
  refine lv_if_ne (tgt := 16) hx hb dX11_type_9 (by decide) (fun q3 => ?_) (fun q3 => ?_)
  · have hf := wk_f hf q3
    refine lv_aload_n hx hb dX11_type_16 rfl (lv_at hl 0 rfl) ?_
    refine va_get (D := (dC, dI)) (ci := 11) (v := .int M_length) (C := RX11) (T := TX11) (N := 22) hx hb hts in_X11_type_X11 hown hK hP 0 rfl rfl 9 (by decide) (hts _ lk_X11_type_RX11_201) (fun _ h9 => h9) rfl dX11_type_17 ?_
    refine lv_bipush (v := 60) hx hb dX11_type_20 (by decide) ?_
    refine lv_icmp_ne (tgt := 29) hx hb dX11_type_22 (by decide) (fun q4 => ?_) (fun q4 => ?_)
    · have hf := wk_f hf q4
      refine lv_iconst (v := 0) hx hb dX11_type_29 (by decide) ?_
      exact wl_X11_type_L30 C0 hK hA 0 M_code M_input M_length hf H locs hP hD hS ls (lv_sub hl [0, 1] rfl)
    · have hf := wk_t hf q4
      refine lv_iconst (v := 2) hx hb dX11_type_25 (by decide) ?_
      refine lv_goto (tgt := 30) hx hb dX11_type_26 (by decide) ?_
      exact wl_X11_type_L30 C0 hK hA 2 M_code M_input M_length hf H locs hP hD hS ls (lv_sub hl [0, 1] rfl)
  · have hf := wk_t hf q3
    refine lv_iconst (v := 1) hx hb dX11_type_12 (by decide) ?_
    refine lv_goto (tgt := 30) hx hb dX11_type_13 (by decide) ?_
    exact wl_X11_type_L30 C0 hK hA 1 M_code M_input M_length hf H locs hP hD hS ls (lv_sub hl [0, 1] rfl)
theorem lk_X11_here_RX11_22 : Cond.fieldLink RX11 22 "CircusLedgerModel" "input" "[I" ∈ wsX11_here := by decide +kernel
theorem lk_X11_here_RX11_201 : Cond.fieldLink RX11 201 "CircusLedgerModel" "length" "I" ∈ wsX11_here := by decide +kernel
theorem lk_X11_here_RX11_204 : Cond.fieldLink RX11 204 "CircusLedgerModel" "at" "I" ∈ wsX11_here := by decide +kernel
theorem in_X11_here_X11 : ∀ w ∈ u_ws RX11 TX11 22, w ∈ wsX11_here := by decide +kernel
def f_X11_here (M_input : Nat → Int32) (M_length : Int32) (M_at : Int32) : Option (Int32) :=
  if M_length ≤ M_at then
    (some ((-1)))
  else
    (gin M_at 60 (some ((M_input M_at.toNatClampNeg))))
set_option maxHeartbeats 4000000 in
set_option maxRecDepth 100000 in
theorem c_X11_here (l : Launch) (dC : Nat → ClassId) (dI : Nat → Nat → Nat) (Y : Nat → ClassId) (a : Nat → Nat) (M_g : Nat → Int32) (M_kept : Nat → Int32) (M_saved : Nat → Int32) (M_before : Nat → Int32) (M_isSaved : Int32) (M_changes : Int32) (M_isWithin : Int32) (M_code : Int32) (M_input : Nat → Int32) (M_length : Int32) (M_fault : Int32) (M_failed : Int32) (M_signs : Nat → Int32) (M_signMany : Int32) (M_column : Nat → Int32) (M_loads : Nat → Int32) (M_many : Int32) (M_sums : Nat → Int32) (M_groups : Nat → Int32) (M_at : Int32) (M_told : Nat → Int32) (M_toldMany : Int32)  (r : Int32) (hf : f_X11_here M_input M_length M_at = some (r)) : Met l yX11_here wsX11_here ({ frames := 0, cells := 0, slots := 0, locals := 0 } : Room) (va_Pc [.ref (a 0)] (wk_B (dC, dI) Y (wX11 Y a M_g M_kept M_saved M_before M_isSaved M_changes M_isWithin M_code M_input M_length M_fault M_failed M_signs M_signMany M_column M_loads M_many M_sums M_groups M_at M_told M_toldMany))) (vp_Si (fun r2 => r2 = r)) 0 0 (fun _ => False) := by
  refine Met.ofW (cc := cX11_here) (maxL := 1) (ret := (some .int)) (by decide) rfl ?_
  intro p e s m args below meth c s₁ B hml hv
  obtain ⟨rfl, hP, hK⟩ := hv
  have hx := B.exec
  have hb := B.bytes
  have hr := B.returns
  have hts := atoms_spec (ws := wsX11_here) B.pre
  have hown : s.vm.findClass RX11 = some m.cls := findClass_of_methodNamed B.named
  have hlocks := B.notSynchronized
  have C0 : wk_C p s m _ meth c cX11_here 1 (some .int) wsX11_here RX11 := ⟨hx, hb, hml, hr, hlocks, hown, hts⟩
  have hP : va_P (dC, dI) vwCl [(a 0, .inr (11, [.ref (a 1), .ref (a 2), .ref (a 3), .ref (a 4), .int M_isSaved, .int M_changes, .int M_isWithin, .int M_code, .ref (a 5), .int M_length, .int M_fault, .int M_failed, .ref (a 6), .int M_signMany, .ref (a 7), .ref (a 8), .int M_many, .ref (a 9), .ref (a 10), .int M_at, .ref (a 11), .int M_toldMany])), (a 1, .inl (Y 0, 238, .inl M_g)), (a 2, .inl (Y 0, 1904, .inl M_kept)), (a 3, .inl (Y 0, 238, .inl M_saved)), (a 4, .inl (Y 0, 238, .inl M_before)), (a 5, .inl (Y 0, 60, .inl M_input)), (a 6, .inl (Y 2, 100, .inl M_signs)), (a 7, .inl (Y 0, 6, .inl M_column)), (a 8, .inl (Y 0, 6, .inl M_loads)), (a 9, .inl (Y 0, 2048, .inl M_sums)), (a 10, .inl (Y 0, 2048, .inl M_groups)), (a 11, .inl (Y 0, 155, .inl M_told))] s.heap := hP
  have hl := lv_entry ([.ref (a 0)]) (n := 1) (Nat.le_of_ble_eq_true rfl)
  rw [lg_entry_eq]
  generalize (lg_sl ([.ref (a 0)]) ++ List.replicate (1 - (lg_sl ([.ref (a 0)])).length) Slot.unset).toArray = ls at hl ⊢
  have hl : lv_has ls 1 [(0, .ref (a 0))] := hl
  rw [f_X11_here] at hf
  refine lv_aload_n hx hb dX11_here_0 rfl (lv_at hl 0 rfl) ?_
  refine va_get (D := (dC, dI)) (ci := 11) (v := .int M_at) (C := RX11) (T := TX11) (N := 22) hx hb hts in_X11_here_X11 hown hK hP 0 rfl rfl 19 (by decide) (hts _ lk_X11_here_RX11_204) (fun _ h9 => h9) rfl dX11_here_1 ?_
  refine lv_aload_n hx hb dX11_here_4 rfl (lv_at hl 0 rfl) ?_
  refine va_get (D := (dC, dI)) (ci := 11) (v := .int M_length) (C := RX11) (T := TX11) (N := 22) hx hb hts in_X11_here_X11 hown hK hP 0 rfl rfl 9 (by decide) (hts _ lk_X11_here_RX11_201) (fun _ h9 => h9) rfl dX11_here_5 ?_
  refine lv_icmp_ge (tgt := 23) hx hb dX11_here_8 (by decide) (fun q1 => ?_) (fun q1 => ?_)
  · have hf := wk_t hf q1
    refine lv_iconst (v := (-1)) hx hb dX11_here_23 (by decide) ?_
    have e0 := wke1 hf
    subst e0
    exact W.iret (v := (-1)) hx hb hr (fun t ht hW => ⟨(-1), rfl, rfl, ht⟩) (fun q h => absurd h List.not_mem_nil) dX11_here_24
  · have hf := wk_f hf q1
    refine lv_aload_n hx hb dX11_here_11 rfl (lv_at hl 0 rfl) ?_
    refine va_get (D := (dC, dI)) (ci := 11) (v := .ref (a 5)) (C := RX11) (T := TX11) (N := 22) hx hb hts in_X11_here_X11 hown hK hP 0 rfl rfl 8 (by decide) (hts _ lk_X11_here_RX11_22) (fun _ h9 => h9) rfl dX11_here_12 ?_
    refine lv_aload_n hx hb dX11_here_15 rfl (lv_at hl 0 rfl) ?_
    refine va_get (D := (dC, dI)) (ci := 11) (v := .int M_at) (C := RX11) (T := TX11) (N := 22) hx hb hts in_X11_here_X11 hown hK hP 0 rfl rfl 19 (by decide) (hts _ lk_X11_here_RX11_204) (fun _ h9 => h9) rfl dX11_here_16 ?_
    obtain ⟨h2, hf⟩ := gin_s hf
    refine wk_iald hx hb hK hP 5 0 rfl rfl h2 rfl dX11_here_19 ?_
    refine lv_goto (tgt := 24) hx hb dX11_here_20 (by decide) ?_
    have e0 := wke1 hf
    subst e0
    exact W.iret (v := (M_input M_at.toNatClampNeg)) hx hb hr (fun t ht hW => ⟨(M_input M_at.toNatClampNeg), rfl, rfl, ht⟩) (fun q h => absurd h List.not_mem_nil) dX11_here_24
theorem lk_X11_skips_RX11_204 : Cond.fieldLink RX11 204 "CircusLedgerModel" "at" "I" ∈ wsX11_skips := by decide +kernel
theorem in_X11_skips_X11 : ∀ w ∈ u_ws RX11 TX11 22, w ∈ wsX11_skips := by decide +kernel
def f_X11_skips (M_input : Nat → Int32) (M_length : Int32) (M_at : Int32) (x1 : Int32) : Option (Int32 × Int32) :=
  wkb1 (f_X11_here M_input M_length M_at) (fun r1 =>
  if r1 = x1 then
    (wkl ((M_at + 1)) (fun v4 =>
    some (1, v4)))
  else
    (some (0, M_at)))
set_option maxHeartbeats 4000000 in
set_option maxRecDepth 100000 in
theorem c_X11_skips (l : Launch) (dC : Nat → ClassId) (dI : Nat → Nat → Nat) (Y : Nat → ClassId) (a : Nat → Nat) (M_g : Nat → Int32) (M_kept : Nat → Int32) (M_saved : Nat → Int32) (M_before : Nat → Int32) (M_isSaved : Int32) (M_changes : Int32) (M_isWithin : Int32) (M_code : Int32) (M_input : Nat → Int32) (M_length : Int32) (M_fault : Int32) (M_failed : Int32) (M_signs : Nat → Int32) (M_signMany : Int32) (M_column : Nat → Int32) (M_loads : Nat → Int32) (M_many : Int32) (M_sums : Nat → Int32) (M_groups : Nat → Int32) (M_at : Int32) (M_told : Nat → Int32) (M_toldMany : Int32) (x1 : Int32) (sz : Nat) (r : Int32) (zM_at : Int32) (hf : f_X11_skips M_input M_length M_at x1 = some (r, zM_at)) : Met l yX11_skips wsX11_skips ({ frames := 1, cells := 0, slots := 0, locals := 20 } : Room) (va_Pc [.ref (a 0), .int x1] (wk_E (dC, dI) Y (wX11 Y a M_g M_kept M_saved M_before M_isSaved M_changes M_isWithin M_code M_input M_length M_fault M_failed M_signs M_signMany M_column M_loads M_many M_sums M_groups M_at M_told M_toldMany) sz)) (va_Qi (fun r2 (_ : Unit) => r2 = r) (fun _ t => wk_X (dC, dI) Y (wX11 Y a M_g M_kept M_saved M_before M_isSaved M_changes M_isWithin M_code M_input M_length M_fault M_failed M_signs M_signMany M_column M_loads M_many M_sums M_groups zM_at M_told M_toldMany) (va_A (wX11 Y a M_g M_kept M_saved M_before M_isSaved M_changes M_isWithin M_code M_input M_length M_fault M_failed M_signs M_signMany M_column M_loads M_many M_sums M_groups M_at M_told M_toldMany) sz) t) (va_A (wX11 Y a M_g M_kept M_saved M_before M_isSaved M_changes M_isWithin M_code M_input M_length M_fault M_failed M_signs M_signMany M_column M_loads M_many M_sums M_groups M_at M_told M_toldMany) sz)) 0 0 (va_A (wX11 Y a M_g M_kept M_saved M_before M_isSaved M_changes M_isWithin M_code M_input M_length M_fault M_failed M_signs M_signMany M_column M_loads M_many M_sums M_groups M_at M_told M_toldMany) sz) := by
  refine Met.ofW (cc := cX11_skips) (maxL := 2) (ret := (some .boolean)) (by decide) rfl ?_
  intro p e s m args below meth c s₁ B hml hv
  obtain ⟨rfl, hsz, hP, hK, hD0⟩ := hv
  have hx := B.exec
  have hb := B.bytes
  have hr := B.returns
  have hts := atoms_spec (ws := wsX11_skips) B.pre
  have hown : s.vm.findClass RX11 = some m.cls := findClass_of_methodNamed B.named
  have hlocks := B.notSynchronized
  have C0 : wk_C p s m _ meth c cX11_skips 2 (some .boolean) wsX11_skips RX11 := ⟨hx, hb, hml, hr, hlocks, hown, hts⟩
  subst hsz
  have hD := hD0.self (sz := s.heap.size)
  generalize hAe : va_A (wX11 Y a M_g M_kept M_saved M_before M_isSaved M_changes M_isWithin M_code M_input M_length M_fault M_failed M_signs M_signMany M_column M_loads M_many M_sums M_groups M_at M_told M_toldMany) s.heap.size = A at hD ⊢
  have hA : ∀ q : Nat, s.heap.size ≤ q → A q := fun q h => by rw [← hAe]; exact Or.inr h
  have hS : va_S A s.heap s.heap [] := va_S.rf
  obtain ⟨H, hHe⟩ : ∃ H, H = s.heap := ⟨_, rfl⟩
  have hS : va_S A s.heap H [] := by rw [hHe]; exact hS
  have hP : va_P (dC, dI) vwCl [(a 0, .inr (11, [.ref (a 1), .ref (a 2), .ref (a 3), .ref (a 4), .int M_isSaved, .int M_changes, .int M_isWithin, .int M_code, .ref (a 5), .int M_length, .int M_fault, .int M_failed, .ref (a 6), .int M_signMany, .ref (a 7), .ref (a 8), .int M_many, .ref (a 9), .ref (a 10), .int M_at, .ref (a 11), .int M_toldMany])), (a 1, .inl (Y 0, 238, .inl M_g)), (a 2, .inl (Y 0, 1904, .inl M_kept)), (a 3, .inl (Y 0, 238, .inl M_saved)), (a 4, .inl (Y 0, 238, .inl M_before)), (a 5, .inl (Y 0, 60, .inl M_input)), (a 6, .inl (Y 2, 100, .inl M_signs)), (a 7, .inl (Y 0, 6, .inl M_column)), (a 8, .inl (Y 0, 6, .inl M_loads)), (a 9, .inl (Y 0, 2048, .inl M_sums)), (a 10, .inl (Y 0, 2048, .inl M_groups)), (a 11, .inl (Y 0, 155, .inl M_told))] H := by rw [hHe]; exact hP
  have hD : va_D A [(a 0, .inr (11, [.ref (a 1), .ref (a 2), .ref (a 3), .ref (a 4), .int M_isSaved, .int M_changes, .int M_isWithin, .int M_code, .ref (a 5), .int M_length, .int M_fault, .int M_failed, .ref (a 6), .int M_signMany, .ref (a 7), .ref (a 8), .int M_many, .ref (a 9), .ref (a 10), .int M_at, .ref (a 11), .int M_toldMany])), (a 1, .inl (Y 0, 238, .inl M_g)), (a 2, .inl (Y 0, 1904, .inl M_kept)), (a 3, .inl (Y 0, 238, .inl M_saved)), (a 4, .inl (Y 0, 238, .inl M_before)), (a 5, .inl (Y 0, 60, .inl M_input)), (a 6, .inl (Y 2, 100, .inl M_signs)), (a 7, .inl (Y 0, 6, .inl M_column)), (a 8, .inl (Y 0, 6, .inl M_loads)), (a 9, .inl (Y 0, 2048, .inl M_sums)), (a 10, .inl (Y 0, 2048, .inl M_groups)), (a 11, .inl (Y 0, 155, .inl M_told))] := hD
  obtain ⟨locs, hlo⟩ : ∃ locs : List Loc, locs = [] := ⟨_, rfl⟩
  have hS : va_S A s.heap H locs := by rw [hlo]; exact hS
  have hl := lv_entry ([.ref (a 0), .int x1]) (n := 2) (Nat.le_of_ble_eq_true rfl)
  rw [lg_entry_eq]
  generalize (lg_sl ([.ref (a 0), .int x1]) ++ List.replicate (2 - (lg_sl ([.ref (a 0), .int x1])).length) Slot.unset).toArray = ls at hl ⊢
  have hl : lv_has ls 2 [(0, .ref (a 0)), (1, .int x1)] := hl
  refine wk_start hHe hlo ?_
  rw [f_X11_skips] at hf
  refine lv_aload_n hx hb dX11_skips_0 rfl (lv_at hl 0 rfl) ?_
  obtain ⟨r1, hr2, hf⟩ := wkb1_s hf
  have hPc := hP.sub (ws' := (wX11 Y a M_g M_kept M_saved M_before M_isSaved M_changes M_isWithin M_code M_input M_length M_fault M_failed M_signs M_signMany M_column M_loads M_many M_sums M_groups M_at M_told M_toldMany)) [0, 1, 2, 3, 4, 5, 6, 7, 8, 9, 10, 11] rfl
  refine wk_vi (As := []) (rest := []) ⟨hx, hb, hml, hown, hts⟩ (c_X11_here l dC dI Y a M_g M_kept M_saved M_before M_isSaved M_changes M_isWithin M_code M_input M_length M_fault M_failed M_signs M_signMany M_column M_loads M_many M_sums M_groups M_at M_told M_toldMany r1 hr2) (cwV 0 hts gX11_skips_X11_here rfl rfl rfl (by decide +kernel) ⟨Nat.le_of_ble_eq_true rfl, Nat.le_of_ble_eq_true rfl⟩) hK hPc (va_recv hK hP (ci := 11) (q0 := 0) rfl rfl) rfl hl.1 rfl (Nat.le_of_ble_eq_true rfl) dX11_skips_1 ⟨Nat.le_of_ble_eq_true rfl, Nat.le_of_ble_eq_true rfl⟩ ?_
  refine lv_iload_n hx hb dX11_skips_4 rfl (lv_at hl 1 rfl) ?_
  refine lv_icmp_eq (tgt := 10) hx hb dX11_skips_5 (by decide) (fun q3 => ?_) (fun q3 => ?_)
  · have hf := wk_t hf q3
    refine lv_aload_n hx hb dX11_skips_10 rfl (lv_at hl 0 rfl) ?_
    refine lv_dup hx hb dX11_skips_11 rfl ?_
    refine va_get (D := (dC, dI)) (ci := 11) (v := .int M_at) (C := RX11) (T := TX11) (N := 22) hx hb hts in_X11_skips_X11 hown hK hP 0 rfl rfl 19 (by decide) (hts _ lk_X11_skips_RX11_204) (fun _ h9 => h9) rfl dX11_skips_12 ?_
    refine lv_iconst (v := 1) hx hb dX11_skips_15 (by decide) ?_
    refine lv_iadd hx hb dX11_skips_16 ?_
    refine lv_topi (fun v4 ev4 => ?_)
    have hf := wkl_s hf ev4
    refine va_put (D := (dC, dI)) (ci := 11) (v := .int v4) (ty := .int) (C := RX11) (T := TX11) (N := 22) hx hb hts in_X11_skips_X11 tyX11 tyX11_ok nmX11 hown hK hP hD hS 0 rfl rfl 19 (by decide) (hts _ lk_X11_skips_RX11_204) (fun _ h9 => h9) rfl (by decide +kernel) rfl rfl (Nat.le_of_ble_eq_true rfl) dX11_skips_17 (fun H locs hP hD hS => ?_)
    have hP : va_P (dC, dI) vwCl [(a 0, .inr (11, [.ref (a 1), .ref (a 2), .ref (a 3), .ref (a 4), .int M_isSaved, .int M_changes, .int M_isWithin, .int M_code, .ref (a 5), .int M_length, .int M_fault, .int M_failed, .ref (a 6), .int M_signMany, .ref (a 7), .ref (a 8), .int M_many, .ref (a 9), .ref (a 10), .int v4, .ref (a 11), .int M_toldMany])), (a 1, .inl (Y 0, 238, .inl M_g)), (a 2, .inl (Y 0, 1904, .inl M_kept)), (a 3, .inl (Y 0, 238, .inl M_saved)), (a 4, .inl (Y 0, 238, .inl M_before)), (a 5, .inl (Y 0, 60, .inl M_input)), (a 6, .inl (Y 2, 100, .inl M_signs)), (a 7, .inl (Y 0, 6, .inl M_column)), (a 8, .inl (Y 0, 6, .inl M_loads)), (a 9, .inl (Y 0, 2048, .inl M_sums)), (a 10, .inl (Y 0, 2048, .inl M_groups)), (a 11, .inl (Y 0, 155, .inl M_told))] H := hP
    have hD : va_D A [(a 0, .inr (11, [.ref (a 1), .ref (a 2), .ref (a 3), .ref (a 4), .int M_isSaved, .int M_changes, .int M_isWithin, .int M_code, .ref (a 5), .int M_length, .int M_fault, .int M_failed, .ref (a 6), .int M_signMany, .ref (a 7), .ref (a 8), .int M_many, .ref (a 9), .ref (a 10), .int v4, .ref (a 11), .int M_toldMany])), (a 1, .inl (Y 0, 238, .inl M_g)), (a 2, .inl (Y 0, 1904, .inl M_kept)), (a 3, .inl (Y 0, 238, .inl M_saved)), (a 4, .inl (Y 0, 238, .inl M_before)), (a 5, .inl (Y 0, 60, .inl M_input)), (a 6, .inl (Y 2, 100, .inl M_signs)), (a 7, .inl (Y 0, 6, .inl M_column)), (a 8, .inl (Y 0, 6, .inl M_loads)), (a 9, .inl (Y 0, 2048, .inl M_sums)), (a 10, .inl (Y 0, 2048, .inl M_groups)), (a 11, .inl (Y 0, 155, .inl M_told))] := hD
    refine lv_iconst (v := 1) hx hb dX11_skips_20 (by decide) ?_
    obtain ⟨e0, e1⟩ := wke2 hf
    subst e0
    subst e1
    have hP9 := hP.sub (ws' := (wX11 Y a M_g M_kept M_saved M_before M_isSaved M_changes M_isWithin M_code M_input M_length M_fault M_failed M_signs M_signMany M_column M_loads M_many M_sums M_groups v4 M_told M_toldMany)) [0, 1, 2, 3, 4, 5, 6, 7, 8, 9, 10, 11] rfl
    have hD9 := hD.sub (ws' := (wX11 Y a M_g M_kept M_saved M_before M_isSaved M_changes M_isWithin M_code M_input M_length M_fault M_failed M_signs M_signMany M_column M_loads M_many M_sums M_groups v4 M_told M_toldMany)) [0, 1, 2, 3, 4, 5, 6, 7, 8, 9, 10, 11] (by decide) rfl
    exact W.zret (v := 1) (ty := .boolean) hx hb hr rfl (fun t ht hW => ⟨⟨1, (), rfl, rfl, by rw [ht]; exact hP9, va_K.moved hW.alike hK, hD9⟩, hS.F ht⟩) hS.2.2 dX11_skips_21
  · have hf := wk_f hf q3
    refine lv_iconst (v := 0) hx hb dX11_skips_8 (by decide) ?_
    obtain ⟨e0, e1⟩ := wke2 hf
    subst e0
    subst e1
    have hP9 := hP.sub (ws' := (wX11 Y a M_g M_kept M_saved M_before M_isSaved M_changes M_isWithin M_code M_input M_length M_fault M_failed M_signs M_signMany M_column M_loads M_many M_sums M_groups M_at M_told M_toldMany)) [0, 1, 2, 3, 4, 5, 6, 7, 8, 9, 10, 11] rfl
    have hD9 := hD.sub (ws' := (wX11 Y a M_g M_kept M_saved M_before M_isSaved M_changes M_isWithin M_code M_input M_length M_fault M_failed M_signs M_signMany M_column M_loads M_many M_sums M_groups M_at M_told M_toldMany)) [0, 1, 2, 3, 4, 5, 6, 7, 8, 9, 10, 11] (by decide) rfl
    exact W.zret (v := 0) (ty := .boolean) hx hb hr rfl (fun t ht hW => ⟨⟨0, (), rfl, rfl, by rw [ht]; exact hP9, va_K.moved hW.alike hK, hD9⟩, hS.F ht⟩) hS.2.2 dX11_skips_9
theorem lk_X11_figures_RX11_48 : Cond.fieldLink RX11 48 "CircusLedgerModel" "told" "[I" ∈ wsX11_figures := by decide +kernel
theorem lk_X11_figures_RX11_204 : Cond.fieldLink RX11 204 "CircusLedgerModel" "at" "I" ∈ wsX11_figures := by decide +kernel
theorem in_X11_figures_X11 : ∀ w ∈ u_ws RX11 TX11 22, w ∈ wsX11_figures := by decide +kernel
def f_X11_figures_L34 (M_input : Nat → Int32) (M_length : Int32) (x1 : Int32) (x2 : Int32) (x3 : Int32) : Nat → Int32 → Int32 → (Nat → Int32) → Option (Int32 × Int32 × (Nat → Int32))
  | 0, _, _, _ => none
  | nn + 1, x4, M_at, M_told =>
    if x3 ≤ x4 then
      (some (1, M_at, M_told))
    else
      (wkb1 (f_X11_here M_input M_length M_at) (fun r2 =>
      wkb1 (f_X11_in r2 48 57) (fun r4 =>
      if r4 = 0 then
        (some (1, M_at, M_told))
      else
        (gin x2 155 (wkb1 (f_X11_here M_input M_length M_at) (fun r8 =>
        gin x2 155 (wkl (upd M_told x2.toNatClampNeg (((10 * (M_told x2.toNatClampNeg)) + r8) - 48)) (fun g10 =>
        wkl ((M_at + 1)) (fun v12 =>
        f_X11_figures_L34 M_input M_length x1 x2 x3 nn (x4 + 1) v12 g10)))))))))
def f_X11_figures (M_input : Nat → Int32) (M_length : Int32) (M_at : Int32) (M_told : Nat → Int32) (x1 : Int32) (x2 : Int32) (x3 : Int32) : Option (Int32 × Int32 × (Nat → Int32)) :=
  wkb2 (f_X11_skips M_input M_length M_at x1) (fun r1 w2 =>
  if r1 = 0 then
    (some (0, w2, M_told))
  else
    (wkb1 (f_X11_here M_input M_length w2) (fun r5 =>
    wkb1 (f_X11_in r5 48 57) (fun r7 =>
    if r7 = 0 then
      (some (0, w2, M_told))
    else
      (gin x2 155 (wkl (upd M_told x2.toNatClampNeg 0) (fun g10 =>
      f_X11_figures_L34 M_input M_length x1 x2 x3 FU 0 w2 g10)))))))
set_option maxHeartbeats 4000000 in
set_option maxRecDepth 100000 in
theorem wl_X11_figures_L34 {p : Program} {l : Launch} {e : Env} {s : State} {m : MethodId} {args : Array Value} {below : List Frame} {meth : Method} {c : Code} {dC : Nat → ClassId} {dI : Nat → Nat → Nat} {Y : Nat → ClassId} {a : Nat → Nat} {M_g : Nat → Int32} {M_kept : Nat → Int32} {M_saved : Nat → Int32} {M_before : Nat → Int32} {M_isSaved : Int32} {M_changes : Int32} {M_isWithin : Int32} {M_code : Int32} {M_input : Nat → Int32} {M_length : Int32} {M_fault : Int32} {M_failed : Int32} {M_signs : Nat → Int32} {M_signMany : Int32} {M_column : Nat → Int32} {M_loads : Nat → Int32} {M_many : Int32} {M_sums : Nat → Int32} {M_groups : Nat → Int32} {M_toldMany : Int32} {x1 : Int32} {x2 : Int32} {x3 : Int32} {r : Int32} {zM_at : Int32} {zM_told : Nat → Int32}  (C0 : wk_C p s m args meth c cX11_figures 5 (some .boolean) wsX11_figures RX11) {A : Nat → Prop} (hK : va_K (dC, dI) vwCl (vTy Y) s) (hA : ∀ q, s.heap.size ≤ q → A q) : ∀ (nn : Nat) (x4 : Int32)  (M_at : Int32) (M_told : Nat → Int32), f_X11_figures_L34 M_input M_length x1 x2 x3 nn x4 M_at M_told = some (r, zM_at, zM_told) → ∀ (H : Heap) (locs : List Loc), va_P (dC, dI) vwCl (wX11 Y a M_g M_kept M_saved M_before M_isSaved M_changes M_isWithin M_code M_input M_length M_fault M_failed M_signs M_signMany M_column M_loads M_many M_sums M_groups M_at M_told M_toldMany) H → va_D A (wX11 Y a M_g M_kept M_saved M_before M_isSaved M_changes M_isWithin M_code M_input M_length M_fault M_failed M_signs M_signMany M_column M_loads M_many M_sums M_groups M_at M_told M_toldMany) → va_S A s.heap H locs → ∀ (ls : Array Slot), lv_has ls 5 [(0, .ref (a 0)), (2, .int x2), (3, .int x3), (4, .int x4)] → W p l e (headSpec wsX11_figures ({ frames := 2, cells := 0, slots := 0, locals := 41 } : Room)).room s m args below meth c H locs 0 0 (MQ below (va_Qi (fun r2 (_ : Unit) => r2 = r) (fun _ t => wk_X (dC, dI) Y (wX11 Y a M_g M_kept M_saved M_before M_isSaved M_changes M_isWithin M_code M_input M_length M_fault M_failed M_signs M_signMany M_column M_loads M_many M_sums M_groups zM_at zM_told M_toldMany) A t) A) args s 0 0 A) (F0 m 34 ls []) := by
  have C0 := C0
  obtain ⟨hx, hb, hml, hr, hlocks, hown, hts⟩ := id C0
  intro nn
  induction nn with
  | zero =>
    intro x4 M_at M_told hf
    rw [f_X11_figures_L34] at hf
    cases hf
  | succ nn ih =>
    intro x4 M_at M_told hf H locs hP hD hS ls hl
    rw [f_X11_figures_L34] at hf
    have hP : va_P (dC, dI) vwCl [(a 0, .inr (11, [.ref (a 1), .ref (a 2), .ref (a 3), .ref (a 4), .int M_isSaved, .int M_changes, .int M_isWithin, .int M_code, .ref (a 5), .int M_length, .int M_fault, .int M_failed, .ref (a 6), .int M_signMany, .ref (a 7), .ref (a 8), .int M_many, .ref (a 9), .ref (a 10), .int M_at, .ref (a 11), .int M_toldMany])), (a 1, .inl (Y 0, 238, .inl M_g)), (a 2, .inl (Y 0, 1904, .inl M_kept)), (a 3, .inl (Y 0, 238, .inl M_saved)), (a 4, .inl (Y 0, 238, .inl M_before)), (a 5, .inl (Y 0, 60, .inl M_input)), (a 6, .inl (Y 2, 100, .inl M_signs)), (a 7, .inl (Y 0, 6, .inl M_column)), (a 8, .inl (Y 0, 6, .inl M_loads)), (a 9, .inl (Y 0, 2048, .inl M_sums)), (a 10, .inl (Y 0, 2048, .inl M_groups)), (a 11, .inl (Y 0, 155, .inl M_told))] H := hP
    have hD : va_D A [(a 0, .inr (11, [.ref (a 1), .ref (a 2), .ref (a 3), .ref (a 4), .int M_isSaved, .int M_changes, .int M_isWithin, .int M_code, .ref (a 5), .int M_length, .int M_fault, .int M_failed, .ref (a 6), .int M_signMany, .ref (a 7), .ref (a 8), .int M_many, .ref (a 9), .ref (a 10), .int M_at, .ref (a 11), .int M_toldMany])), (a 1, .inl (Y 0, 238, .inl M_g)), (a 2, .inl (Y 0, 1904, .inl M_kept)), (a 3, .inl (Y 0, 238, .inl M_saved)), (a 4, .inl (Y 0, 238, .inl M_before)), (a 5, .inl (Y 0, 60, .inl M_input)), (a 6, .inl (Y 2, 100, .inl M_signs)), (a 7, .inl (Y 0, 6, .inl M_column)), (a 8, .inl (Y 0, 6, .inl M_loads)), (a 9, .inl (Y 0, 2048, .inl M_sums)), (a 10, .inl (Y 0, 2048, .inl M_groups)), (a 11, .inl (Y 0, 155, .inl M_told))] := hD
    refine lv_iload hx hb dX11_figures_34 (lv_at hl 3 rfl) ?_
    refine lv_iload_n hx hb dX11_figures_36 rfl (lv_at hl 2 rfl) ?_
    refine lv_icmp_ge (tgt := 93) hx hb dX11_figures_37 (by decide) (fun q1 => ?_) (fun q1 => ?_)
    · have hf := wk_t hf q1
      refine lv_iconst (v := 1) hx hb dX11_figures_93 (by decide) ?_
      obtain ⟨e0, e1, e2⟩ := wke3 hf
      subst e0
      subst e1
      subst e2
      have hP9 := hP.sub (ws' := (wX11 Y a M_g M_kept M_saved M_before M_isSaved M_changes M_isWithin M_code M_input M_length M_fault M_failed M_signs M_signMany M_column M_loads M_many M_sums M_groups M_at M_told M_toldMany)) [0, 1, 2, 3, 4, 5, 6, 7, 8, 9, 10, 11] rfl
      have hD9 := hD.sub (ws' := (wX11 Y a M_g M_kept M_saved M_before M_isSaved M_changes M_isWithin M_code M_input M_length M_fault M_failed M_signs M_signMany M_column M_loads M_many M_sums M_groups M_at M_told M_toldMany)) [0, 1, 2, 3, 4, 5, 6, 7, 8, 9, 10, 11] (by decide) rfl
      exact W.zret (v := 1) (ty := .boolean) hx hb hr rfl (fun t ht hW => ⟨⟨1, (), rfl, rfl, by rw [ht]; exact hP9, va_K.moved hW.alike hK, hD9⟩, hS.F ht⟩) hS.2.2 dX11_figures_94
    · have hf := wk_f hf q1
      refine lv_aload_n hx hb dX11_figures_40 rfl (lv_at hl 0 rfl) ?_
      obtain ⟨r2, hr3, hf⟩ := wkb1_s hf
      have hPc := hP.sub (ws' := (wX11 Y a M_g M_kept M_saved M_before M_isSaved M_changes M_isWithin M_code M_input M_length M_fault M_failed M_signs M_signMany M_column M_loads M_many M_sums M_groups M_at M_told M_toldMany)) [0, 1, 2, 3, 4, 5, 6, 7, 8, 9, 10, 11] rfl
      refine wk_vi (As := []) (rest := []) ⟨hx, hb, hml, hown, hts⟩ (c_X11_here l dC dI Y a M_g M_kept M_saved M_before M_isSaved M_changes M_isWithin M_code M_input M_length M_fault M_failed M_signs M_signMany M_column M_loads M_many M_sums M_groups M_at M_told M_toldMany r2 hr3) (cwV 0 hts gX11_figures_X11_here rfl rfl rfl (by decide +kernel) ⟨Nat.le_of_ble_eq_true rfl, Nat.le_of_ble_eq_true rfl⟩) hK hPc (va_recv hK hP (ci := 11) (q0 := 0) rfl rfl) rfl hl.1 rfl (Nat.le_of_ble_eq_true rfl) dX11_figures_41 ⟨Nat.le_of_ble_eq_true rfl, Nat.le_of_ble_eq_true rfl⟩ ?_
      refine lv_bipush (v := 48) hx hb dX11_figures_44 (by decide) ?_
      refine lv_bipush (v := 57) hx hb dX11_figures_46 (by decide) ?_
      obtain ⟨r4, hr5, hf⟩ := wkb1_s hf
      have hPc := hP.sub (ws' := ([] : va_W)) [] rfl
      refine wk_si (As := [.int r2, .int 48, .int 57]) (rest := []) ⟨hx, hb, hml, hown, hts⟩ (c_X11_in l dC dI Y r2 48 57 r4 hr5) (va_cwS 3 hts gX11_figures_X11_in rfl rfl rfl (by decide +kernel) ⟨Nat.le_of_ble_eq_true rfl, Nat.le_of_ble_eq_true rfl⟩) hK hPc rfl hl.1 rfl (Nat.le_of_ble_eq_true rfl) dX11_figures_48 ⟨Nat.le_of_ble_eq_true rfl, Nat.le_of_ble_eq_true rfl⟩ ?_
      refine lv_if_eq (tgt := 93) hx hb dX11_figures_51 (by decide) (fun q6 => ?_) (fun q6 => ?_)
      · have hf := wk_t hf q6
        refine lv_iconst (v := 1) hx hb dX11_figures_93 (by decide) ?_
        obtain ⟨e0, e1, e2⟩ := wke3 hf
        subst e0
        subst e1
        subst e2
        have hP9 := hP.sub (ws' := (wX11 Y a M_g M_kept M_saved M_before M_isSaved M_changes M_isWithin M_code M_input M_length M_fault M_failed M_signs M_signMany M_column M_loads M_many M_sums M_groups M_at M_told M_toldMany)) [0, 1, 2, 3, 4, 5, 6, 7, 8, 9, 10, 11] rfl
        have hD9 := hD.sub (ws' := (wX11 Y a M_g M_kept M_saved M_before M_isSaved M_changes M_isWithin M_code M_input M_length M_fault M_failed M_signs M_signMany M_column M_loads M_many M_sums M_groups M_at M_told M_toldMany)) [0, 1, 2, 3, 4, 5, 6, 7, 8, 9, 10, 11] (by decide) rfl
        exact W.zret (v := 1) (ty := .boolean) hx hb hr rfl (fun t ht hW => ⟨⟨1, (), rfl, rfl, by rw [ht]; exact hP9, va_K.moved hW.alike hK, hD9⟩, hS.F ht⟩) hS.2.2 dX11_figures_94
      · have hf := wk_f hf q6
        refine lv_aload_n hx hb dX11_figures_54 rfl (lv_at hl 0 rfl) ?_
        refine va_get (D := (dC, dI)) (ci := 11) (v := .ref (a 11)) (C := RX11) (T := TX11) (N := 22) hx hb hts in_X11_figures_X11 hown hK hP 0 rfl rfl 20 (by decide) (hts _ lk_X11_figures_RX11_48) (fun _ h9 => h9) rfl dX11_figures_55 ?_
        refine lv_iload_n hx hb dX11_figures_58 rfl (lv_at hl 1 rfl) ?_
        refine lv_bipush (v := 10) hx hb dX11_figures_59 (by decide) ?_
        refine lv_aload_n hx hb dX11_figures_61 rfl (lv_at hl 0 rfl) ?_
        refine va_get (D := (dC, dI)) (ci := 11) (v := .ref (a 11)) (C := RX11) (T := TX11) (N := 22) hx hb hts in_X11_figures_X11 hown hK hP 0 rfl rfl 20 (by decide) (hts _ lk_X11_figures_RX11_48) (fun _ h9 => h9) rfl dX11_figures_62 ?_
        refine lv_iload_n hx hb dX11_figures_65 rfl (lv_at hl 1 rfl) ?_
        obtain ⟨h7, hf⟩ := gin_s hf
        refine wk_iald hx hb hK hP 11 0 rfl rfl h7 rfl dX11_figures_66 ?_
        refine lv_imul hx hb dX11_figures_67 ?_
        refine lv_aload_n hx hb dX11_figures_68 rfl (lv_at hl 0 rfl) ?_
        obtain ⟨r8, hr9, hf⟩ := wkb1_s hf
        have hPc := hP.sub (ws' := (wX11 Y a M_g M_kept M_saved M_before M_isSaved M_changes M_isWithin M_code M_input M_length M_fault M_failed M_signs M_signMany M_column M_loads M_many M_sums M_groups M_at M_told M_toldMany)) [0, 1, 2, 3, 4, 5, 6, 7, 8, 9, 10, 11] rfl
        refine wk_vi (As := []) (rest := [.int (10 * (M_told x2.toNatClampNeg)), .int x2, .ref (a 11)]) ⟨hx, hb, hml, hown, hts⟩ (c_X11_here l dC dI Y a M_g M_kept M_saved M_before M_isSaved M_changes M_isWithin M_code M_input M_length M_fault M_failed M_signs M_signMany M_column M_loads M_many M_sums M_groups M_at M_told M_toldMany r8 hr9) (cwV 0 hts gX11_figures_X11_here rfl rfl rfl (by decide +kernel) ⟨Nat.le_of_ble_eq_true rfl, Nat.le_of_ble_eq_true rfl⟩) hK hPc (va_recv hK hP (ci := 11) (q0 := 0) rfl rfl) rfl hl.1 rfl (Nat.le_of_ble_eq_true rfl) dX11_figures_69 ⟨Nat.le_of_ble_eq_true rfl, Nat.le_of_ble_eq_true rfl⟩ ?_
        refine lv_iadd hx hb dX11_figures_72 ?_
        refine lv_bipush (v := 48) hx hb dX11_figures_73 (by decide) ?_
        refine lv_isub hx hb dX11_figures_75 ?_
        obtain ⟨h11, hf⟩ := gin_s hf
        refine wk_iast hx hb hK hP hD hS 11 0 (k := x2.toNatClampNeg) rfl rfl h11 rfl dX11_figures_76 (fun g10 H locs eg10 hP hD hS => ?_)
        have hP : va_P (dC, dI) vwCl [(a 0, .inr (11, [.ref (a 1), .ref (a 2), .ref (a 3), .ref (a 4), .int M_isSaved, .int M_changes, .int M_isWithin, .int M_code, .ref (a 5), .int M_length, .int M_fault, .int M_failed, .ref (a 6), .int M_signMany, .ref (a 7), .ref (a 8), .int M_many, .ref (a 9), .ref (a 10), .int M_at, .ref (a 11), .int M_toldMany])), (a 1, .inl (Y 0, 238, .inl M_g)), (a 2, .inl (Y 0, 1904, .inl M_kept)), (a 3, .inl (Y 0, 238, .inl M_saved)), (a 4, .inl (Y 0, 238, .inl M_before)), (a 5, .inl (Y 0, 60, .inl M_input)), (a 6, .inl (Y 2, 100, .inl M_signs)), (a 7, .inl (Y 0, 6, .inl M_column)), (a 8, .inl (Y 0, 6, .inl M_loads)), (a 9, .inl (Y 0, 2048, .inl M_sums)), (a 10, .inl (Y 0, 2048, .inl M_groups)), (a 11, .inl (Y 0, 155, .inl g10))] H := hP
        have hD : va_D A [(a 0, .inr (11, [.ref (a 1), .ref (a 2), .ref (a 3), .ref (a 4), .int M_isSaved, .int M_changes, .int M_isWithin, .int M_code, .ref (a 5), .int M_length, .int M_fault, .int M_failed, .ref (a 6), .int M_signMany, .ref (a 7), .ref (a 8), .int M_many, .ref (a 9), .ref (a 10), .int M_at, .ref (a 11), .int M_toldMany])), (a 1, .inl (Y 0, 238, .inl M_g)), (a 2, .inl (Y 0, 1904, .inl M_kept)), (a 3, .inl (Y 0, 238, .inl M_saved)), (a 4, .inl (Y 0, 238, .inl M_before)), (a 5, .inl (Y 0, 60, .inl M_input)), (a 6, .inl (Y 2, 100, .inl M_signs)), (a 7, .inl (Y 0, 6, .inl M_column)), (a 8, .inl (Y 0, 6, .inl M_loads)), (a 9, .inl (Y 0, 2048, .inl M_sums)), (a 10, .inl (Y 0, 2048, .inl M_groups)), (a 11, .inl (Y 0, 155, .inl g10))] := hD
        have hf := wkl_s hf eg10
        refine lv_aload_n hx hb dX11_figures_77 rfl (lv_at hl 0 rfl) ?_
        refine lv_dup hx hb dX11_figures_78 rfl ?_
        refine va_get (D := (dC, dI)) (ci := 11) (v := .int M_at) (C := RX11) (T := TX11) (N := 22) hx hb hts in_X11_figures_X11 hown hK hP 0 rfl rfl 19 (by decide) (hts _ lk_X11_figures_RX11_204) (fun _ h9 => h9) rfl dX11_figures_79 ?_
        refine lv_iconst (v := 1) hx hb dX11_figures_82 (by decide) ?_
        refine lv_iadd hx hb dX11_figures_83 ?_
        refine lv_topi (fun v12 ev12 => ?_)
        have hf := wkl_s hf ev12
        refine va_put (D := (dC, dI)) (ci := 11) (v := .int v12) (ty := .int) (C := RX11) (T := TX11) (N := 22) hx hb hts in_X11_figures_X11 tyX11 tyX11_ok nmX11 hown hK hP hD hS 0 rfl rfl 19 (by decide) (hts _ lk_X11_figures_RX11_204) (fun _ h9 => h9) rfl (by decide +kernel) rfl rfl (Nat.le_of_ble_eq_true rfl) dX11_figures_84 (fun H locs hP hD hS => ?_)
        have hP : va_P (dC, dI) vwCl [(a 0, .inr (11, [.ref (a 1), .ref (a 2), .ref (a 3), .ref (a 4), .int M_isSaved, .int M_changes, .int M_isWithin, .int M_code, .ref (a 5), .int M_length, .int M_fault, .int M_failed, .ref (a 6), .int M_signMany, .ref (a 7), .ref (a 8), .int M_many, .ref (a 9), .ref (a 10), .int v12, .ref (a 11), .int M_toldMany])), (a 1, .inl (Y 0, 238, .inl M_g)), (a 2, .inl (Y 0, 1904, .inl M_kept)), (a 3, .inl (Y 0, 238, .inl M_saved)), (a 4, .inl (Y 0, 238, .inl M_before)), (a 5, .inl (Y 0, 60, .inl M_input)), (a 6, .inl (Y 2, 100, .inl M_signs)), (a 7, .inl (Y 0, 6, .inl M_column)), (a 8, .inl (Y 0, 6, .inl M_loads)), (a 9, .inl (Y 0, 2048, .inl M_sums)), (a 10, .inl (Y 0, 2048, .inl M_groups)), (a 11, .inl (Y 0, 155, .inl g10))] H := hP
        have hD : va_D A [(a 0, .inr (11, [.ref (a 1), .ref (a 2), .ref (a 3), .ref (a 4), .int M_isSaved, .int M_changes, .int M_isWithin, .int M_code, .ref (a 5), .int M_length, .int M_fault, .int M_failed, .ref (a 6), .int M_signMany, .ref (a 7), .ref (a 8), .int M_many, .ref (a 9), .ref (a 10), .int v12, .ref (a 11), .int M_toldMany])), (a 1, .inl (Y 0, 238, .inl M_g)), (a 2, .inl (Y 0, 1904, .inl M_kept)), (a 3, .inl (Y 0, 238, .inl M_saved)), (a 4, .inl (Y 0, 238, .inl M_before)), (a 5, .inl (Y 0, 60, .inl M_input)), (a 6, .inl (Y 2, 100, .inl M_signs)), (a 7, .inl (Y 0, 6, .inl M_column)), (a 8, .inl (Y 0, 6, .inl M_loads)), (a 9, .inl (Y 0, 2048, .inl M_sums)), (a 10, .inl (Y 0, 2048, .inl M_groups)), (a 11, .inl (Y 0, 155, .inl g10))] := hD
        refine lv_iinc (v := (x4 + 1)) (lv' := [(4, .int (x4 + 1)), (0, .ref (a 0)), (2, .int x2), (3, .int x3)]) hx hb dX11_figures_87 hl (k := 3) rfl rfl (by decide) rfl (fun ls hl => ?_)
        refine lv_goto (tgt := 34) hx hb dX11_figures_90 (by decide) ?_
        exact ih (x4 + 1) v12 g10 hf H locs hP hD hS ls (lv_sub hl [1, 2, 3, 0] rfl)
set_option maxHeartbeats 4000000 in
set_option maxRecDepth 100000 in
theorem c_X11_figures (l : Launch) (dC : Nat → ClassId) (dI : Nat → Nat → Nat) (Y : Nat → ClassId) (a : Nat → Nat) (M_g : Nat → Int32) (M_kept : Nat → Int32) (M_saved : Nat → Int32) (M_before : Nat → Int32) (M_isSaved : Int32) (M_changes : Int32) (M_isWithin : Int32) (M_code : Int32) (M_input : Nat → Int32) (M_length : Int32) (M_fault : Int32) (M_failed : Int32) (M_signs : Nat → Int32) (M_signMany : Int32) (M_column : Nat → Int32) (M_loads : Nat → Int32) (M_many : Int32) (M_sums : Nat → Int32) (M_groups : Nat → Int32) (M_at : Int32) (M_told : Nat → Int32) (M_toldMany : Int32) (x1 : Int32) (x2 : Int32) (x3 : Int32) (sz : Nat) (r : Int32) (zM_at : Int32) (zM_told : Nat → Int32) (hf : f_X11_figures M_input M_length M_at M_told x1 x2 x3 = some (r, zM_at, zM_told)) : Met l yX11_figures wsX11_figures ({ frames := 2, cells := 0, slots := 0, locals := 41 } : Room) (va_Pc [.ref (a 0), .int x1, .int x2, .int x3] (wk_E (dC, dI) Y (wX11 Y a M_g M_kept M_saved M_before M_isSaved M_changes M_isWithin M_code M_input M_length M_fault M_failed M_signs M_signMany M_column M_loads M_many M_sums M_groups M_at M_told M_toldMany) sz)) (va_Qi (fun r2 (_ : Unit) => r2 = r) (fun _ t => wk_X (dC, dI) Y (wX11 Y a M_g M_kept M_saved M_before M_isSaved M_changes M_isWithin M_code M_input M_length M_fault M_failed M_signs M_signMany M_column M_loads M_many M_sums M_groups zM_at zM_told M_toldMany) (va_A (wX11 Y a M_g M_kept M_saved M_before M_isSaved M_changes M_isWithin M_code M_input M_length M_fault M_failed M_signs M_signMany M_column M_loads M_many M_sums M_groups M_at M_told M_toldMany) sz) t) (va_A (wX11 Y a M_g M_kept M_saved M_before M_isSaved M_changes M_isWithin M_code M_input M_length M_fault M_failed M_signs M_signMany M_column M_loads M_many M_sums M_groups M_at M_told M_toldMany) sz)) 0 0 (va_A (wX11 Y a M_g M_kept M_saved M_before M_isSaved M_changes M_isWithin M_code M_input M_length M_fault M_failed M_signs M_signMany M_column M_loads M_many M_sums M_groups M_at M_told M_toldMany) sz) := by
  refine Met.ofW (cc := cX11_figures) (maxL := 5) (ret := (some .boolean)) (by decide) rfl ?_
  intro p e s m args below meth c s₁ B hml hv
  obtain ⟨rfl, hsz, hP, hK, hD0⟩ := hv
  have hx := B.exec
  have hb := B.bytes
  have hr := B.returns
  have hts := atoms_spec (ws := wsX11_figures) B.pre
  have hown : s.vm.findClass RX11 = some m.cls := findClass_of_methodNamed B.named
  have hlocks := B.notSynchronized
  have C0 : wk_C p s m _ meth c cX11_figures 5 (some .boolean) wsX11_figures RX11 := ⟨hx, hb, hml, hr, hlocks, hown, hts⟩
  subst hsz
  have hD := hD0.self (sz := s.heap.size)
  generalize hAe : va_A (wX11 Y a M_g M_kept M_saved M_before M_isSaved M_changes M_isWithin M_code M_input M_length M_fault M_failed M_signs M_signMany M_column M_loads M_many M_sums M_groups M_at M_told M_toldMany) s.heap.size = A at hD ⊢
  have hA : ∀ q : Nat, s.heap.size ≤ q → A q := fun q h => by rw [← hAe]; exact Or.inr h
  have hS : va_S A s.heap s.heap [] := va_S.rf
  obtain ⟨H, hHe⟩ : ∃ H, H = s.heap := ⟨_, rfl⟩
  have hS : va_S A s.heap H [] := by rw [hHe]; exact hS
  have hP : va_P (dC, dI) vwCl [(a 0, .inr (11, [.ref (a 1), .ref (a 2), .ref (a 3), .ref (a 4), .int M_isSaved, .int M_changes, .int M_isWithin, .int M_code, .ref (a 5), .int M_length, .int M_fault, .int M_failed, .ref (a 6), .int M_signMany, .ref (a 7), .ref (a 8), .int M_many, .ref (a 9), .ref (a 10), .int M_at, .ref (a 11), .int M_toldMany])), (a 1, .inl (Y 0, 238, .inl M_g)), (a 2, .inl (Y 0, 1904, .inl M_kept)), (a 3, .inl (Y 0, 238, .inl M_saved)), (a 4, .inl (Y 0, 238, .inl M_before)), (a 5, .inl (Y 0, 60, .inl M_input)), (a 6, .inl (Y 2, 100, .inl M_signs)), (a 7, .inl (Y 0, 6, .inl M_column)), (a 8, .inl (Y 0, 6, .inl M_loads)), (a 9, .inl (Y 0, 2048, .inl M_sums)), (a 10, .inl (Y 0, 2048, .inl M_groups)), (a 11, .inl (Y 0, 155, .inl M_told))] H := by rw [hHe]; exact hP
  have hD : va_D A [(a 0, .inr (11, [.ref (a 1), .ref (a 2), .ref (a 3), .ref (a 4), .int M_isSaved, .int M_changes, .int M_isWithin, .int M_code, .ref (a 5), .int M_length, .int M_fault, .int M_failed, .ref (a 6), .int M_signMany, .ref (a 7), .ref (a 8), .int M_many, .ref (a 9), .ref (a 10), .int M_at, .ref (a 11), .int M_toldMany])), (a 1, .inl (Y 0, 238, .inl M_g)), (a 2, .inl (Y 0, 1904, .inl M_kept)), (a 3, .inl (Y 0, 238, .inl M_saved)), (a 4, .inl (Y 0, 238, .inl M_before)), (a 5, .inl (Y 0, 60, .inl M_input)), (a 6, .inl (Y 2, 100, .inl M_signs)), (a 7, .inl (Y 0, 6, .inl M_column)), (a 8, .inl (Y 0, 6, .inl M_loads)), (a 9, .inl (Y 0, 2048, .inl M_sums)), (a 10, .inl (Y 0, 2048, .inl M_groups)), (a 11, .inl (Y 0, 155, .inl M_told))] := hD
  obtain ⟨locs, hlo⟩ : ∃ locs : List Loc, locs = [] := ⟨_, rfl⟩
  have hS : va_S A s.heap H locs := by rw [hlo]; exact hS
  have hl := lv_entry ([.ref (a 0), .int x1, .int x2, .int x3]) (n := 5) (Nat.le_of_ble_eq_true rfl)
  rw [lg_entry_eq]
  generalize (lg_sl ([.ref (a 0), .int x1, .int x2, .int x3]) ++ List.replicate (5 - (lg_sl ([.ref (a 0), .int x1, .int x2, .int x3])).length) Slot.unset).toArray = ls at hl ⊢
  have hl : lv_has ls 5 [(0, .ref (a 0)), (1, .int x1), (2, .int x2), (3, .int x3)] := hl
  refine wk_start hHe hlo ?_
  rw [f_X11_figures] at hf
  refine lv_aload_n hx hb dX11_figures_0 rfl (lv_at hl 0 rfl) ?_
  refine lv_iload_n hx hb dX11_figures_1 rfl (lv_at hl 1 rfl) ?_
  obtain ⟨r1, w2, hr3, hf⟩ := wkb2_s hf
  refine wk_evi (As := [.int x1]) (rest := []) (wc := (wX11 Y a M_g M_kept M_saved M_before M_isSaved M_changes M_isWithin M_code M_input M_length M_fault M_failed M_signs M_signMany M_column M_loads M_many M_sums M_groups M_at M_told M_toldMany)) (w1 := (wX11 Y a M_g M_kept M_saved M_before M_isSaved M_changes M_isWithin M_code M_input M_length M_fault M_failed M_signs M_signMany M_column M_loads M_many M_sums M_groups w2 M_told M_toldMany)) (wr := []) ⟨hx, hb, hml, hown, hts⟩ (c_X11_skips l dC dI Y a M_g M_kept M_saved M_before M_isSaved M_changes M_isWithin M_code M_input M_length M_fault M_failed M_signs M_signMany M_column M_loads M_many M_sums M_groups M_at M_told M_toldMany x1 H.size r1 w2 hr3) (cwV 1 hts gX11_figures_X11_skips rfl rfl rfl (by decide +kernel) ⟨Nat.le_of_ble_eq_true rfl, Nat.le_of_ble_eq_true rfl⟩) hK hP hD hS hA [0, 1, 2, 3, 4, 5, 6, 7, 8, 9, 10, 11] [] rfl rfl (by decide) (by decide) (by decide) (va_recv hK hP (ci := 11) (q0 := 0) rfl rfl) rfl hl.1 rfl (Nat.le_of_ble_eq_true rfl) dX11_figures_2 ⟨Nat.le_of_ble_eq_true rfl, Nat.le_of_ble_eq_true rfl⟩ (fun H locs hP hD hS => ?_)
  have hP : va_P (dC, dI) vwCl [(a 0, .inr (11, [.ref (a 1), .ref (a 2), .ref (a 3), .ref (a 4), .int M_isSaved, .int M_changes, .int M_isWithin, .int M_code, .ref (a 5), .int M_length, .int M_fault, .int M_failed, .ref (a 6), .int M_signMany, .ref (a 7), .ref (a 8), .int M_many, .ref (a 9), .ref (a 10), .int w2, .ref (a 11), .int M_toldMany])), (a 1, .inl (Y 0, 238, .inl M_g)), (a 2, .inl (Y 0, 1904, .inl M_kept)), (a 3, .inl (Y 0, 238, .inl M_saved)), (a 4, .inl (Y 0, 238, .inl M_before)), (a 5, .inl (Y 0, 60, .inl M_input)), (a 6, .inl (Y 2, 100, .inl M_signs)), (a 7, .inl (Y 0, 6, .inl M_column)), (a 8, .inl (Y 0, 6, .inl M_loads)), (a 9, .inl (Y 0, 2048, .inl M_sums)), (a 10, .inl (Y 0, 2048, .inl M_groups)), (a 11, .inl (Y 0, 155, .inl M_told))] H := hP
  have hD : va_D A [(a 0, .inr (11, [.ref (a 1), .ref (a 2), .ref (a 3), .ref (a 4), .int M_isSaved, .int M_changes, .int M_isWithin, .int M_code, .ref (a 5), .int M_length, .int M_fault, .int M_failed, .ref (a 6), .int M_signMany, .ref (a 7), .ref (a 8), .int M_many, .ref (a 9), .ref (a 10), .int w2, .ref (a 11), .int M_toldMany])), (a 1, .inl (Y 0, 238, .inl M_g)), (a 2, .inl (Y 0, 1904, .inl M_kept)), (a 3, .inl (Y 0, 238, .inl M_saved)), (a 4, .inl (Y 0, 238, .inl M_before)), (a 5, .inl (Y 0, 60, .inl M_input)), (a 6, .inl (Y 2, 100, .inl M_signs)), (a 7, .inl (Y 0, 6, .inl M_column)), (a 8, .inl (Y 0, 6, .inl M_loads)), (a 9, .inl (Y 0, 2048, .inl M_sums)), (a 10, .inl (Y 0, 2048, .inl M_groups)), (a 11, .inl (Y 0, 155, .inl M_told))] := hD
  refine lv_if_eq (tgt := 22) hx hb dX11_figures_5 (by decide) (fun q4 => ?_) (fun q4 => ?_)
  · have hf := wk_t hf q4
    refine lv_iconst (v := 0) hx hb dX11_figures_22 (by decide) ?_
    obtain ⟨e0, e1, e2⟩ := wke3 hf
    subst e0
    subst e1
    subst e2
    have hP9 := hP.sub (ws' := (wX11 Y a M_g M_kept M_saved M_before M_isSaved M_changes M_isWithin M_code M_input M_length M_fault M_failed M_signs M_signMany M_column M_loads M_many M_sums M_groups w2 M_told M_toldMany)) [0, 1, 2, 3, 4, 5, 6, 7, 8, 9, 10, 11] rfl
    have hD9 := hD.sub (ws' := (wX11 Y a M_g M_kept M_saved M_before M_isSaved M_changes M_isWithin M_code M_input M_length M_fault M_failed M_signs M_signMany M_column M_loads M_many M_sums M_groups w2 M_told M_toldMany)) [0, 1, 2, 3, 4, 5, 6, 7, 8, 9, 10, 11] (by decide) rfl
    exact W.zret (v := 0) (ty := .boolean) hx hb hr rfl (fun t ht hW => ⟨⟨0, (), rfl, rfl, by rw [ht]; exact hP9, va_K.moved hW.alike hK, hD9⟩, hS.F ht⟩) hS.2.2 dX11_figures_23
  · have hf := wk_f hf q4
    refine lv_aload_n hx hb dX11_figures_8 rfl (lv_at hl 0 rfl) ?_
    obtain ⟨r5, hr6, hf⟩ := wkb1_s hf
    have hPc := hP.sub (ws' := (wX11 Y a M_g M_kept M_saved M_before M_isSaved M_changes M_isWithin M_code M_input M_length M_fault M_failed M_signs M_signMany M_column M_loads M_many M_sums M_groups w2 M_told M_toldMany)) [0, 1, 2, 3, 4, 5, 6, 7, 8, 9, 10, 11] rfl
    refine wk_vi (As := []) (rest := []) ⟨hx, hb, hml, hown, hts⟩ (c_X11_here l dC dI Y a M_g M_kept M_saved M_before M_isSaved M_changes M_isWithin M_code M_input M_length M_fault M_failed M_signs M_signMany M_column M_loads M_many M_sums M_groups w2 M_told M_toldMany r5 hr6) (cwV 0 hts gX11_figures_X11_here rfl rfl rfl (by decide +kernel) ⟨Nat.le_of_ble_eq_true rfl, Nat.le_of_ble_eq_true rfl⟩) hK hPc (va_recv hK hP (ci := 11) (q0 := 0) rfl rfl) rfl hl.1 rfl (Nat.le_of_ble_eq_true rfl) dX11_figures_9 ⟨Nat.le_of_ble_eq_true rfl, Nat.le_of_ble_eq_true rfl⟩ ?_
    refine lv_bipush (v := 48) hx hb dX11_figures_12 (by decide) ?_
    refine lv_bipush (v := 57) hx hb dX11_figures_14 (by decide) ?_
    obtain ⟨r7, hr8, hf⟩ := wkb1_s hf
    have hPc := hP.sub (ws' := ([] : va_W)) [] rfl
    refine wk_si (As := [.int r5, .int 48, .int 57]) (rest := []) ⟨hx, hb, hml, hown, hts⟩ (c_X11_in l dC dI Y r5 48 57 r7 hr8) (va_cwS 3 hts gX11_figures_X11_in rfl rfl rfl (by decide +kernel) ⟨Nat.le_of_ble_eq_true rfl, Nat.le_of_ble_eq_true rfl⟩) hK hPc rfl hl.1 rfl (Nat.le_of_ble_eq_true rfl) dX11_figures_16 ⟨Nat.le_of_ble_eq_true rfl, Nat.le_of_ble_eq_true rfl⟩ ?_
    refine lv_if_ne (tgt := 24) hx hb dX11_figures_19 (by decide) (fun q9 => ?_) (fun q9 => ?_)
    · have hf := wk_f hf q9
      refine lv_aload_n hx hb dX11_figures_24 rfl (lv_at hl 0 rfl) ?_
      refine va_get (D := (dC, dI)) (ci := 11) (v := .ref (a 11)) (C := RX11) (T := TX11) (N := 22) hx hb hts in_X11_figures_X11 hown hK hP 0 rfl rfl 20 (by decide) (hts _ lk_X11_figures_RX11_48) (fun _ h9 => h9) rfl dX11_figures_25 ?_
      refine lv_iload_n hx hb dX11_figures_28 rfl (lv_at hl 2 rfl) ?_
      refine lv_iconst (v := 0) hx hb dX11_figures_29 (by decide) ?_
      obtain ⟨h11, hf⟩ := gin_s hf
      refine wk_iast hx hb hK hP hD hS 11 0 (k := x2.toNatClampNeg) rfl rfl h11 rfl dX11_figures_30 (fun g10 H locs eg10 hP hD hS => ?_)
      have hP : va_P (dC, dI) vwCl [(a 0, .inr (11, [.ref (a 1), .ref (a 2), .ref (a 3), .ref (a 4), .int M_isSaved, .int M_changes, .int M_isWithin, .int M_code, .ref (a 5), .int M_length, .int M_fault, .int M_failed, .ref (a 6), .int M_signMany, .ref (a 7), .ref (a 8), .int M_many, .ref (a 9), .ref (a 10), .int w2, .ref (a 11), .int M_toldMany])), (a 1, .inl (Y 0, 238, .inl M_g)), (a 2, .inl (Y 0, 1904, .inl M_kept)), (a 3, .inl (Y 0, 238, .inl M_saved)), (a 4, .inl (Y 0, 238, .inl M_before)), (a 5, .inl (Y 0, 60, .inl M_input)), (a 6, .inl (Y 2, 100, .inl M_signs)), (a 7, .inl (Y 0, 6, .inl M_column)), (a 8, .inl (Y 0, 6, .inl M_loads)), (a 9, .inl (Y 0, 2048, .inl M_sums)), (a 10, .inl (Y 0, 2048, .inl M_groups)), (a 11, .inl (Y 0, 155, .inl g10))] H := hP
      have hD : va_D A [(a 0, .inr (11, [.ref (a 1), .ref (a 2), .ref (a 3), .ref (a 4), .int M_isSaved, .int M_changes, .int M_isWithin, .int M_code, .ref (a 5), .int M_length, .int M_fault, .int M_failed, .ref (a 6), .int M_signMany, .ref (a 7), .ref (a 8), .int M_many, .ref (a 9), .ref (a 10), .int w2, .ref (a 11), .int M_toldMany])), (a 1, .inl (Y 0, 238, .inl M_g)), (a 2, .inl (Y 0, 1904, .inl M_kept)), (a 3, .inl (Y 0, 238, .inl M_saved)), (a 4, .inl (Y 0, 238, .inl M_before)), (a 5, .inl (Y 0, 60, .inl M_input)), (a 6, .inl (Y 2, 100, .inl M_signs)), (a 7, .inl (Y 0, 6, .inl M_column)), (a 8, .inl (Y 0, 6, .inl M_loads)), (a 9, .inl (Y 0, 2048, .inl M_sums)), (a 10, .inl (Y 0, 2048, .inl M_groups)), (a 11, .inl (Y 0, 155, .inl g10))] := hD
      have hf := wkl_s hf eg10
      refine lv_iconst (v := 0) hx hb dX11_figures_31 (by decide) ?_
      refine lv_istore (lv' := [(4, .int 0), (0, .ref (a 0)), (1, .int x1), (2, .int x2), (3, .int x3)]) hx hb dX11_figures_32 hl (by decide) rfl (fun ls hl => ?_)
      exact wl_X11_figures_L34 C0 hK hA FU 0 w2 g10 hf H locs hP hD hS ls (lv_sub hl [1, 3, 4, 0] rfl)
    · have hf := wk_t hf q9
      refine lv_iconst (v := 0) hx hb dX11_figures_22 (by decide) ?_
      obtain ⟨e0, e1, e2⟩ := wke3 hf
      subst e0
      subst e1
      subst e2
      have hP9 := hP.sub (ws' := (wX11 Y a M_g M_kept M_saved M_before M_isSaved M_changes M_isWithin M_code M_input M_length M_fault M_failed M_signs M_signMany M_column M_loads M_many M_sums M_groups w2 M_told M_toldMany)) [0, 1, 2, 3, 4, 5, 6, 7, 8, 9, 10, 11] rfl
      have hD9 := hD.sub (ws' := (wX11 Y a M_g M_kept M_saved M_before M_isSaved M_changes M_isWithin M_code M_input M_length M_fault M_failed M_signs M_signMany M_column M_loads M_many M_sums M_groups w2 M_told M_toldMany)) [0, 1, 2, 3, 4, 5, 6, 7, 8, 9, 10, 11] (by decide) rfl
      exact W.zret (v := 0) (ty := .boolean) hx hb hr rfl (fun t ht hW => ⟨⟨0, (), rfl, rfl, by rw [ht]; exact hP9, va_K.moved hW.alike hK, hD9⟩, hS.F ht⟩) hS.2.2 dX11_figures_23
theorem lk_X11_digits_RX11_48 : Cond.fieldLink RX11 48 "CircusLedgerModel" "told" "[I" ∈ wsX11_digits := by decide +kernel
theorem lk_X11_digits_RX11_204 : Cond.fieldLink RX11 204 "CircusLedgerModel" "at" "I" ∈ wsX11_digits := by decide +kernel
theorem in_X11_digits_X11 : ∀ w ∈ u_ws RX11 TX11 22, w ∈ wsX11_digits := by decide +kernel
def f_X11_digits_L35 (M_input : Nat → Int32) (M_length : Int32) (x1 : Int32) : Nat → Int32 → Int32 → (Nat → Int32) → Option (Int32 × Int32 × (Nat → Int32))
  | 0, _, _, _ => none
  | nn + 1, x2, M_at, M_told =>
    wkb1 (f_X11_here M_input M_length M_at) (fun r1 =>
    wkb1 (f_X11_in r1 (x2 + 1) 57) (fun r3 =>
    if r3 = 0 then
      (some (1, M_at, M_told))
    else
      (wkb1 (f_X11_here M_input M_length M_at) (fun r6 =>
      gin x1 155 (wkl (((M_told x1.toNatClampNeg) ||| ((1 : Int32) <<< ((r6 - 48) &&& 31)))) (fun v9 =>
      gin x1 155 (wkl (upd M_told x1.toNatClampNeg v9) (fun g10 =>
      wkl ((M_at + 1)) (fun v12 =>
      f_X11_digits_L35 M_input M_length x1 nn r6 v12 g10)))))))))
def f_X11_digits (M_input : Nat → Int32) (M_length : Int32) (M_at : Int32) (M_told : Nat → Int32) (x1 : Int32) : Option (Int32 × Int32 × (Nat → Int32)) :=
  wkb2 (f_X11_skips M_input M_length M_at 32) (fun r1 w2 =>
  if r1 = 0 then
    (some (0, w2, M_told))
  else
    (wkb1 (f_X11_here M_input M_length w2) (fun r5 =>
    wkb1 (f_X11_in r5 48 57) (fun r7 =>
    if r7 = 0 then
      (some (0, w2, M_told))
    else
      (gin x1 155 (wkl (upd M_told x1.toNatClampNeg 0) (fun g10 =>
      f_X11_digits_L35 M_input M_length x1 FU 47 w2 g10)))))))
set_option maxHeartbeats 4000000 in
set_option maxRecDepth 100000 in
theorem wl_X11_digits_L35 {p : Program} {l : Launch} {e : Env} {s : State} {m : MethodId} {args : Array Value} {below : List Frame} {meth : Method} {c : Code} {dC : Nat → ClassId} {dI : Nat → Nat → Nat} {Y : Nat → ClassId} {a : Nat → Nat} {M_g : Nat → Int32} {M_kept : Nat → Int32} {M_saved : Nat → Int32} {M_before : Nat → Int32} {M_isSaved : Int32} {M_changes : Int32} {M_isWithin : Int32} {M_code : Int32} {M_input : Nat → Int32} {M_length : Int32} {M_fault : Int32} {M_failed : Int32} {M_signs : Nat → Int32} {M_signMany : Int32} {M_column : Nat → Int32} {M_loads : Nat → Int32} {M_many : Int32} {M_sums : Nat → Int32} {M_groups : Nat → Int32} {M_toldMany : Int32} {x1 : Int32} {r : Int32} {zM_at : Int32} {zM_told : Nat → Int32}  (C0 : wk_C p s m args meth c cX11_digits 3 (some .boolean) wsX11_digits RX11) {A : Nat → Prop} (hK : va_K (dC, dI) vwCl (vTy Y) s) (hA : ∀ q, s.heap.size ≤ q → A q) : ∀ (nn : Nat) (x2 : Int32)  (M_at : Int32) (M_told : Nat → Int32), f_X11_digits_L35 M_input M_length x1 nn x2 M_at M_told = some (r, zM_at, zM_told) → ∀ (H : Heap) (locs : List Loc), va_P (dC, dI) vwCl (wX11 Y a M_g M_kept M_saved M_before M_isSaved M_changes M_isWithin M_code M_input M_length M_fault M_failed M_signs M_signMany M_column M_loads M_many M_sums M_groups M_at M_told M_toldMany) H → va_D A (wX11 Y a M_g M_kept M_saved M_before M_isSaved M_changes M_isWithin M_code M_input M_length M_fault M_failed M_signs M_signMany M_column M_loads M_many M_sums M_groups M_at M_told M_toldMany) → va_S A s.heap H locs → ∀ (ls : Array Slot), lv_has ls 3 [(0, .ref (a 0)), (1, .int x1), (2, .int x2)] → W p l e (headSpec wsX11_digits ({ frames := 2, cells := 0, slots := 0, locals := 41 } : Room)).room s m args below meth c H locs 0 0 (MQ below (va_Qi (fun r2 (_ : Unit) => r2 = r) (fun _ t => wk_X (dC, dI) Y (wX11 Y a M_g M_kept M_saved M_before M_isSaved M_changes M_isWithin M_code M_input M_length M_fault M_failed M_signs M_signMany M_column M_loads M_many M_sums M_groups zM_at zM_told M_toldMany) A t) A) args s 0 0 A) (F0 m 35 ls []) := by
  have C0 := C0
  obtain ⟨hx, hb, hml, hr, hlocks, hown, hts⟩ := id C0
  intro nn
  induction nn with
  | zero =>
    intro x2 M_at M_told hf
    rw [f_X11_digits_L35] at hf
    cases hf
  | succ nn ih =>
    intro x2 M_at M_told hf H locs hP hD hS ls hl
    rw [f_X11_digits_L35] at hf
    have hP : va_P (dC, dI) vwCl [(a 0, .inr (11, [.ref (a 1), .ref (a 2), .ref (a 3), .ref (a 4), .int M_isSaved, .int M_changes, .int M_isWithin, .int M_code, .ref (a 5), .int M_length, .int M_fault, .int M_failed, .ref (a 6), .int M_signMany, .ref (a 7), .ref (a 8), .int M_many, .ref (a 9), .ref (a 10), .int M_at, .ref (a 11), .int M_toldMany])), (a 1, .inl (Y 0, 238, .inl M_g)), (a 2, .inl (Y 0, 1904, .inl M_kept)), (a 3, .inl (Y 0, 238, .inl M_saved)), (a 4, .inl (Y 0, 238, .inl M_before)), (a 5, .inl (Y 0, 60, .inl M_input)), (a 6, .inl (Y 2, 100, .inl M_signs)), (a 7, .inl (Y 0, 6, .inl M_column)), (a 8, .inl (Y 0, 6, .inl M_loads)), (a 9, .inl (Y 0, 2048, .inl M_sums)), (a 10, .inl (Y 0, 2048, .inl M_groups)), (a 11, .inl (Y 0, 155, .inl M_told))] H := hP
    have hD : va_D A [(a 0, .inr (11, [.ref (a 1), .ref (a 2), .ref (a 3), .ref (a 4), .int M_isSaved, .int M_changes, .int M_isWithin, .int M_code, .ref (a 5), .int M_length, .int M_fault, .int M_failed, .ref (a 6), .int M_signMany, .ref (a 7), .ref (a 8), .int M_many, .ref (a 9), .ref (a 10), .int M_at, .ref (a 11), .int M_toldMany])), (a 1, .inl (Y 0, 238, .inl M_g)), (a 2, .inl (Y 0, 1904, .inl M_kept)), (a 3, .inl (Y 0, 238, .inl M_saved)), (a 4, .inl (Y 0, 238, .inl M_before)), (a 5, .inl (Y 0, 60, .inl M_input)), (a 6, .inl (Y 2, 100, .inl M_signs)), (a 7, .inl (Y 0, 6, .inl M_column)), (a 8, .inl (Y 0, 6, .inl M_loads)), (a 9, .inl (Y 0, 2048, .inl M_sums)), (a 10, .inl (Y 0, 2048, .inl M_groups)), (a 11, .inl (Y 0, 155, .inl M_told))] := hD
    refine lv_aload_n hx hb dX11_digits_35 rfl (lv_at hl 0 rfl) ?_
    obtain ⟨r1, hr2, hf⟩ := wkb1_s hf
    have hPc := hP.sub (ws' := (wX11 Y a M_g M_kept M_saved M_before M_isSaved M_changes M_isWithin M_code M_input M_length M_fault M_failed M_signs M_signMany M_column M_loads M_many M_sums M_groups M_at M_told M_toldMany)) [0, 1, 2, 3, 4, 5, 6, 7, 8, 9, 10, 11] rfl
    refine wk_vi (As := []) (rest := []) ⟨hx, hb, hml, hown, hts⟩ (c_X11_here l dC dI Y a M_g M_kept M_saved M_before M_isSaved M_changes M_isWithin M_code M_input M_length M_fault M_failed M_signs M_signMany M_column M_loads M_many M_sums M_groups M_at M_told M_toldMany r1 hr2) (cwV 0 hts gX11_digits_X11_here rfl rfl rfl (by decide +kernel) ⟨Nat.le_of_ble_eq_true rfl, Nat.le_of_ble_eq_true rfl⟩) hK hPc (va_recv hK hP (ci := 11) (q0 := 0) rfl rfl) rfl hl.1 rfl (Nat.le_of_ble_eq_true rfl) dX11_digits_36 ⟨Nat.le_of_ble_eq_true rfl, Nat.le_of_ble_eq_true rfl⟩ ?_
    refine lv_iload_n hx hb dX11_digits_39 rfl (lv_at hl 2 rfl) ?_
    refine lv_iconst (v := 1) hx hb dX11_digits_40 (by decide) ?_
    refine lv_iadd hx hb dX11_digits_41 ?_
    refine lv_bipush (v := 57) hx hb dX11_digits_42 (by decide) ?_
    obtain ⟨r3, hr4, hf⟩ := wkb1_s hf
    have hPc := hP.sub (ws' := ([] : va_W)) [] rfl
    refine wk_si (As := [.int r1, .int (x2 + 1), .int 57]) (rest := []) ⟨hx, hb, hml, hown, hts⟩ (c_X11_in l dC dI Y r1 (x2 + 1) 57 r3 hr4) (va_cwS 3 hts gX11_digits_X11_in rfl rfl rfl (by decide +kernel) ⟨Nat.le_of_ble_eq_true rfl, Nat.le_of_ble_eq_true rfl⟩) hK hPc rfl hl.1 rfl (Nat.le_of_ble_eq_true rfl) dX11_digits_44 ⟨Nat.le_of_ble_eq_true rfl, Nat.le_of_ble_eq_true rfl⟩ ?_
    refine lv_if_eq (tgt := 83) hx hb dX11_digits_47 (by decide) (fun q5 => ?_) (fun q5 => ?_)
    · have hf := wk_t hf q5
      refine lv_iconst (v := 1) hx hb dX11_digits_83 (by decide) ?_
      obtain ⟨e0, e1, e2⟩ := wke3 hf
      subst e0
      subst e1
      subst e2
      have hP9 := hP.sub (ws' := (wX11 Y a M_g M_kept M_saved M_before M_isSaved M_changes M_isWithin M_code M_input M_length M_fault M_failed M_signs M_signMany M_column M_loads M_many M_sums M_groups M_at M_told M_toldMany)) [0, 1, 2, 3, 4, 5, 6, 7, 8, 9, 10, 11] rfl
      have hD9 := hD.sub (ws' := (wX11 Y a M_g M_kept M_saved M_before M_isSaved M_changes M_isWithin M_code M_input M_length M_fault M_failed M_signs M_signMany M_column M_loads M_many M_sums M_groups M_at M_told M_toldMany)) [0, 1, 2, 3, 4, 5, 6, 7, 8, 9, 10, 11] (by decide) rfl
      exact W.zret (v := 1) (ty := .boolean) hx hb hr rfl (fun t ht hW => ⟨⟨1, (), rfl, rfl, by rw [ht]; exact hP9, va_K.moved hW.alike hK, hD9⟩, hS.F ht⟩) hS.2.2 dX11_digits_84
    · have hf := wk_f hf q5
      refine lv_aload_n hx hb dX11_digits_50 rfl (lv_at hl 0 rfl) ?_
      obtain ⟨r6, hr7, hf⟩ := wkb1_s hf
      have hPc := hP.sub (ws' := (wX11 Y a M_g M_kept M_saved M_before M_isSaved M_changes M_isWithin M_code M_input M_length M_fault M_failed M_signs M_signMany M_column M_loads M_many M_sums M_groups M_at M_told M_toldMany)) [0, 1, 2, 3, 4, 5, 6, 7, 8, 9, 10, 11] rfl
      refine wk_vi (As := []) (rest := []) ⟨hx, hb, hml, hown, hts⟩ (c_X11_here l dC dI Y a M_g M_kept M_saved M_before M_isSaved M_changes M_isWithin M_code M_input M_length M_fault M_failed M_signs M_signMany M_column M_loads M_many M_sums M_groups M_at M_told M_toldMany r6 hr7) (cwV 0 hts gX11_digits_X11_here rfl rfl rfl (by decide +kernel) ⟨Nat.le_of_ble_eq_true rfl, Nat.le_of_ble_eq_true rfl⟩) hK hPc (va_recv hK hP (ci := 11) (q0 := 0) rfl rfl) rfl hl.1 rfl (Nat.le_of_ble_eq_true rfl) dX11_digits_51 ⟨Nat.le_of_ble_eq_true rfl, Nat.le_of_ble_eq_true rfl⟩ ?_
      refine lv_istore_n (lv' := [(2, .int r6), (0, .ref (a 0)), (1, .int x1)]) hx hb dX11_digits_54 rfl hl (by decide) rfl (fun ls hl => ?_)
      refine lv_aload_n hx hb dX11_digits_55 rfl (lv_at hl 1 rfl) ?_
      refine va_get (D := (dC, dI)) (ci := 11) (v := .ref (a 11)) (C := RX11) (T := TX11) (N := 22) hx hb hts in_X11_digits_X11 hown hK hP 0 rfl rfl 20 (by decide) (hts _ lk_X11_digits_RX11_48) (fun _ h9 => h9) rfl dX11_digits_56 ?_
      refine lv_iload_n hx hb dX11_digits_59 rfl (lv_at hl 2 rfl) ?_
      refine lv_dup2_11 hx hb dX11_digits_60 rfl rfl ?_
      obtain ⟨h8, hf⟩ := gin_s hf
      refine wk_iald hx hb hK hP 11 0 rfl rfl h8 rfl dX11_digits_61 ?_
      refine lv_iconst (v := 1) hx hb dX11_digits_62 (by decide) ?_
      refine lv_iload_n hx hb dX11_digits_63 rfl (lv_at hl 0 rfl) ?_
      refine lv_bipush (v := 48) hx hb dX11_digits_64 (by decide) ?_
      refine lv_isub hx hb dX11_digits_66 ?_
      refine lv_ishl hx hb dX11_digits_67 ?_
      refine lv_ior hx hb dX11_digits_68 ?_
      refine lv_topi (fun v9 ev9 => ?_)
      have hf := wkl_s hf ev9
      obtain ⟨h11, hf⟩ := gin_s hf
      refine wk_iast hx hb hK hP hD hS 11 0 (k := x1.toNatClampNeg) rfl rfl h11 rfl dX11_digits_69 (fun g10 H locs eg10 hP hD hS => ?_)
      have hP : va_P (dC, dI) vwCl [(a 0, .inr (11, [.ref (a 1), .ref (a 2), .ref (a 3), .ref (a 4), .int M_isSaved, .int M_changes, .int M_isWithin, .int M_code, .ref (a 5), .int M_length, .int M_fault, .int M_failed, .ref (a 6), .int M_signMany, .ref (a 7), .ref (a 8), .int M_many, .ref (a 9), .ref (a 10), .int M_at, .ref (a 11), .int M_toldMany])), (a 1, .inl (Y 0, 238, .inl M_g)), (a 2, .inl (Y 0, 1904, .inl M_kept)), (a 3, .inl (Y 0, 238, .inl M_saved)), (a 4, .inl (Y 0, 238, .inl M_before)), (a 5, .inl (Y 0, 60, .inl M_input)), (a 6, .inl (Y 2, 100, .inl M_signs)), (a 7, .inl (Y 0, 6, .inl M_column)), (a 8, .inl (Y 0, 6, .inl M_loads)), (a 9, .inl (Y 0, 2048, .inl M_sums)), (a 10, .inl (Y 0, 2048, .inl M_groups)), (a 11, .inl (Y 0, 155, .inl g10))] H := hP
      have hD : va_D A [(a 0, .inr (11, [.ref (a 1), .ref (a 2), .ref (a 3), .ref (a 4), .int M_isSaved, .int M_changes, .int M_isWithin, .int M_code, .ref (a 5), .int M_length, .int M_fault, .int M_failed, .ref (a 6), .int M_signMany, .ref (a 7), .ref (a 8), .int M_many, .ref (a 9), .ref (a 10), .int M_at, .ref (a 11), .int M_toldMany])), (a 1, .inl (Y 0, 238, .inl M_g)), (a 2, .inl (Y 0, 1904, .inl M_kept)), (a 3, .inl (Y 0, 238, .inl M_saved)), (a 4, .inl (Y 0, 238, .inl M_before)), (a 5, .inl (Y 0, 60, .inl M_input)), (a 6, .inl (Y 2, 100, .inl M_signs)), (a 7, .inl (Y 0, 6, .inl M_column)), (a 8, .inl (Y 0, 6, .inl M_loads)), (a 9, .inl (Y 0, 2048, .inl M_sums)), (a 10, .inl (Y 0, 2048, .inl M_groups)), (a 11, .inl (Y 0, 155, .inl g10))] := hD
      have hf := wkl_s hf eg10
      refine lv_aload_n hx hb dX11_digits_70 rfl (lv_at hl 1 rfl) ?_
      refine lv_dup hx hb dX11_digits_71 rfl ?_
      refine va_get (D := (dC, dI)) (ci := 11) (v := .int M_at) (C := RX11) (T := TX11) (N := 22) hx hb hts in_X11_digits_X11 hown hK hP 0 rfl rfl 19 (by decide) (hts _ lk_X11_digits_RX11_204) (fun _ h9 => h9) rfl dX11_digits_72 ?_
      refine lv_iconst (v := 1) hx hb dX11_digits_75 (by decide) ?_
      refine lv_iadd hx hb dX11_digits_76 ?_
      refine lv_topi (fun v12 ev12 => ?_)
      have hf := wkl_s hf ev12
      refine va_put (D := (dC, dI)) (ci := 11) (v := .int v12) (ty := .int) (C := RX11) (T := TX11) (N := 22) hx hb hts in_X11_digits_X11 tyX11 tyX11_ok nmX11 hown hK hP hD hS 0 rfl rfl 19 (by decide) (hts _ lk_X11_digits_RX11_204) (fun _ h9 => h9) rfl (by decide +kernel) rfl rfl (Nat.le_of_ble_eq_true rfl) dX11_digits_77 (fun H locs hP hD hS => ?_)
      have hP : va_P (dC, dI) vwCl [(a 0, .inr (11, [.ref (a 1), .ref (a 2), .ref (a 3), .ref (a 4), .int M_isSaved, .int M_changes, .int M_isWithin, .int M_code, .ref (a 5), .int M_length, .int M_fault, .int M_failed, .ref (a 6), .int M_signMany, .ref (a 7), .ref (a 8), .int M_many, .ref (a 9), .ref (a 10), .int v12, .ref (a 11), .int M_toldMany])), (a 1, .inl (Y 0, 238, .inl M_g)), (a 2, .inl (Y 0, 1904, .inl M_kept)), (a 3, .inl (Y 0, 238, .inl M_saved)), (a 4, .inl (Y 0, 238, .inl M_before)), (a 5, .inl (Y 0, 60, .inl M_input)), (a 6, .inl (Y 2, 100, .inl M_signs)), (a 7, .inl (Y 0, 6, .inl M_column)), (a 8, .inl (Y 0, 6, .inl M_loads)), (a 9, .inl (Y 0, 2048, .inl M_sums)), (a 10, .inl (Y 0, 2048, .inl M_groups)), (a 11, .inl (Y 0, 155, .inl g10))] H := hP
      have hD : va_D A [(a 0, .inr (11, [.ref (a 1), .ref (a 2), .ref (a 3), .ref (a 4), .int M_isSaved, .int M_changes, .int M_isWithin, .int M_code, .ref (a 5), .int M_length, .int M_fault, .int M_failed, .ref (a 6), .int M_signMany, .ref (a 7), .ref (a 8), .int M_many, .ref (a 9), .ref (a 10), .int v12, .ref (a 11), .int M_toldMany])), (a 1, .inl (Y 0, 238, .inl M_g)), (a 2, .inl (Y 0, 1904, .inl M_kept)), (a 3, .inl (Y 0, 238, .inl M_saved)), (a 4, .inl (Y 0, 238, .inl M_before)), (a 5, .inl (Y 0, 60, .inl M_input)), (a 6, .inl (Y 2, 100, .inl M_signs)), (a 7, .inl (Y 0, 6, .inl M_column)), (a 8, .inl (Y 0, 6, .inl M_loads)), (a 9, .inl (Y 0, 2048, .inl M_sums)), (a 10, .inl (Y 0, 2048, .inl M_groups)), (a 11, .inl (Y 0, 155, .inl g10))] := hD
      refine lv_goto (tgt := 35) hx hb dX11_digits_80 (by decide) ?_
      exact ih r6 v12 g10 hf H locs hP hD hS ls (lv_sub hl [1, 2, 0] rfl)
set_option maxHeartbeats 4000000 in
set_option maxRecDepth 100000 in
theorem c_X11_digits (l : Launch) (dC : Nat → ClassId) (dI : Nat → Nat → Nat) (Y : Nat → ClassId) (a : Nat → Nat) (M_g : Nat → Int32) (M_kept : Nat → Int32) (M_saved : Nat → Int32) (M_before : Nat → Int32) (M_isSaved : Int32) (M_changes : Int32) (M_isWithin : Int32) (M_code : Int32) (M_input : Nat → Int32) (M_length : Int32) (M_fault : Int32) (M_failed : Int32) (M_signs : Nat → Int32) (M_signMany : Int32) (M_column : Nat → Int32) (M_loads : Nat → Int32) (M_many : Int32) (M_sums : Nat → Int32) (M_groups : Nat → Int32) (M_at : Int32) (M_told : Nat → Int32) (M_toldMany : Int32) (x1 : Int32) (sz : Nat) (r : Int32) (zM_at : Int32) (zM_told : Nat → Int32) (hf : f_X11_digits M_input M_length M_at M_told x1 = some (r, zM_at, zM_told)) : Met l yX11_digits wsX11_digits ({ frames := 2, cells := 0, slots := 0, locals := 41 } : Room) (va_Pc [.ref (a 0), .int x1] (wk_E (dC, dI) Y (wX11 Y a M_g M_kept M_saved M_before M_isSaved M_changes M_isWithin M_code M_input M_length M_fault M_failed M_signs M_signMany M_column M_loads M_many M_sums M_groups M_at M_told M_toldMany) sz)) (va_Qi (fun r2 (_ : Unit) => r2 = r) (fun _ t => wk_X (dC, dI) Y (wX11 Y a M_g M_kept M_saved M_before M_isSaved M_changes M_isWithin M_code M_input M_length M_fault M_failed M_signs M_signMany M_column M_loads M_many M_sums M_groups zM_at zM_told M_toldMany) (va_A (wX11 Y a M_g M_kept M_saved M_before M_isSaved M_changes M_isWithin M_code M_input M_length M_fault M_failed M_signs M_signMany M_column M_loads M_many M_sums M_groups M_at M_told M_toldMany) sz) t) (va_A (wX11 Y a M_g M_kept M_saved M_before M_isSaved M_changes M_isWithin M_code M_input M_length M_fault M_failed M_signs M_signMany M_column M_loads M_many M_sums M_groups M_at M_told M_toldMany) sz)) 0 0 (va_A (wX11 Y a M_g M_kept M_saved M_before M_isSaved M_changes M_isWithin M_code M_input M_length M_fault M_failed M_signs M_signMany M_column M_loads M_many M_sums M_groups M_at M_told M_toldMany) sz) := by
  refine Met.ofW (cc := cX11_digits) (maxL := 3) (ret := (some .boolean)) (by decide) rfl ?_
  intro p e s m args below meth c s₁ B hml hv
  obtain ⟨rfl, hsz, hP, hK, hD0⟩ := hv
  have hx := B.exec
  have hb := B.bytes
  have hr := B.returns
  have hts := atoms_spec (ws := wsX11_digits) B.pre
  have hown : s.vm.findClass RX11 = some m.cls := findClass_of_methodNamed B.named
  have hlocks := B.notSynchronized
  have C0 : wk_C p s m _ meth c cX11_digits 3 (some .boolean) wsX11_digits RX11 := ⟨hx, hb, hml, hr, hlocks, hown, hts⟩
  subst hsz
  have hD := hD0.self (sz := s.heap.size)
  generalize hAe : va_A (wX11 Y a M_g M_kept M_saved M_before M_isSaved M_changes M_isWithin M_code M_input M_length M_fault M_failed M_signs M_signMany M_column M_loads M_many M_sums M_groups M_at M_told M_toldMany) s.heap.size = A at hD ⊢
  have hA : ∀ q : Nat, s.heap.size ≤ q → A q := fun q h => by rw [← hAe]; exact Or.inr h
  have hS : va_S A s.heap s.heap [] := va_S.rf
  obtain ⟨H, hHe⟩ : ∃ H, H = s.heap := ⟨_, rfl⟩
  have hS : va_S A s.heap H [] := by rw [hHe]; exact hS
  have hP : va_P (dC, dI) vwCl [(a 0, .inr (11, [.ref (a 1), .ref (a 2), .ref (a 3), .ref (a 4), .int M_isSaved, .int M_changes, .int M_isWithin, .int M_code, .ref (a 5), .int M_length, .int M_fault, .int M_failed, .ref (a 6), .int M_signMany, .ref (a 7), .ref (a 8), .int M_many, .ref (a 9), .ref (a 10), .int M_at, .ref (a 11), .int M_toldMany])), (a 1, .inl (Y 0, 238, .inl M_g)), (a 2, .inl (Y 0, 1904, .inl M_kept)), (a 3, .inl (Y 0, 238, .inl M_saved)), (a 4, .inl (Y 0, 238, .inl M_before)), (a 5, .inl (Y 0, 60, .inl M_input)), (a 6, .inl (Y 2, 100, .inl M_signs)), (a 7, .inl (Y 0, 6, .inl M_column)), (a 8, .inl (Y 0, 6, .inl M_loads)), (a 9, .inl (Y 0, 2048, .inl M_sums)), (a 10, .inl (Y 0, 2048, .inl M_groups)), (a 11, .inl (Y 0, 155, .inl M_told))] H := by rw [hHe]; exact hP
  have hD : va_D A [(a 0, .inr (11, [.ref (a 1), .ref (a 2), .ref (a 3), .ref (a 4), .int M_isSaved, .int M_changes, .int M_isWithin, .int M_code, .ref (a 5), .int M_length, .int M_fault, .int M_failed, .ref (a 6), .int M_signMany, .ref (a 7), .ref (a 8), .int M_many, .ref (a 9), .ref (a 10), .int M_at, .ref (a 11), .int M_toldMany])), (a 1, .inl (Y 0, 238, .inl M_g)), (a 2, .inl (Y 0, 1904, .inl M_kept)), (a 3, .inl (Y 0, 238, .inl M_saved)), (a 4, .inl (Y 0, 238, .inl M_before)), (a 5, .inl (Y 0, 60, .inl M_input)), (a 6, .inl (Y 2, 100, .inl M_signs)), (a 7, .inl (Y 0, 6, .inl M_column)), (a 8, .inl (Y 0, 6, .inl M_loads)), (a 9, .inl (Y 0, 2048, .inl M_sums)), (a 10, .inl (Y 0, 2048, .inl M_groups)), (a 11, .inl (Y 0, 155, .inl M_told))] := hD
  obtain ⟨locs, hlo⟩ : ∃ locs : List Loc, locs = [] := ⟨_, rfl⟩
  have hS : va_S A s.heap H locs := by rw [hlo]; exact hS
  have hl := lv_entry ([.ref (a 0), .int x1]) (n := 3) (Nat.le_of_ble_eq_true rfl)
  rw [lg_entry_eq]
  generalize (lg_sl ([.ref (a 0), .int x1]) ++ List.replicate (3 - (lg_sl ([.ref (a 0), .int x1])).length) Slot.unset).toArray = ls at hl ⊢
  have hl : lv_has ls 3 [(0, .ref (a 0)), (1, .int x1)] := hl
  refine wk_start hHe hlo ?_
  rw [f_X11_digits] at hf
  refine lv_aload_n hx hb dX11_digits_0 rfl (lv_at hl 0 rfl) ?_
  refine lv_bipush (v := 32) hx hb dX11_digits_1 (by decide) ?_
  obtain ⟨r1, w2, hr3, hf⟩ := wkb2_s hf
  refine wk_evi (As := [.int 32]) (rest := []) (wc := (wX11 Y a M_g M_kept M_saved M_before M_isSaved M_changes M_isWithin M_code M_input M_length M_fault M_failed M_signs M_signMany M_column M_loads M_many M_sums M_groups M_at M_told M_toldMany)) (w1 := (wX11 Y a M_g M_kept M_saved M_before M_isSaved M_changes M_isWithin M_code M_input M_length M_fault M_failed M_signs M_signMany M_column M_loads M_many M_sums M_groups w2 M_told M_toldMany)) (wr := []) ⟨hx, hb, hml, hown, hts⟩ (c_X11_skips l dC dI Y a M_g M_kept M_saved M_before M_isSaved M_changes M_isWithin M_code M_input M_length M_fault M_failed M_signs M_signMany M_column M_loads M_many M_sums M_groups M_at M_told M_toldMany 32 H.size r1 w2 hr3) (cwV 1 hts gX11_digits_X11_skips rfl rfl rfl (by decide +kernel) ⟨Nat.le_of_ble_eq_true rfl, Nat.le_of_ble_eq_true rfl⟩) hK hP hD hS hA [0, 1, 2, 3, 4, 5, 6, 7, 8, 9, 10, 11] [] rfl rfl (by decide) (by decide) (by decide) (va_recv hK hP (ci := 11) (q0 := 0) rfl rfl) rfl hl.1 rfl (Nat.le_of_ble_eq_true rfl) dX11_digits_3 ⟨Nat.le_of_ble_eq_true rfl, Nat.le_of_ble_eq_true rfl⟩ (fun H locs hP hD hS => ?_)
  have hP : va_P (dC, dI) vwCl [(a 0, .inr (11, [.ref (a 1), .ref (a 2), .ref (a 3), .ref (a 4), .int M_isSaved, .int M_changes, .int M_isWithin, .int M_code, .ref (a 5), .int M_length, .int M_fault, .int M_failed, .ref (a 6), .int M_signMany, .ref (a 7), .ref (a 8), .int M_many, .ref (a 9), .ref (a 10), .int w2, .ref (a 11), .int M_toldMany])), (a 1, .inl (Y 0, 238, .inl M_g)), (a 2, .inl (Y 0, 1904, .inl M_kept)), (a 3, .inl (Y 0, 238, .inl M_saved)), (a 4, .inl (Y 0, 238, .inl M_before)), (a 5, .inl (Y 0, 60, .inl M_input)), (a 6, .inl (Y 2, 100, .inl M_signs)), (a 7, .inl (Y 0, 6, .inl M_column)), (a 8, .inl (Y 0, 6, .inl M_loads)), (a 9, .inl (Y 0, 2048, .inl M_sums)), (a 10, .inl (Y 0, 2048, .inl M_groups)), (a 11, .inl (Y 0, 155, .inl M_told))] H := hP
  have hD : va_D A [(a 0, .inr (11, [.ref (a 1), .ref (a 2), .ref (a 3), .ref (a 4), .int M_isSaved, .int M_changes, .int M_isWithin, .int M_code, .ref (a 5), .int M_length, .int M_fault, .int M_failed, .ref (a 6), .int M_signMany, .ref (a 7), .ref (a 8), .int M_many, .ref (a 9), .ref (a 10), .int w2, .ref (a 11), .int M_toldMany])), (a 1, .inl (Y 0, 238, .inl M_g)), (a 2, .inl (Y 0, 1904, .inl M_kept)), (a 3, .inl (Y 0, 238, .inl M_saved)), (a 4, .inl (Y 0, 238, .inl M_before)), (a 5, .inl (Y 0, 60, .inl M_input)), (a 6, .inl (Y 2, 100, .inl M_signs)), (a 7, .inl (Y 0, 6, .inl M_column)), (a 8, .inl (Y 0, 6, .inl M_loads)), (a 9, .inl (Y 0, 2048, .inl M_sums)), (a 10, .inl (Y 0, 2048, .inl M_groups)), (a 11, .inl (Y 0, 155, .inl M_told))] := hD
  refine lv_if_eq (tgt := 23) hx hb dX11_digits_6 (by decide) (fun q4 => ?_) (fun q4 => ?_)
  · have hf := wk_t hf q4
    refine lv_iconst (v := 0) hx hb dX11_digits_23 (by decide) ?_
    obtain ⟨e0, e1, e2⟩ := wke3 hf
    subst e0
    subst e1
    subst e2
    have hP9 := hP.sub (ws' := (wX11 Y a M_g M_kept M_saved M_before M_isSaved M_changes M_isWithin M_code M_input M_length M_fault M_failed M_signs M_signMany M_column M_loads M_many M_sums M_groups w2 M_told M_toldMany)) [0, 1, 2, 3, 4, 5, 6, 7, 8, 9, 10, 11] rfl
    have hD9 := hD.sub (ws' := (wX11 Y a M_g M_kept M_saved M_before M_isSaved M_changes M_isWithin M_code M_input M_length M_fault M_failed M_signs M_signMany M_column M_loads M_many M_sums M_groups w2 M_told M_toldMany)) [0, 1, 2, 3, 4, 5, 6, 7, 8, 9, 10, 11] (by decide) rfl
    exact W.zret (v := 0) (ty := .boolean) hx hb hr rfl (fun t ht hW => ⟨⟨0, (), rfl, rfl, by rw [ht]; exact hP9, va_K.moved hW.alike hK, hD9⟩, hS.F ht⟩) hS.2.2 dX11_digits_24
  · have hf := wk_f hf q4
    refine lv_aload_n hx hb dX11_digits_9 rfl (lv_at hl 0 rfl) ?_
    obtain ⟨r5, hr6, hf⟩ := wkb1_s hf
    have hPc := hP.sub (ws' := (wX11 Y a M_g M_kept M_saved M_before M_isSaved M_changes M_isWithin M_code M_input M_length M_fault M_failed M_signs M_signMany M_column M_loads M_many M_sums M_groups w2 M_told M_toldMany)) [0, 1, 2, 3, 4, 5, 6, 7, 8, 9, 10, 11] rfl
    refine wk_vi (As := []) (rest := []) ⟨hx, hb, hml, hown, hts⟩ (c_X11_here l dC dI Y a M_g M_kept M_saved M_before M_isSaved M_changes M_isWithin M_code M_input M_length M_fault M_failed M_signs M_signMany M_column M_loads M_many M_sums M_groups w2 M_told M_toldMany r5 hr6) (cwV 0 hts gX11_digits_X11_here rfl rfl rfl (by decide +kernel) ⟨Nat.le_of_ble_eq_true rfl, Nat.le_of_ble_eq_true rfl⟩) hK hPc (va_recv hK hP (ci := 11) (q0 := 0) rfl rfl) rfl hl.1 rfl (Nat.le_of_ble_eq_true rfl) dX11_digits_10 ⟨Nat.le_of_ble_eq_true rfl, Nat.le_of_ble_eq_true rfl⟩ ?_
    refine lv_bipush (v := 48) hx hb dX11_digits_13 (by decide) ?_
    refine lv_bipush (v := 57) hx hb dX11_digits_15 (by decide) ?_
    obtain ⟨r7, hr8, hf⟩ := wkb1_s hf
    have hPc := hP.sub (ws' := ([] : va_W)) [] rfl
    refine wk_si (As := [.int r5, .int 48, .int 57]) (rest := []) ⟨hx, hb, hml, hown, hts⟩ (c_X11_in l dC dI Y r5 48 57 r7 hr8) (va_cwS 3 hts gX11_digits_X11_in rfl rfl rfl (by decide +kernel) ⟨Nat.le_of_ble_eq_true rfl, Nat.le_of_ble_eq_true rfl⟩) hK hPc rfl hl.1 rfl (Nat.le_of_ble_eq_true rfl) dX11_digits_17 ⟨Nat.le_of_ble_eq_true rfl, Nat.le_of_ble_eq_true rfl⟩ ?_
    refine lv_if_ne (tgt := 25) hx hb dX11_digits_20 (by decide) (fun q9 => ?_) (fun q9 => ?_)
    · have hf := wk_f hf q9
      refine lv_bipush (v := 47) hx hb dX11_digits_25 (by decide) ?_
      refine lv_istore_n (lv' := [(2, .int 47), (0, .ref (a 0)), (1, .int x1)]) hx hb dX11_digits_27 rfl hl (by decide) rfl (fun ls hl => ?_)
      refine lv_aload_n hx hb dX11_digits_28 rfl (lv_at hl 1 rfl) ?_
      refine va_get (D := (dC, dI)) (ci := 11) (v := .ref (a 11)) (C := RX11) (T := TX11) (N := 22) hx hb hts in_X11_digits_X11 hown hK hP 0 rfl rfl 20 (by decide) (hts _ lk_X11_digits_RX11_48) (fun _ h9 => h9) rfl dX11_digits_29 ?_
      refine lv_iload_n hx hb dX11_digits_32 rfl (lv_at hl 2 rfl) ?_
      refine lv_iconst (v := 0) hx hb dX11_digits_33 (by decide) ?_
      obtain ⟨h11, hf⟩ := gin_s hf
      refine wk_iast hx hb hK hP hD hS 11 0 (k := x1.toNatClampNeg) rfl rfl h11 rfl dX11_digits_34 (fun g10 H locs eg10 hP hD hS => ?_)
      have hP : va_P (dC, dI) vwCl [(a 0, .inr (11, [.ref (a 1), .ref (a 2), .ref (a 3), .ref (a 4), .int M_isSaved, .int M_changes, .int M_isWithin, .int M_code, .ref (a 5), .int M_length, .int M_fault, .int M_failed, .ref (a 6), .int M_signMany, .ref (a 7), .ref (a 8), .int M_many, .ref (a 9), .ref (a 10), .int w2, .ref (a 11), .int M_toldMany])), (a 1, .inl (Y 0, 238, .inl M_g)), (a 2, .inl (Y 0, 1904, .inl M_kept)), (a 3, .inl (Y 0, 238, .inl M_saved)), (a 4, .inl (Y 0, 238, .inl M_before)), (a 5, .inl (Y 0, 60, .inl M_input)), (a 6, .inl (Y 2, 100, .inl M_signs)), (a 7, .inl (Y 0, 6, .inl M_column)), (a 8, .inl (Y 0, 6, .inl M_loads)), (a 9, .inl (Y 0, 2048, .inl M_sums)), (a 10, .inl (Y 0, 2048, .inl M_groups)), (a 11, .inl (Y 0, 155, .inl g10))] H := hP
      have hD : va_D A [(a 0, .inr (11, [.ref (a 1), .ref (a 2), .ref (a 3), .ref (a 4), .int M_isSaved, .int M_changes, .int M_isWithin, .int M_code, .ref (a 5), .int M_length, .int M_fault, .int M_failed, .ref (a 6), .int M_signMany, .ref (a 7), .ref (a 8), .int M_many, .ref (a 9), .ref (a 10), .int w2, .ref (a 11), .int M_toldMany])), (a 1, .inl (Y 0, 238, .inl M_g)), (a 2, .inl (Y 0, 1904, .inl M_kept)), (a 3, .inl (Y 0, 238, .inl M_saved)), (a 4, .inl (Y 0, 238, .inl M_before)), (a 5, .inl (Y 0, 60, .inl M_input)), (a 6, .inl (Y 2, 100, .inl M_signs)), (a 7, .inl (Y 0, 6, .inl M_column)), (a 8, .inl (Y 0, 6, .inl M_loads)), (a 9, .inl (Y 0, 2048, .inl M_sums)), (a 10, .inl (Y 0, 2048, .inl M_groups)), (a 11, .inl (Y 0, 155, .inl g10))] := hD
      have hf := wkl_s hf eg10
      exact wl_X11_digits_L35 C0 hK hA FU 47 w2 g10 hf H locs hP hD hS ls (lv_sub hl [1, 2, 0] rfl)
    · have hf := wk_t hf q9
      refine lv_iconst (v := 0) hx hb dX11_digits_23 (by decide) ?_
      obtain ⟨e0, e1, e2⟩ := wke3 hf
      subst e0
      subst e1
      subst e2
      have hP9 := hP.sub (ws' := (wX11 Y a M_g M_kept M_saved M_before M_isSaved M_changes M_isWithin M_code M_input M_length M_fault M_failed M_signs M_signMany M_column M_loads M_many M_sums M_groups w2 M_told M_toldMany)) [0, 1, 2, 3, 4, 5, 6, 7, 8, 9, 10, 11] rfl
      have hD9 := hD.sub (ws' := (wX11 Y a M_g M_kept M_saved M_before M_isSaved M_changes M_isWithin M_code M_input M_length M_fault M_failed M_signs M_signMany M_column M_loads M_many M_sums M_groups w2 M_told M_toldMany)) [0, 1, 2, 3, 4, 5, 6, 7, 8, 9, 10, 11] (by decide) rfl
      exact W.zret (v := 0) (ty := .boolean) hx hb hr rfl (fun t ht hW => ⟨⟨0, (), rfl, rfl, by rw [ht]; exact hP9, va_K.moved hW.alike hK, hD9⟩, hS.F ht⟩) hS.2.2 dX11_digits_24
theorem lk_X11_errorPosition_RX11_25 : Cond.fieldLink RX11 25 "CircusLedgerModel" "fault" "I" ∈ wsX11_errorPosition := by decide +kernel
theorem in_X11_errorPosition_X11 : ∀ w ∈ u_ws RX11 TX11 22, w ∈ wsX11_errorPosition := by decide +kernel
def f_X11_errorPosition (M_code : Int32) (M_fault : Int32) : Option (Int32 × Int32) :=
  if (0 : Int32) ≤ M_fault then
    (wkb2 (f_X11_fails M_code 0) (fun r2 w3 =>
    if r2 = 0 then
      (some (M_fault, w3))
    else
      (some (0, w3))))
  else
    (wkb2 (f_X11_fails M_code 1) (fun r6 w7 =>
    if r6 = 0 then
      (some (M_fault, w7))
    else
      (some (0, w7))))
set_option maxHeartbeats 4000000 in
set_option maxRecDepth 100000 in
theorem c_X11_errorPosition (l : Launch) (dC : Nat → ClassId) (dI : Nat → Nat → Nat) (Y : Nat → ClassId) (a : Nat → Nat) (M_g : Nat → Int32) (M_kept : Nat → Int32) (M_saved : Nat → Int32) (M_before : Nat → Int32) (M_isSaved : Int32) (M_changes : Int32) (M_isWithin : Int32) (M_code : Int32) (M_input : Nat → Int32) (M_length : Int32) (M_fault : Int32) (M_failed : Int32) (M_signs : Nat → Int32) (M_signMany : Int32) (M_column : Nat → Int32) (M_loads : Nat → Int32) (M_many : Int32) (M_sums : Nat → Int32) (M_groups : Nat → Int32) (M_at : Int32) (M_told : Nat → Int32) (M_toldMany : Int32)  (sz : Nat) (r : Int32) (zM_code : Int32) (hf : f_X11_errorPosition M_code M_fault = some (r, zM_code)) : Met l yX11_errorPosition wsX11_errorPosition ({ frames := 1, cells := 0, slots := 0, locals := 21 } : Room) (va_Pc [.ref (a 0)] (wk_E (dC, dI) Y (wX11 Y a M_g M_kept M_saved M_before M_isSaved M_changes M_isWithin M_code M_input M_length M_fault M_failed M_signs M_signMany M_column M_loads M_many M_sums M_groups M_at M_told M_toldMany) sz)) (va_Qi (fun r2 (_ : Unit) => r2 = r) (fun _ t => wk_X (dC, dI) Y (wX11 Y a M_g M_kept M_saved M_before M_isSaved M_changes M_isWithin zM_code M_input M_length M_fault M_failed M_signs M_signMany M_column M_loads M_many M_sums M_groups M_at M_told M_toldMany) (va_A (wX11 Y a M_g M_kept M_saved M_before M_isSaved M_changes M_isWithin M_code M_input M_length M_fault M_failed M_signs M_signMany M_column M_loads M_many M_sums M_groups M_at M_told M_toldMany) sz) t) (va_A (wX11 Y a M_g M_kept M_saved M_before M_isSaved M_changes M_isWithin M_code M_input M_length M_fault M_failed M_signs M_signMany M_column M_loads M_many M_sums M_groups M_at M_told M_toldMany) sz)) 0 0 (va_A (wX11 Y a M_g M_kept M_saved M_before M_isSaved M_changes M_isWithin M_code M_input M_length M_fault M_failed M_signs M_signMany M_column M_loads M_many M_sums M_groups M_at M_told M_toldMany) sz) := by
  refine Met.ofW (cc := cX11_errorPosition) (maxL := 1) (ret := (some .int)) (by decide) rfl ?_
  intro p e s m args below meth c s₁ B hml hv
  obtain ⟨rfl, hsz, hP, hK, hD0⟩ := hv
  have hx := B.exec
  have hb := B.bytes
  have hr := B.returns
  have hts := atoms_spec (ws := wsX11_errorPosition) B.pre
  have hown : s.vm.findClass RX11 = some m.cls := findClass_of_methodNamed B.named
  have hlocks := B.notSynchronized
  have C0 : wk_C p s m _ meth c cX11_errorPosition 1 (some .int) wsX11_errorPosition RX11 := ⟨hx, hb, hml, hr, hlocks, hown, hts⟩
  subst hsz
  have hD := hD0.self (sz := s.heap.size)
  generalize hAe : va_A (wX11 Y a M_g M_kept M_saved M_before M_isSaved M_changes M_isWithin M_code M_input M_length M_fault M_failed M_signs M_signMany M_column M_loads M_many M_sums M_groups M_at M_told M_toldMany) s.heap.size = A at hD ⊢
  have hA : ∀ q : Nat, s.heap.size ≤ q → A q := fun q h => by rw [← hAe]; exact Or.inr h
  have hS : va_S A s.heap s.heap [] := va_S.rf
  obtain ⟨H, hHe⟩ : ∃ H, H = s.heap := ⟨_, rfl⟩
  have hS : va_S A s.heap H [] := by rw [hHe]; exact hS
  have hP : va_P (dC, dI) vwCl [(a 0, .inr (11, [.ref (a 1), .ref (a 2), .ref (a 3), .ref (a 4), .int M_isSaved, .int M_changes, .int M_isWithin, .int M_code, .ref (a 5), .int M_length, .int M_fault, .int M_failed, .ref (a 6), .int M_signMany, .ref (a 7), .ref (a 8), .int M_many, .ref (a 9), .ref (a 10), .int M_at, .ref (a 11), .int M_toldMany])), (a 1, .inl (Y 0, 238, .inl M_g)), (a 2, .inl (Y 0, 1904, .inl M_kept)), (a 3, .inl (Y 0, 238, .inl M_saved)), (a 4, .inl (Y 0, 238, .inl M_before)), (a 5, .inl (Y 0, 60, .inl M_input)), (a 6, .inl (Y 2, 100, .inl M_signs)), (a 7, .inl (Y 0, 6, .inl M_column)), (a 8, .inl (Y 0, 6, .inl M_loads)), (a 9, .inl (Y 0, 2048, .inl M_sums)), (a 10, .inl (Y 0, 2048, .inl M_groups)), (a 11, .inl (Y 0, 155, .inl M_told))] H := by rw [hHe]; exact hP
  have hD : va_D A [(a 0, .inr (11, [.ref (a 1), .ref (a 2), .ref (a 3), .ref (a 4), .int M_isSaved, .int M_changes, .int M_isWithin, .int M_code, .ref (a 5), .int M_length, .int M_fault, .int M_failed, .ref (a 6), .int M_signMany, .ref (a 7), .ref (a 8), .int M_many, .ref (a 9), .ref (a 10), .int M_at, .ref (a 11), .int M_toldMany])), (a 1, .inl (Y 0, 238, .inl M_g)), (a 2, .inl (Y 0, 1904, .inl M_kept)), (a 3, .inl (Y 0, 238, .inl M_saved)), (a 4, .inl (Y 0, 238, .inl M_before)), (a 5, .inl (Y 0, 60, .inl M_input)), (a 6, .inl (Y 2, 100, .inl M_signs)), (a 7, .inl (Y 0, 6, .inl M_column)), (a 8, .inl (Y 0, 6, .inl M_loads)), (a 9, .inl (Y 0, 2048, .inl M_sums)), (a 10, .inl (Y 0, 2048, .inl M_groups)), (a 11, .inl (Y 0, 155, .inl M_told))] := hD
  obtain ⟨locs, hlo⟩ : ∃ locs : List Loc, locs = [] := ⟨_, rfl⟩
  have hS : va_S A s.heap H locs := by rw [hlo]; exact hS
  have hl := lv_entry ([.ref (a 0)]) (n := 1) (Nat.le_of_ble_eq_true rfl)
  rw [lg_entry_eq]
  generalize (lg_sl ([.ref (a 0)]) ++ List.replicate (1 - (lg_sl ([.ref (a 0)])).length) Slot.unset).toArray = ls at hl ⊢
  have hl : lv_has ls 1 [(0, .ref (a 0))] := hl
  refine wk_start hHe hlo ?_
  rw [f_X11_errorPosition] at hf
  refine lv_aload_n hx hb dX11_errorPosition_0 rfl (lv_at hl 0 rfl) ?_
  refine lv_aload_n hx hb dX11_errorPosition_1 rfl (lv_at hl 0 rfl) ?_
  refine va_get (D := (dC, dI)) (ci := 11) (v := .int M_fault) (C := RX11) (T := TX11) (N := 22) hx hb hts in_X11_errorPosition_X11 hown hK hP 0 rfl rfl 10 (by decide) (hts _ lk_X11_errorPosition_RX11_25) (fun _ h9 => h9) rfl dX11_errorPosition_2 ?_
  refine lv_if_ge (tgt := 12) hx hb dX11_errorPosition_5 (by decide) (fun q1 => ?_) (fun q1 => ?_)
  · have hf := wk_t hf q1
    refine lv_iconst (v := 0) hx hb dX11_errorPosition_12 (by decide) ?_
    obtain ⟨r2, w3, hr4, hf⟩ := wkb2_s hf
    refine wk_evi (As := [.int 0]) (rest := []) (wc := (wX11 Y a M_g M_kept M_saved M_before M_isSaved M_changes M_isWithin M_code M_input M_length M_fault M_failed M_signs M_signMany M_column M_loads M_many M_sums M_groups M_at M_told M_toldMany)) (w1 := (wX11 Y a M_g M_kept M_saved M_before M_isSaved M_changes M_isWithin w3 M_input M_length M_fault M_failed M_signs M_signMany M_column M_loads M_many M_sums M_groups M_at M_told M_toldMany)) (wr := []) ⟨hx, hb, hml, hown, hts⟩ (c_X11_fails l dC dI Y a M_g M_kept M_saved M_before M_isSaved M_changes M_isWithin M_code M_input M_length M_fault M_failed M_signs M_signMany M_column M_loads M_many M_sums M_groups M_at M_told M_toldMany 0 H.size r2 w3 hr4) (cwV 1 hts gX11_errorPosition_X11_fails rfl rfl rfl (by decide +kernel) ⟨Nat.le_of_ble_eq_true rfl, Nat.le_of_ble_eq_true rfl⟩) hK hP hD hS hA [0, 1, 2, 3, 4, 5, 6, 7, 8, 9, 10, 11] [] rfl rfl (by decide) (by decide) (by decide) (va_recv hK hP (ci := 11) (q0 := 0) rfl rfl) rfl hl.1 rfl (Nat.le_of_ble_eq_true rfl) dX11_errorPosition_13 ⟨Nat.le_of_ble_eq_true rfl, Nat.le_of_ble_eq_true rfl⟩ (fun H locs hP hD hS => ?_)
    have hP : va_P (dC, dI) vwCl [(a 0, .inr (11, [.ref (a 1), .ref (a 2), .ref (a 3), .ref (a 4), .int M_isSaved, .int M_changes, .int M_isWithin, .int w3, .ref (a 5), .int M_length, .int M_fault, .int M_failed, .ref (a 6), .int M_signMany, .ref (a 7), .ref (a 8), .int M_many, .ref (a 9), .ref (a 10), .int M_at, .ref (a 11), .int M_toldMany])), (a 1, .inl (Y 0, 238, .inl M_g)), (a 2, .inl (Y 0, 1904, .inl M_kept)), (a 3, .inl (Y 0, 238, .inl M_saved)), (a 4, .inl (Y 0, 238, .inl M_before)), (a 5, .inl (Y 0, 60, .inl M_input)), (a 6, .inl (Y 2, 100, .inl M_signs)), (a 7, .inl (Y 0, 6, .inl M_column)), (a 8, .inl (Y 0, 6, .inl M_loads)), (a 9, .inl (Y 0, 2048, .inl M_sums)), (a 10, .inl (Y 0, 2048, .inl M_groups)), (a 11, .inl (Y 0, 155, .inl M_told))] H := hP
    have hD : va_D A [(a 0, .inr (11, [.ref (a 1), .ref (a 2), .ref (a 3), .ref (a 4), .int M_isSaved, .int M_changes, .int M_isWithin, .int w3, .ref (a 5), .int M_length, .int M_fault, .int M_failed, .ref (a 6), .int M_signMany, .ref (a 7), .ref (a 8), .int M_many, .ref (a 9), .ref (a 10), .int M_at, .ref (a 11), .int M_toldMany])), (a 1, .inl (Y 0, 238, .inl M_g)), (a 2, .inl (Y 0, 1904, .inl M_kept)), (a 3, .inl (Y 0, 238, .inl M_saved)), (a 4, .inl (Y 0, 238, .inl M_before)), (a 5, .inl (Y 0, 60, .inl M_input)), (a 6, .inl (Y 2, 100, .inl M_signs)), (a 7, .inl (Y 0, 6, .inl M_column)), (a 8, .inl (Y 0, 6, .inl M_loads)), (a 9, .inl (Y 0, 2048, .inl M_sums)), (a 10, .inl (Y 0, 2048, .inl M_groups)), (a 11, .inl (Y 0, 155, .inl M_told))] := hD
    refine lv_if_eq (tgt := 23) hx hb dX11_errorPosition_16 (by decide) (fun q5 => ?_) (fun q5 => ?_)
    · have hf := wk_t hf q5
      refine lv_aload_n hx hb dX11_errorPosition_23 rfl (lv_at hl 0 rfl) ?_
      refine va_get (D := (dC, dI)) (ci := 11) (v := .int M_fault) (C := RX11) (T := TX11) (N := 22) hx hb hts in_X11_errorPosition_X11 hown hK hP 0 rfl rfl 10 (by decide) (hts _ lk_X11_errorPosition_RX11_25) (fun _ h9 => h9) rfl dX11_errorPosition_24 ?_
      obtain ⟨e0, e1⟩ := wke2 hf
      subst e0
      subst e1
      have hP9 := hP.sub (ws' := (wX11 Y a M_g M_kept M_saved M_before M_isSaved M_changes M_isWithin w3 M_input M_length M_fault M_failed M_signs M_signMany M_column M_loads M_many M_sums M_groups M_at M_told M_toldMany)) [0, 1, 2, 3, 4, 5, 6, 7, 8, 9, 10, 11] rfl
      have hD9 := hD.sub (ws' := (wX11 Y a M_g M_kept M_saved M_before M_isSaved M_changes M_isWithin w3 M_input M_length M_fault M_failed M_signs M_signMany M_column M_loads M_many M_sums M_groups M_at M_told M_toldMany)) [0, 1, 2, 3, 4, 5, 6, 7, 8, 9, 10, 11] (by decide) rfl
      exact W.iret (v := M_fault) hx hb hr (fun t ht hW => ⟨⟨M_fault, (), rfl, rfl, by rw [ht]; exact hP9, va_K.moved hW.alike hK, hD9⟩, hS.F ht⟩) hS.2.2 dX11_errorPosition_27
    · have hf := wk_f hf q5
      refine lv_iconst (v := 0) hx hb dX11_errorPosition_19 (by decide) ?_
      refine lv_goto (tgt := 27) hx hb dX11_errorPosition_20 (by decide) ?_
      obtain ⟨e0, e1⟩ := wke2 hf
      subst e0
      subst e1
      have hP9 := hP.sub (ws' := (wX11 Y a M_g M_kept M_saved M_before M_isSaved M_changes M_isWithin w3 M_input M_length M_fault M_failed M_signs M_signMany M_column M_loads M_many M_sums M_groups M_at M_told M_toldMany)) [0, 1, 2, 3, 4, 5, 6, 7, 8, 9, 10, 11] rfl
      have hD9 := hD.sub (ws' := (wX11 Y a M_g M_kept M_saved M_before M_isSaved M_changes M_isWithin w3 M_input M_length M_fault M_failed M_signs M_signMany M_column M_loads M_many M_sums M_groups M_at M_told M_toldMany)) [0, 1, 2, 3, 4, 5, 6, 7, 8, 9, 10, 11] (by decide) rfl
      exact W.iret (v := 0) hx hb hr (fun t ht hW => ⟨⟨0, (), rfl, rfl, by rw [ht]; exact hP9, va_K.moved hW.alike hK, hD9⟩, hS.F ht⟩) hS.2.2 dX11_errorPosition_27
  · have hf := wk_f hf q1
    refine lv_iconst (v := 1) hx hb dX11_errorPosition_8 (by decide) ?_
    refine lv_goto (tgt := 13) hx hb dX11_errorPosition_9 (by decide) ?_
    obtain ⟨r6, w7, hr8, hf⟩ := wkb2_s hf
    refine wk_evi (As := [.int 1]) (rest := []) (wc := (wX11 Y a M_g M_kept M_saved M_before M_isSaved M_changes M_isWithin M_code M_input M_length M_fault M_failed M_signs M_signMany M_column M_loads M_many M_sums M_groups M_at M_told M_toldMany)) (w1 := (wX11 Y a M_g M_kept M_saved M_before M_isSaved M_changes M_isWithin w7 M_input M_length M_fault M_failed M_signs M_signMany M_column M_loads M_many M_sums M_groups M_at M_told M_toldMany)) (wr := []) ⟨hx, hb, hml, hown, hts⟩ (c_X11_fails l dC dI Y a M_g M_kept M_saved M_before M_isSaved M_changes M_isWithin M_code M_input M_length M_fault M_failed M_signs M_signMany M_column M_loads M_many M_sums M_groups M_at M_told M_toldMany 1 H.size r6 w7 hr8) (cwV 1 hts gX11_errorPosition_X11_fails rfl rfl rfl (by decide +kernel) ⟨Nat.le_of_ble_eq_true rfl, Nat.le_of_ble_eq_true rfl⟩) hK hP hD hS hA [0, 1, 2, 3, 4, 5, 6, 7, 8, 9, 10, 11] [] rfl rfl (by decide) (by decide) (by decide) (va_recv hK hP (ci := 11) (q0 := 0) rfl rfl) rfl hl.1 rfl (Nat.le_of_ble_eq_true rfl) dX11_errorPosition_13 ⟨Nat.le_of_ble_eq_true rfl, Nat.le_of_ble_eq_true rfl⟩ (fun H locs hP hD hS => ?_)
    have hP : va_P (dC, dI) vwCl [(a 0, .inr (11, [.ref (a 1), .ref (a 2), .ref (a 3), .ref (a 4), .int M_isSaved, .int M_changes, .int M_isWithin, .int w7, .ref (a 5), .int M_length, .int M_fault, .int M_failed, .ref (a 6), .int M_signMany, .ref (a 7), .ref (a 8), .int M_many, .ref (a 9), .ref (a 10), .int M_at, .ref (a 11), .int M_toldMany])), (a 1, .inl (Y 0, 238, .inl M_g)), (a 2, .inl (Y 0, 1904, .inl M_kept)), (a 3, .inl (Y 0, 238, .inl M_saved)), (a 4, .inl (Y 0, 238, .inl M_before)), (a 5, .inl (Y 0, 60, .inl M_input)), (a 6, .inl (Y 2, 100, .inl M_signs)), (a 7, .inl (Y 0, 6, .inl M_column)), (a 8, .inl (Y 0, 6, .inl M_loads)), (a 9, .inl (Y 0, 2048, .inl M_sums)), (a 10, .inl (Y 0, 2048, .inl M_groups)), (a 11, .inl (Y 0, 155, .inl M_told))] H := hP
    have hD : va_D A [(a 0, .inr (11, [.ref (a 1), .ref (a 2), .ref (a 3), .ref (a 4), .int M_isSaved, .int M_changes, .int M_isWithin, .int w7, .ref (a 5), .int M_length, .int M_fault, .int M_failed, .ref (a 6), .int M_signMany, .ref (a 7), .ref (a 8), .int M_many, .ref (a 9), .ref (a 10), .int M_at, .ref (a 11), .int M_toldMany])), (a 1, .inl (Y 0, 238, .inl M_g)), (a 2, .inl (Y 0, 1904, .inl M_kept)), (a 3, .inl (Y 0, 238, .inl M_saved)), (a 4, .inl (Y 0, 238, .inl M_before)), (a 5, .inl (Y 0, 60, .inl M_input)), (a 6, .inl (Y 2, 100, .inl M_signs)), (a 7, .inl (Y 0, 6, .inl M_column)), (a 8, .inl (Y 0, 6, .inl M_loads)), (a 9, .inl (Y 0, 2048, .inl M_sums)), (a 10, .inl (Y 0, 2048, .inl M_groups)), (a 11, .inl (Y 0, 155, .inl M_told))] := hD
    refine lv_if_eq (tgt := 23) hx hb dX11_errorPosition_16 (by decide) (fun q9 => ?_) (fun q9 => ?_)
    · have hf := wk_t hf q9
      refine lv_aload_n hx hb dX11_errorPosition_23 rfl (lv_at hl 0 rfl) ?_
      refine va_get (D := (dC, dI)) (ci := 11) (v := .int M_fault) (C := RX11) (T := TX11) (N := 22) hx hb hts in_X11_errorPosition_X11 hown hK hP 0 rfl rfl 10 (by decide) (hts _ lk_X11_errorPosition_RX11_25) (fun _ h9 => h9) rfl dX11_errorPosition_24 ?_
      obtain ⟨e0, e1⟩ := wke2 hf
      subst e0
      subst e1
      have hP9 := hP.sub (ws' := (wX11 Y a M_g M_kept M_saved M_before M_isSaved M_changes M_isWithin w7 M_input M_length M_fault M_failed M_signs M_signMany M_column M_loads M_many M_sums M_groups M_at M_told M_toldMany)) [0, 1, 2, 3, 4, 5, 6, 7, 8, 9, 10, 11] rfl
      have hD9 := hD.sub (ws' := (wX11 Y a M_g M_kept M_saved M_before M_isSaved M_changes M_isWithin w7 M_input M_length M_fault M_failed M_signs M_signMany M_column M_loads M_many M_sums M_groups M_at M_told M_toldMany)) [0, 1, 2, 3, 4, 5, 6, 7, 8, 9, 10, 11] (by decide) rfl
      exact W.iret (v := M_fault) hx hb hr (fun t ht hW => ⟨⟨M_fault, (), rfl, rfl, by rw [ht]; exact hP9, va_K.moved hW.alike hK, hD9⟩, hS.F ht⟩) hS.2.2 dX11_errorPosition_27
    · have hf := wk_f hf q9
      refine lv_iconst (v := 0) hx hb dX11_errorPosition_19 (by decide) ?_
      refine lv_goto (tgt := 27) hx hb dX11_errorPosition_20 (by decide) ?_
      obtain ⟨e0, e1⟩ := wke2 hf
      subst e0
      subst e1
      have hP9 := hP.sub (ws' := (wX11 Y a M_g M_kept M_saved M_before M_isSaved M_changes M_isWithin w7 M_input M_length M_fault M_failed M_signs M_signMany M_column M_loads M_many M_sums M_groups M_at M_told M_toldMany)) [0, 1, 2, 3, 4, 5, 6, 7, 8, 9, 10, 11] rfl
      have hD9 := hD.sub (ws' := (wX11 Y a M_g M_kept M_saved M_before M_isSaved M_changes M_isWithin w7 M_input M_length M_fault M_failed M_signs M_signMany M_column M_loads M_many M_sums M_groups M_at M_told M_toldMany)) [0, 1, 2, 3, 4, 5, 6, 7, 8, 9, 10, 11] (by decide) rfl
      exact W.iret (v := 0) hx hb hr (fun t ht hW => ⟨⟨0, (), rfl, rfl, by rw [ht]; exact hP9, va_K.moved hW.alike hK, hD9⟩, hS.F ht⟩) hS.2.2 dX11_errorPosition_27
theorem lk_X11_failedCommand_RX11_29 : Cond.fieldLink RX11 29 "CircusLedgerModel" "failed" "I" ∈ wsX11_failedCommand := by decide +kernel
theorem in_X11_failedCommand_X11 : ∀ w ∈ u_ws RX11 TX11 22, w ∈ wsX11_failedCommand := by decide +kernel
def f_X11_failedCommand (M_code : Int32) (M_failed : Int32) : Option (Int32 × Int32) :=
  if (0 : Int32) ≤ M_failed then
    (wkb2 (f_X11_fails M_code 0) (fun r2 w3 =>
    if r2 = 0 then
      (some (M_failed, w3))
    else
      (some (0, w3))))
  else
    (wkb2 (f_X11_fails M_code 1) (fun r6 w7 =>
    if r6 = 0 then
      (some (M_failed, w7))
    else
      (some (0, w7))))
set_option maxHeartbeats 4000000 in
set_option maxRecDepth 100000 in
theorem c_X11_failedCommand (l : Launch) (dC : Nat → ClassId) (dI : Nat → Nat → Nat) (Y : Nat → ClassId) (a : Nat → Nat) (M_g : Nat → Int32) (M_kept : Nat → Int32) (M_saved : Nat → Int32) (M_before : Nat → Int32) (M_isSaved : Int32) (M_changes : Int32) (M_isWithin : Int32) (M_code : Int32) (M_input : Nat → Int32) (M_length : Int32) (M_fault : Int32) (M_failed : Int32) (M_signs : Nat → Int32) (M_signMany : Int32) (M_column : Nat → Int32) (M_loads : Nat → Int32) (M_many : Int32) (M_sums : Nat → Int32) (M_groups : Nat → Int32) (M_at : Int32) (M_told : Nat → Int32) (M_toldMany : Int32)  (sz : Nat) (r : Int32) (zM_code : Int32) (hf : f_X11_failedCommand M_code M_failed = some (r, zM_code)) : Met l yX11_failedCommand wsX11_failedCommand ({ frames := 1, cells := 0, slots := 0, locals := 21 } : Room) (va_Pc [.ref (a 0)] (wk_E (dC, dI) Y (wX11 Y a M_g M_kept M_saved M_before M_isSaved M_changes M_isWithin M_code M_input M_length M_fault M_failed M_signs M_signMany M_column M_loads M_many M_sums M_groups M_at M_told M_toldMany) sz)) (va_Qi (fun r2 (_ : Unit) => r2 = r) (fun _ t => wk_X (dC, dI) Y (wX11 Y a M_g M_kept M_saved M_before M_isSaved M_changes M_isWithin zM_code M_input M_length M_fault M_failed M_signs M_signMany M_column M_loads M_many M_sums M_groups M_at M_told M_toldMany) (va_A (wX11 Y a M_g M_kept M_saved M_before M_isSaved M_changes M_isWithin M_code M_input M_length M_fault M_failed M_signs M_signMany M_column M_loads M_many M_sums M_groups M_at M_told M_toldMany) sz) t) (va_A (wX11 Y a M_g M_kept M_saved M_before M_isSaved M_changes M_isWithin M_code M_input M_length M_fault M_failed M_signs M_signMany M_column M_loads M_many M_sums M_groups M_at M_told M_toldMany) sz)) 0 0 (va_A (wX11 Y a M_g M_kept M_saved M_before M_isSaved M_changes M_isWithin M_code M_input M_length M_fault M_failed M_signs M_signMany M_column M_loads M_many M_sums M_groups M_at M_told M_toldMany) sz) := by
  refine Met.ofW (cc := cX11_failedCommand) (maxL := 1) (ret := (some .int)) (by decide) rfl ?_
  intro p e s m args below meth c s₁ B hml hv
  obtain ⟨rfl, hsz, hP, hK, hD0⟩ := hv
  have hx := B.exec
  have hb := B.bytes
  have hr := B.returns
  have hts := atoms_spec (ws := wsX11_failedCommand) B.pre
  have hown : s.vm.findClass RX11 = some m.cls := findClass_of_methodNamed B.named
  have hlocks := B.notSynchronized
  have C0 : wk_C p s m _ meth c cX11_failedCommand 1 (some .int) wsX11_failedCommand RX11 := ⟨hx, hb, hml, hr, hlocks, hown, hts⟩
  subst hsz
  have hD := hD0.self (sz := s.heap.size)
  generalize hAe : va_A (wX11 Y a M_g M_kept M_saved M_before M_isSaved M_changes M_isWithin M_code M_input M_length M_fault M_failed M_signs M_signMany M_column M_loads M_many M_sums M_groups M_at M_told M_toldMany) s.heap.size = A at hD ⊢
  have hA : ∀ q : Nat, s.heap.size ≤ q → A q := fun q h => by rw [← hAe]; exact Or.inr h
  have hS : va_S A s.heap s.heap [] := va_S.rf
  obtain ⟨H, hHe⟩ : ∃ H, H = s.heap := ⟨_, rfl⟩
  have hS : va_S A s.heap H [] := by rw [hHe]; exact hS
  have hP : va_P (dC, dI) vwCl [(a 0, .inr (11, [.ref (a 1), .ref (a 2), .ref (a 3), .ref (a 4), .int M_isSaved, .int M_changes, .int M_isWithin, .int M_code, .ref (a 5), .int M_length, .int M_fault, .int M_failed, .ref (a 6), .int M_signMany, .ref (a 7), .ref (a 8), .int M_many, .ref (a 9), .ref (a 10), .int M_at, .ref (a 11), .int M_toldMany])), (a 1, .inl (Y 0, 238, .inl M_g)), (a 2, .inl (Y 0, 1904, .inl M_kept)), (a 3, .inl (Y 0, 238, .inl M_saved)), (a 4, .inl (Y 0, 238, .inl M_before)), (a 5, .inl (Y 0, 60, .inl M_input)), (a 6, .inl (Y 2, 100, .inl M_signs)), (a 7, .inl (Y 0, 6, .inl M_column)), (a 8, .inl (Y 0, 6, .inl M_loads)), (a 9, .inl (Y 0, 2048, .inl M_sums)), (a 10, .inl (Y 0, 2048, .inl M_groups)), (a 11, .inl (Y 0, 155, .inl M_told))] H := by rw [hHe]; exact hP
  have hD : va_D A [(a 0, .inr (11, [.ref (a 1), .ref (a 2), .ref (a 3), .ref (a 4), .int M_isSaved, .int M_changes, .int M_isWithin, .int M_code, .ref (a 5), .int M_length, .int M_fault, .int M_failed, .ref (a 6), .int M_signMany, .ref (a 7), .ref (a 8), .int M_many, .ref (a 9), .ref (a 10), .int M_at, .ref (a 11), .int M_toldMany])), (a 1, .inl (Y 0, 238, .inl M_g)), (a 2, .inl (Y 0, 1904, .inl M_kept)), (a 3, .inl (Y 0, 238, .inl M_saved)), (a 4, .inl (Y 0, 238, .inl M_before)), (a 5, .inl (Y 0, 60, .inl M_input)), (a 6, .inl (Y 2, 100, .inl M_signs)), (a 7, .inl (Y 0, 6, .inl M_column)), (a 8, .inl (Y 0, 6, .inl M_loads)), (a 9, .inl (Y 0, 2048, .inl M_sums)), (a 10, .inl (Y 0, 2048, .inl M_groups)), (a 11, .inl (Y 0, 155, .inl M_told))] := hD
  obtain ⟨locs, hlo⟩ : ∃ locs : List Loc, locs = [] := ⟨_, rfl⟩
  have hS : va_S A s.heap H locs := by rw [hlo]; exact hS
  have hl := lv_entry ([.ref (a 0)]) (n := 1) (Nat.le_of_ble_eq_true rfl)
  rw [lg_entry_eq]
  generalize (lg_sl ([.ref (a 0)]) ++ List.replicate (1 - (lg_sl ([.ref (a 0)])).length) Slot.unset).toArray = ls at hl ⊢
  have hl : lv_has ls 1 [(0, .ref (a 0))] := hl
  refine wk_start hHe hlo ?_
  rw [f_X11_failedCommand] at hf
  refine lv_aload_n hx hb dX11_failedCommand_0 rfl (lv_at hl 0 rfl) ?_
  refine lv_aload_n hx hb dX11_failedCommand_1 rfl (lv_at hl 0 rfl) ?_
  refine va_get (D := (dC, dI)) (ci := 11) (v := .int M_failed) (C := RX11) (T := TX11) (N := 22) hx hb hts in_X11_failedCommand_X11 hown hK hP 0 rfl rfl 11 (by decide) (hts _ lk_X11_failedCommand_RX11_29) (fun _ h9 => h9) rfl dX11_failedCommand_2 ?_
  refine lv_if_ge (tgt := 12) hx hb dX11_failedCommand_5 (by decide) (fun q1 => ?_) (fun q1 => ?_)
  · have hf := wk_t hf q1
    refine lv_iconst (v := 0) hx hb dX11_failedCommand_12 (by decide) ?_
    obtain ⟨r2, w3, hr4, hf⟩ := wkb2_s hf
    refine wk_evi (As := [.int 0]) (rest := []) (wc := (wX11 Y a M_g M_kept M_saved M_before M_isSaved M_changes M_isWithin M_code M_input M_length M_fault M_failed M_signs M_signMany M_column M_loads M_many M_sums M_groups M_at M_told M_toldMany)) (w1 := (wX11 Y a M_g M_kept M_saved M_before M_isSaved M_changes M_isWithin w3 M_input M_length M_fault M_failed M_signs M_signMany M_column M_loads M_many M_sums M_groups M_at M_told M_toldMany)) (wr := []) ⟨hx, hb, hml, hown, hts⟩ (c_X11_fails l dC dI Y a M_g M_kept M_saved M_before M_isSaved M_changes M_isWithin M_code M_input M_length M_fault M_failed M_signs M_signMany M_column M_loads M_many M_sums M_groups M_at M_told M_toldMany 0 H.size r2 w3 hr4) (cwV 1 hts gX11_failedCommand_X11_fails rfl rfl rfl (by decide +kernel) ⟨Nat.le_of_ble_eq_true rfl, Nat.le_of_ble_eq_true rfl⟩) hK hP hD hS hA [0, 1, 2, 3, 4, 5, 6, 7, 8, 9, 10, 11] [] rfl rfl (by decide) (by decide) (by decide) (va_recv hK hP (ci := 11) (q0 := 0) rfl rfl) rfl hl.1 rfl (Nat.le_of_ble_eq_true rfl) dX11_failedCommand_13 ⟨Nat.le_of_ble_eq_true rfl, Nat.le_of_ble_eq_true rfl⟩ (fun H locs hP hD hS => ?_)
    have hP : va_P (dC, dI) vwCl [(a 0, .inr (11, [.ref (a 1), .ref (a 2), .ref (a 3), .ref (a 4), .int M_isSaved, .int M_changes, .int M_isWithin, .int w3, .ref (a 5), .int M_length, .int M_fault, .int M_failed, .ref (a 6), .int M_signMany, .ref (a 7), .ref (a 8), .int M_many, .ref (a 9), .ref (a 10), .int M_at, .ref (a 11), .int M_toldMany])), (a 1, .inl (Y 0, 238, .inl M_g)), (a 2, .inl (Y 0, 1904, .inl M_kept)), (a 3, .inl (Y 0, 238, .inl M_saved)), (a 4, .inl (Y 0, 238, .inl M_before)), (a 5, .inl (Y 0, 60, .inl M_input)), (a 6, .inl (Y 2, 100, .inl M_signs)), (a 7, .inl (Y 0, 6, .inl M_column)), (a 8, .inl (Y 0, 6, .inl M_loads)), (a 9, .inl (Y 0, 2048, .inl M_sums)), (a 10, .inl (Y 0, 2048, .inl M_groups)), (a 11, .inl (Y 0, 155, .inl M_told))] H := hP
    have hD : va_D A [(a 0, .inr (11, [.ref (a 1), .ref (a 2), .ref (a 3), .ref (a 4), .int M_isSaved, .int M_changes, .int M_isWithin, .int w3, .ref (a 5), .int M_length, .int M_fault, .int M_failed, .ref (a 6), .int M_signMany, .ref (a 7), .ref (a 8), .int M_many, .ref (a 9), .ref (a 10), .int M_at, .ref (a 11), .int M_toldMany])), (a 1, .inl (Y 0, 238, .inl M_g)), (a 2, .inl (Y 0, 1904, .inl M_kept)), (a 3, .inl (Y 0, 238, .inl M_saved)), (a 4, .inl (Y 0, 238, .inl M_before)), (a 5, .inl (Y 0, 60, .inl M_input)), (a 6, .inl (Y 2, 100, .inl M_signs)), (a 7, .inl (Y 0, 6, .inl M_column)), (a 8, .inl (Y 0, 6, .inl M_loads)), (a 9, .inl (Y 0, 2048, .inl M_sums)), (a 10, .inl (Y 0, 2048, .inl M_groups)), (a 11, .inl (Y 0, 155, .inl M_told))] := hD
    refine lv_if_eq (tgt := 23) hx hb dX11_failedCommand_16 (by decide) (fun q5 => ?_) (fun q5 => ?_)
    · have hf := wk_t hf q5
      refine lv_aload_n hx hb dX11_failedCommand_23 rfl (lv_at hl 0 rfl) ?_
      refine va_get (D := (dC, dI)) (ci := 11) (v := .int M_failed) (C := RX11) (T := TX11) (N := 22) hx hb hts in_X11_failedCommand_X11 hown hK hP 0 rfl rfl 11 (by decide) (hts _ lk_X11_failedCommand_RX11_29) (fun _ h9 => h9) rfl dX11_failedCommand_24 ?_
      obtain ⟨e0, e1⟩ := wke2 hf
      subst e0
      subst e1
      have hP9 := hP.sub (ws' := (wX11 Y a M_g M_kept M_saved M_before M_isSaved M_changes M_isWithin w3 M_input M_length M_fault M_failed M_signs M_signMany M_column M_loads M_many M_sums M_groups M_at M_told M_toldMany)) [0, 1, 2, 3, 4, 5, 6, 7, 8, 9, 10, 11] rfl
      have hD9 := hD.sub (ws' := (wX11 Y a M_g M_kept M_saved M_before M_isSaved M_changes M_isWithin w3 M_input M_length M_fault M_failed M_signs M_signMany M_column M_loads M_many M_sums M_groups M_at M_told M_toldMany)) [0, 1, 2, 3, 4, 5, 6, 7, 8, 9, 10, 11] (by decide) rfl
      exact W.iret (v := M_failed) hx hb hr (fun t ht hW => ⟨⟨M_failed, (), rfl, rfl, by rw [ht]; exact hP9, va_K.moved hW.alike hK, hD9⟩, hS.F ht⟩) hS.2.2 dX11_failedCommand_27
    · have hf := wk_f hf q5
      refine lv_iconst (v := 0) hx hb dX11_failedCommand_19 (by decide) ?_
      refine lv_goto (tgt := 27) hx hb dX11_failedCommand_20 (by decide) ?_
      obtain ⟨e0, e1⟩ := wke2 hf
      subst e0
      subst e1
      have hP9 := hP.sub (ws' := (wX11 Y a M_g M_kept M_saved M_before M_isSaved M_changes M_isWithin w3 M_input M_length M_fault M_failed M_signs M_signMany M_column M_loads M_many M_sums M_groups M_at M_told M_toldMany)) [0, 1, 2, 3, 4, 5, 6, 7, 8, 9, 10, 11] rfl
      have hD9 := hD.sub (ws' := (wX11 Y a M_g M_kept M_saved M_before M_isSaved M_changes M_isWithin w3 M_input M_length M_fault M_failed M_signs M_signMany M_column M_loads M_many M_sums M_groups M_at M_told M_toldMany)) [0, 1, 2, 3, 4, 5, 6, 7, 8, 9, 10, 11] (by decide) rfl
      exact W.iret (v := 0) hx hb hr (fun t ht hW => ⟨⟨0, (), rfl, rfl, by rw [ht]; exact hP9, va_K.moved hW.alike hK, hD9⟩, hS.F ht⟩) hS.2.2 dX11_failedCommand_27
  · have hf := wk_f hf q1
    refine lv_iconst (v := 1) hx hb dX11_failedCommand_8 (by decide) ?_
    refine lv_goto (tgt := 13) hx hb dX11_failedCommand_9 (by decide) ?_
    obtain ⟨r6, w7, hr8, hf⟩ := wkb2_s hf
    refine wk_evi (As := [.int 1]) (rest := []) (wc := (wX11 Y a M_g M_kept M_saved M_before M_isSaved M_changes M_isWithin M_code M_input M_length M_fault M_failed M_signs M_signMany M_column M_loads M_many M_sums M_groups M_at M_told M_toldMany)) (w1 := (wX11 Y a M_g M_kept M_saved M_before M_isSaved M_changes M_isWithin w7 M_input M_length M_fault M_failed M_signs M_signMany M_column M_loads M_many M_sums M_groups M_at M_told M_toldMany)) (wr := []) ⟨hx, hb, hml, hown, hts⟩ (c_X11_fails l dC dI Y a M_g M_kept M_saved M_before M_isSaved M_changes M_isWithin M_code M_input M_length M_fault M_failed M_signs M_signMany M_column M_loads M_many M_sums M_groups M_at M_told M_toldMany 1 H.size r6 w7 hr8) (cwV 1 hts gX11_failedCommand_X11_fails rfl rfl rfl (by decide +kernel) ⟨Nat.le_of_ble_eq_true rfl, Nat.le_of_ble_eq_true rfl⟩) hK hP hD hS hA [0, 1, 2, 3, 4, 5, 6, 7, 8, 9, 10, 11] [] rfl rfl (by decide) (by decide) (by decide) (va_recv hK hP (ci := 11) (q0 := 0) rfl rfl) rfl hl.1 rfl (Nat.le_of_ble_eq_true rfl) dX11_failedCommand_13 ⟨Nat.le_of_ble_eq_true rfl, Nat.le_of_ble_eq_true rfl⟩ (fun H locs hP hD hS => ?_)
    have hP : va_P (dC, dI) vwCl [(a 0, .inr (11, [.ref (a 1), .ref (a 2), .ref (a 3), .ref (a 4), .int M_isSaved, .int M_changes, .int M_isWithin, .int w7, .ref (a 5), .int M_length, .int M_fault, .int M_failed, .ref (a 6), .int M_signMany, .ref (a 7), .ref (a 8), .int M_many, .ref (a 9), .ref (a 10), .int M_at, .ref (a 11), .int M_toldMany])), (a 1, .inl (Y 0, 238, .inl M_g)), (a 2, .inl (Y 0, 1904, .inl M_kept)), (a 3, .inl (Y 0, 238, .inl M_saved)), (a 4, .inl (Y 0, 238, .inl M_before)), (a 5, .inl (Y 0, 60, .inl M_input)), (a 6, .inl (Y 2, 100, .inl M_signs)), (a 7, .inl (Y 0, 6, .inl M_column)), (a 8, .inl (Y 0, 6, .inl M_loads)), (a 9, .inl (Y 0, 2048, .inl M_sums)), (a 10, .inl (Y 0, 2048, .inl M_groups)), (a 11, .inl (Y 0, 155, .inl M_told))] H := hP
    have hD : va_D A [(a 0, .inr (11, [.ref (a 1), .ref (a 2), .ref (a 3), .ref (a 4), .int M_isSaved, .int M_changes, .int M_isWithin, .int w7, .ref (a 5), .int M_length, .int M_fault, .int M_failed, .ref (a 6), .int M_signMany, .ref (a 7), .ref (a 8), .int M_many, .ref (a 9), .ref (a 10), .int M_at, .ref (a 11), .int M_toldMany])), (a 1, .inl (Y 0, 238, .inl M_g)), (a 2, .inl (Y 0, 1904, .inl M_kept)), (a 3, .inl (Y 0, 238, .inl M_saved)), (a 4, .inl (Y 0, 238, .inl M_before)), (a 5, .inl (Y 0, 60, .inl M_input)), (a 6, .inl (Y 2, 100, .inl M_signs)), (a 7, .inl (Y 0, 6, .inl M_column)), (a 8, .inl (Y 0, 6, .inl M_loads)), (a 9, .inl (Y 0, 2048, .inl M_sums)), (a 10, .inl (Y 0, 2048, .inl M_groups)), (a 11, .inl (Y 0, 155, .inl M_told))] := hD
    refine lv_if_eq (tgt := 23) hx hb dX11_failedCommand_16 (by decide) (fun q9 => ?_) (fun q9 => ?_)
    · have hf := wk_t hf q9
      refine lv_aload_n hx hb dX11_failedCommand_23 rfl (lv_at hl 0 rfl) ?_
      refine va_get (D := (dC, dI)) (ci := 11) (v := .int M_failed) (C := RX11) (T := TX11) (N := 22) hx hb hts in_X11_failedCommand_X11 hown hK hP 0 rfl rfl 11 (by decide) (hts _ lk_X11_failedCommand_RX11_29) (fun _ h9 => h9) rfl dX11_failedCommand_24 ?_
      obtain ⟨e0, e1⟩ := wke2 hf
      subst e0
      subst e1
      have hP9 := hP.sub (ws' := (wX11 Y a M_g M_kept M_saved M_before M_isSaved M_changes M_isWithin w7 M_input M_length M_fault M_failed M_signs M_signMany M_column M_loads M_many M_sums M_groups M_at M_told M_toldMany)) [0, 1, 2, 3, 4, 5, 6, 7, 8, 9, 10, 11] rfl
      have hD9 := hD.sub (ws' := (wX11 Y a M_g M_kept M_saved M_before M_isSaved M_changes M_isWithin w7 M_input M_length M_fault M_failed M_signs M_signMany M_column M_loads M_many M_sums M_groups M_at M_told M_toldMany)) [0, 1, 2, 3, 4, 5, 6, 7, 8, 9, 10, 11] (by decide) rfl
      exact W.iret (v := M_failed) hx hb hr (fun t ht hW => ⟨⟨M_failed, (), rfl, rfl, by rw [ht]; exact hP9, va_K.moved hW.alike hK, hD9⟩, hS.F ht⟩) hS.2.2 dX11_failedCommand_27
    · have hf := wk_f hf q9
      refine lv_iconst (v := 0) hx hb dX11_failedCommand_19 (by decide) ?_
      refine lv_goto (tgt := 27) hx hb dX11_failedCommand_20 (by decide) ?_
      obtain ⟨e0, e1⟩ := wke2 hf
      subst e0
      subst e1
      have hP9 := hP.sub (ws' := (wX11 Y a M_g M_kept M_saved M_before M_isSaved M_changes M_isWithin w7 M_input M_length M_fault M_failed M_signs M_signMany M_column M_loads M_many M_sums M_groups M_at M_told M_toldMany)) [0, 1, 2, 3, 4, 5, 6, 7, 8, 9, 10, 11] rfl
      have hD9 := hD.sub (ws' := (wX11 Y a M_g M_kept M_saved M_before M_isSaved M_changes M_isWithin w7 M_input M_length M_fault M_failed M_signs M_signMany M_column M_loads M_many M_sums M_groups M_at M_told M_toldMany)) [0, 1, 2, 3, 4, 5, 6, 7, 8, 9, 10, 11] (by decide) rfl
      exact W.iret (v := 0) hx hb hr (fun t ht hW => ⟨⟨0, (), rfl, rfl, by rw [ht]; exact hP9, va_K.moved hW.alike hK, hD9⟩, hS.F ht⟩) hS.2.2 dX11_failedCommand_27
theorem lk_X11_undo_RX11_7 : Cond.fieldLink RX11 7 "CircusLedgerModel" "g" "[I" ∈ wsX11_undo := by decide +kernel
theorem lk_X11_undo_RX11_13 : Cond.fieldLink RX11 13 "CircusLedgerModel" "kept" "[I" ∈ wsX11_undo := by decide +kernel
theorem lk_X11_undo_RX11_58 : Cond.fieldLink RX11 58 "CircusLedgerModel" "changes" "I" ∈ wsX11_undo := by decide +kernel
theorem in_X11_undo_X11 : ∀ w ∈ u_ws RX11 TX11 22, w ∈ wsX11_undo := by decide +kernel
def f_X11_undo_L13 (M_kept : Nat → Int32) (y0 : Int32) (M_g : (Nat → Int32)) (M_changes : Int32) (M_code : Int32) : Option (Int32 × (Nat → Int32) × Int32 × Int32) :=
    wkb2 (f_X11_fails M_code y0) (fun r1 w2 =>
    if r1 = 0 then
      (wkl ((M_changes - 1)) (fun v5 =>
      wkb1 (f_X11_copies_1904_238 M_kept M_g (238 * v5) 0) (fun w6 =>
      some (v5, w6, v5, w2))))
    else
      (some (0, M_g, M_changes, w2)))
def f_X11_undo (M_g : Nat → Int32) (M_kept : Nat → Int32) (M_changes : Int32) (M_code : Int32) : Option (Int32 × (Nat → Int32) × Int32 × Int32) :=
  if M_changes = 0 then
    (f_X11_undo_L13 M_kept 1 M_g M_changes M_code)
  else
    (f_X11_undo_L13 M_kept 0 M_g M_changes M_code)
set_option maxHeartbeats 4000000 in
set_option maxRecDepth 100000 in
theorem wl_X11_undo_L13 {p : Program} {l : Launch} {e : Env} {s : State} {m : MethodId} {args : Array Value} {below : List Frame} {meth : Method} {c : Code} {dC : Nat → ClassId} {dI : Nat → Nat → Nat} {Y : Nat → ClassId} {a : Nat → Nat} {M_kept : Nat → Int32} {M_saved : Nat → Int32} {M_before : Nat → Int32} {M_isSaved : Int32} {M_isWithin : Int32} {M_input : Nat → Int32} {M_length : Int32} {M_fault : Int32} {M_failed : Int32} {M_signs : Nat → Int32} {M_signMany : Int32} {M_column : Nat → Int32} {M_loads : Nat → Int32} {M_many : Int32} {M_sums : Nat → Int32} {M_groups : Nat → Int32} {M_at : Int32} {M_told : Nat → Int32} {M_toldMany : Int32}  {r : Int32} {zM_g : Nat → Int32} {zM_changes : Int32} {zM_code : Int32}  (C0 : wk_C p s m args meth c cX11_undo 1 (some .int) wsX11_undo RX11) {A : Nat → Prop} (hK : va_K (dC, dI) vwCl (vTy Y) s) (hA : ∀ q, s.heap.size ≤ q → A q) : ∀  (y0 : Int32) (M_g : Nat → Int32) (M_changes : Int32) (M_code : Int32), f_X11_undo_L13 M_kept y0 M_g M_changes M_code = some (r, zM_g, zM_changes, zM_code) → ∀ (H : Heap) (locs : List Loc), va_P (dC, dI) vwCl (wX11 Y a M_g M_kept M_saved M_before M_isSaved M_changes M_isWithin M_code M_input M_length M_fault M_failed M_signs M_signMany M_column M_loads M_many M_sums M_groups M_at M_told M_toldMany) H → va_D A (wX11 Y a M_g M_kept M_saved M_before M_isSaved M_changes M_isWithin M_code M_input M_length M_fault M_failed M_signs M_signMany M_column M_loads M_many M_sums M_groups M_at M_told M_toldMany) → va_S A s.heap H locs → ∀ (ls : Array Slot), lv_has ls 1 [(0, .ref (a 0))] → W p l e (headSpec wsX11_undo ({ frames := 1, cells := 0, slots := 0, locals := 24 } : Room)).room s m args below meth c H locs 0 0 (MQ below (va_Qi (fun r2 (_ : Unit) => r2 = r) (fun _ t => wk_X (dC, dI) Y (wX11 Y a zM_g M_kept M_saved M_before M_isSaved zM_changes M_isWithin zM_code M_input M_length M_fault M_failed M_signs M_signMany M_column M_loads M_many M_sums M_groups M_at M_told M_toldMany) A t) A) args s 0 0 A) (F0 m 13 ls [.int y0, .ref (a 0)]) := by
  obtain ⟨hx, hb, hml, hr, hlocks, hown, hts⟩ := id C0
  intro y0 M_g M_changes M_code hf H locs hP hD hS ls hl
  rw [f_X11_undo_L13] at hf
  have hP : va_P (dC, dI) vwCl [(a 0, .inr (11, [.ref (a 1), .ref (a 2), .ref (a 3), .ref (a 4), .int M_isSaved, .int M_changes, .int M_isWithin, .int M_code, .ref (a 5), .int M_length, .int M_fault, .int M_failed, .ref (a 6), .int M_signMany, .ref (a 7), .ref (a 8), .int M_many, .ref (a 9), .ref (a 10), .int M_at, .ref (a 11), .int M_toldMany])), (a 1, .inl (Y 0, 238, .inl M_g)), (a 2, .inl (Y 0, 1904, .inl M_kept)), (a 3, .inl (Y 0, 238, .inl M_saved)), (a 4, .inl (Y 0, 238, .inl M_before)), (a 5, .inl (Y 0, 60, .inl M_input)), (a 6, .inl (Y 2, 100, .inl M_signs)), (a 7, .inl (Y 0, 6, .inl M_column)), (a 8, .inl (Y 0, 6, .inl M_loads)), (a 9, .inl (Y 0, 2048, .inl M_sums)), (a 10, .inl (Y 0, 2048, .inl M_groups)), (a 11, .inl (Y 0, 155, .inl M_told))] H := hP
  have hD : va_D A [(a 0, .inr (11, [.ref (a 1), .ref (a 2), .ref (a 3), .ref (a 4), .int M_isSaved, .int M_changes, .int M_isWithin, .int M_code, .ref (a 5), .int M_length, .int M_fault, .int M_failed, .ref (a 6), .int M_signMany, .ref (a 7), .ref (a 8), .int M_many, .ref (a 9), .ref (a 10), .int M_at, .ref (a 11), .int M_toldMany])), (a 1, .inl (Y 0, 238, .inl M_g)), (a 2, .inl (Y 0, 1904, .inl M_kept)), (a 3, .inl (Y 0, 238, .inl M_saved)), (a 4, .inl (Y 0, 238, .inl M_before)), (a 5, .inl (Y 0, 60, .inl M_input)), (a 6, .inl (Y 2, 100, .inl M_signs)), (a 7, .inl (Y 0, 6, .inl M_column)), (a 8, .inl (Y 0, 6, .inl M_loads)), (a 9, .inl (Y 0, 2048, .inl M_sums)), (a 10, .inl (Y 0, 2048, .inl M_groups)), (a 11, .inl (Y 0, 155, .inl M_told))] := hD
  obtain ⟨r1, w2, hr3, hf⟩ := wkb2_s hf
  refine wk_evi (As := [.int y0]) (rest := []) (wc := (wX11 Y a M_g M_kept M_saved M_before M_isSaved M_changes M_isWithin M_code M_input M_length M_fault M_failed M_signs M_signMany M_column M_loads M_many M_sums M_groups M_at M_told M_toldMany)) (w1 := (wX11 Y a M_g M_kept M_saved M_before M_isSaved M_changes M_isWithin w2 M_input M_length M_fault M_failed M_signs M_signMany M_column M_loads M_many M_sums M_groups M_at M_told M_toldMany)) (wr := []) ⟨hx, hb, hml, hown, hts⟩ (c_X11_fails l dC dI Y a M_g M_kept M_saved M_before M_isSaved M_changes M_isWithin M_code M_input M_length M_fault M_failed M_signs M_signMany M_column M_loads M_many M_sums M_groups M_at M_told M_toldMany y0 H.size r1 w2 hr3) (cwV 1 hts gX11_undo_X11_fails rfl rfl rfl (by decide +kernel) ⟨Nat.le_of_ble_eq_true rfl, Nat.le_of_ble_eq_true rfl⟩) hK hP hD hS hA [0, 1, 2, 3, 4, 5, 6, 7, 8, 9, 10, 11] [] rfl rfl (by decide) (by decide) (by decide) (va_recv hK hP (ci := 11) (q0 := 0) rfl rfl) rfl hl.1 rfl (Nat.le_of_ble_eq_true rfl) dX11_undo_13 ⟨Nat.le_of_ble_eq_true rfl, Nat.le_of_ble_eq_true rfl⟩ (fun H locs hP hD hS => ?_)
  have hP : va_P (dC, dI) vwCl [(a 0, .inr (11, [.ref (a 1), .ref (a 2), .ref (a 3), .ref (a 4), .int M_isSaved, .int M_changes, .int M_isWithin, .int w2, .ref (a 5), .int M_length, .int M_fault, .int M_failed, .ref (a 6), .int M_signMany, .ref (a 7), .ref (a 8), .int M_many, .ref (a 9), .ref (a 10), .int M_at, .ref (a 11), .int M_toldMany])), (a 1, .inl (Y 0, 238, .inl M_g)), (a 2, .inl (Y 0, 1904, .inl M_kept)), (a 3, .inl (Y 0, 238, .inl M_saved)), (a 4, .inl (Y 0, 238, .inl M_before)), (a 5, .inl (Y 0, 60, .inl M_input)), (a 6, .inl (Y 2, 100, .inl M_signs)), (a 7, .inl (Y 0, 6, .inl M_column)), (a 8, .inl (Y 0, 6, .inl M_loads)), (a 9, .inl (Y 0, 2048, .inl M_sums)), (a 10, .inl (Y 0, 2048, .inl M_groups)), (a 11, .inl (Y 0, 155, .inl M_told))] H := hP
  have hD : va_D A [(a 0, .inr (11, [.ref (a 1), .ref (a 2), .ref (a 3), .ref (a 4), .int M_isSaved, .int M_changes, .int M_isWithin, .int w2, .ref (a 5), .int M_length, .int M_fault, .int M_failed, .ref (a 6), .int M_signMany, .ref (a 7), .ref (a 8), .int M_many, .ref (a 9), .ref (a 10), .int M_at, .ref (a 11), .int M_toldMany])), (a 1, .inl (Y 0, 238, .inl M_g)), (a 2, .inl (Y 0, 1904, .inl M_kept)), (a 3, .inl (Y 0, 238, .inl M_saved)), (a 4, .inl (Y 0, 238, .inl M_before)), (a 5, .inl (Y 0, 60, .inl M_input)), (a 6, .inl (Y 2, 100, .inl M_signs)), (a 7, .inl (Y 0, 6, .inl M_column)), (a 8, .inl (Y 0, 6, .inl M_loads)), (a 9, .inl (Y 0, 2048, .inl M_sums)), (a 10, .inl (Y 0, 2048, .inl M_groups)), (a 11, .inl (Y 0, 155, .inl M_told))] := hD
  refine lv_if_eq (tgt := 21) hx hb dX11_undo_16 (by decide) (fun q4 => ?_) (fun q4 => ?_)
  · have hf := wk_t hf q4
    refine lv_aload_n hx hb dX11_undo_21 rfl (lv_at hl 0 rfl) ?_
    refine lv_dup hx hb dX11_undo_22 rfl ?_
    refine va_get (D := (dC, dI)) (ci := 11) (v := .int M_changes) (C := RX11) (T := TX11) (N := 22) hx hb hts in_X11_undo_X11 hown hK hP 0 rfl rfl 5 (by decide) (hts _ lk_X11_undo_RX11_58) (fun _ h9 => h9) rfl dX11_undo_23 ?_
    refine lv_iconst (v := 1) hx hb dX11_undo_26 (by decide) ?_
    refine lv_isub hx hb dX11_undo_27 ?_
    refine lv_topi (fun v5 ev5 => ?_)
    have hf := wkl_s hf ev5
    refine va_put (D := (dC, dI)) (ci := 11) (v := .int v5) (ty := .int) (C := RX11) (T := TX11) (N := 22) hx hb hts in_X11_undo_X11 tyX11 tyX11_ok nmX11 hown hK hP hD hS 0 rfl rfl 5 (by decide) (hts _ lk_X11_undo_RX11_58) (fun _ h9 => h9) rfl (by decide +kernel) rfl rfl (Nat.le_of_ble_eq_true rfl) dX11_undo_28 (fun H locs hP hD hS => ?_)
    have hP : va_P (dC, dI) vwCl [(a 0, .inr (11, [.ref (a 1), .ref (a 2), .ref (a 3), .ref (a 4), .int M_isSaved, .int v5, .int M_isWithin, .int w2, .ref (a 5), .int M_length, .int M_fault, .int M_failed, .ref (a 6), .int M_signMany, .ref (a 7), .ref (a 8), .int M_many, .ref (a 9), .ref (a 10), .int M_at, .ref (a 11), .int M_toldMany])), (a 1, .inl (Y 0, 238, .inl M_g)), (a 2, .inl (Y 0, 1904, .inl M_kept)), (a 3, .inl (Y 0, 238, .inl M_saved)), (a 4, .inl (Y 0, 238, .inl M_before)), (a 5, .inl (Y 0, 60, .inl M_input)), (a 6, .inl (Y 2, 100, .inl M_signs)), (a 7, .inl (Y 0, 6, .inl M_column)), (a 8, .inl (Y 0, 6, .inl M_loads)), (a 9, .inl (Y 0, 2048, .inl M_sums)), (a 10, .inl (Y 0, 2048, .inl M_groups)), (a 11, .inl (Y 0, 155, .inl M_told))] H := hP
    have hD : va_D A [(a 0, .inr (11, [.ref (a 1), .ref (a 2), .ref (a 3), .ref (a 4), .int M_isSaved, .int v5, .int M_isWithin, .int w2, .ref (a 5), .int M_length, .int M_fault, .int M_failed, .ref (a 6), .int M_signMany, .ref (a 7), .ref (a 8), .int M_many, .ref (a 9), .ref (a 10), .int M_at, .ref (a 11), .int M_toldMany])), (a 1, .inl (Y 0, 238, .inl M_g)), (a 2, .inl (Y 0, 1904, .inl M_kept)), (a 3, .inl (Y 0, 238, .inl M_saved)), (a 4, .inl (Y 0, 238, .inl M_before)), (a 5, .inl (Y 0, 60, .inl M_input)), (a 6, .inl (Y 2, 100, .inl M_signs)), (a 7, .inl (Y 0, 6, .inl M_column)), (a 8, .inl (Y 0, 6, .inl M_loads)), (a 9, .inl (Y 0, 2048, .inl M_sums)), (a 10, .inl (Y 0, 2048, .inl M_groups)), (a 11, .inl (Y 0, 155, .inl M_told))] := hD
    refine lv_aload_n hx hb dX11_undo_31 rfl (lv_at hl 0 rfl) ?_
    refine va_get (D := (dC, dI)) (ci := 11) (v := .ref (a 2)) (C := RX11) (T := TX11) (N := 22) hx hb hts in_X11_undo_X11 hown hK hP 0 rfl rfl 1 (by decide) (hts _ lk_X11_undo_RX11_13) (fun _ h9 => h9) rfl dX11_undo_32 ?_
    refine lv_sipush (v := 238) hx hb dX11_undo_35 (by decide) ?_
    refine lv_aload_n hx hb dX11_undo_38 rfl (lv_at hl 0 rfl) ?_
    refine va_get (D := (dC, dI)) (ci := 11) (v := .int v5) (C := RX11) (T := TX11) (N := 22) hx hb hts in_X11_undo_X11 hown hK hP 0 rfl rfl 5 (by decide) (hts _ lk_X11_undo_RX11_58) (fun _ h9 => h9) rfl dX11_undo_39 ?_
    refine lv_imul hx hb dX11_undo_42 ?_
    refine lv_aload_n hx hb dX11_undo_43 rfl (lv_at hl 0 rfl) ?_
    refine va_get (D := (dC, dI)) (ci := 11) (v := .ref (a 1)) (C := RX11) (T := TX11) (N := 22) hx hb hts in_X11_undo_X11 hown hK hP 0 rfl rfl 0 (by decide) (hts _ lk_X11_undo_RX11_7) (fun _ h9 => h9) rfl dX11_undo_44 ?_
    refine lv_iconst (v := 0) hx hb dX11_undo_47 (by decide) ?_
    obtain ⟨w6, hr7, hf⟩ := wkb1_s hf
    refine wk_esv (As := [.ref (a 2), .int (238 * v5), .ref (a 1), .int 0]) (rest := []) (wc := ([((fun k => a (k + 2)) 0, .inl (Y 0, 1904, .inl M_kept))] ++ [((fun k => a (k + 1)) 0, .inl (Y 0, 238, .inl M_g))])) (w1 := ([((fun k => a (k + 2)) 0, .inl (Y 0, 1904, .inl M_kept))] ++ [((fun k => a (k + 1)) 0, .inl (Y 0, 238, .inl w6))])) (wr := [(a 0, .inr (11, [.ref (a 1), .ref (a 2), .ref (a 3), .ref (a 4), .int M_isSaved, .int v5, .int M_isWithin, .int w2, .ref (a 5), .int M_length, .int M_fault, .int M_failed, .ref (a 6), .int M_signMany, .ref (a 7), .ref (a 8), .int M_many, .ref (a 9), .ref (a 10), .int M_at, .ref (a 11), .int M_toldMany])), (a 3, .inl (Y 0, 238, .inl M_saved)), (a 4, .inl (Y 0, 238, .inl M_before)), (a 5, .inl (Y 0, 60, .inl M_input)), (a 6, .inl (Y 2, 100, .inl M_signs)), (a 7, .inl (Y 0, 6, .inl M_column)), (a 8, .inl (Y 0, 6, .inl M_loads)), (a 9, .inl (Y 0, 2048, .inl M_sums)), (a 10, .inl (Y 0, 2048, .inl M_groups)), (a 11, .inl (Y 0, 155, .inl M_told))]) ⟨hx, hb, hml, hown, hts⟩ (c_X11_copies_1904_238 l dC dI Y (fun k => a (k + 2)) (fun k => a (k + 1)) M_kept M_g (238 * v5) 0 H.size w6 hr7) (va_cwS 4 hts gX11_undo_X11_copies rfl rfl rfl (by decide +kernel) ⟨Nat.le_of_ble_eq_true rfl, Nat.le_of_ble_eq_true rfl⟩) hK hP hD hS hA [2, 1] [0, 3, 4, 5, 6, 7, 8, 9, 10, 11] rfl rfl (by decide) (by decide) (by decide) rfl hl.1 rfl (Nat.le_of_ble_eq_true rfl) dX11_undo_48 ⟨Nat.le_of_ble_eq_true rfl, Nat.le_of_ble_eq_true rfl⟩ (fun H locs hP hD hS => ?_)
    have hP : va_P (dC, dI) vwCl [(a 0, .inr (11, [.ref (a 1), .ref (a 2), .ref (a 3), .ref (a 4), .int M_isSaved, .int v5, .int M_isWithin, .int w2, .ref (a 5), .int M_length, .int M_fault, .int M_failed, .ref (a 6), .int M_signMany, .ref (a 7), .ref (a 8), .int M_many, .ref (a 9), .ref (a 10), .int M_at, .ref (a 11), .int M_toldMany])), (a 3, .inl (Y 0, 238, .inl M_saved)), (a 4, .inl (Y 0, 238, .inl M_before)), (a 5, .inl (Y 0, 60, .inl M_input)), (a 6, .inl (Y 2, 100, .inl M_signs)), (a 7, .inl (Y 0, 6, .inl M_column)), (a 8, .inl (Y 0, 6, .inl M_loads)), (a 9, .inl (Y 0, 2048, .inl M_sums)), (a 10, .inl (Y 0, 2048, .inl M_groups)), (a 11, .inl (Y 0, 155, .inl M_told)), (a 2, .inl (Y 0, 1904, .inl M_kept)), (a 1, .inl (Y 0, 238, .inl w6))] H := hP
    have hD : va_D A [(a 0, .inr (11, [.ref (a 1), .ref (a 2), .ref (a 3), .ref (a 4), .int M_isSaved, .int v5, .int M_isWithin, .int w2, .ref (a 5), .int M_length, .int M_fault, .int M_failed, .ref (a 6), .int M_signMany, .ref (a 7), .ref (a 8), .int M_many, .ref (a 9), .ref (a 10), .int M_at, .ref (a 11), .int M_toldMany])), (a 3, .inl (Y 0, 238, .inl M_saved)), (a 4, .inl (Y 0, 238, .inl M_before)), (a 5, .inl (Y 0, 60, .inl M_input)), (a 6, .inl (Y 2, 100, .inl M_signs)), (a 7, .inl (Y 0, 6, .inl M_column)), (a 8, .inl (Y 0, 6, .inl M_loads)), (a 9, .inl (Y 0, 2048, .inl M_sums)), (a 10, .inl (Y 0, 2048, .inl M_groups)), (a 11, .inl (Y 0, 155, .inl M_told)), (a 2, .inl (Y 0, 1904, .inl M_kept)), (a 1, .inl (Y 0, 238, .inl w6))] := hD
    refine lv_aload_n hx hb dX11_undo_51 rfl (lv_at hl 0 rfl) ?_
    refine va_get (D := (dC, dI)) (ci := 11) (v := .int v5) (C := RX11) (T := TX11) (N := 22) hx hb hts in_X11_undo_X11 hown hK hP 0 rfl rfl 5 (by decide) (hts _ lk_X11_undo_RX11_58) (fun _ h9 => h9) rfl dX11_undo_52 ?_
    obtain ⟨e0, e1, e2, e3⟩ := wke4 hf
    subst e0
    subst e1
    subst e2
    subst e3
    have hP9 := hP.sub (ws' := (wX11 Y a w6 M_kept M_saved M_before M_isSaved v5 M_isWithin w2 M_input M_length M_fault M_failed M_signs M_signMany M_column M_loads M_many M_sums M_groups M_at M_told M_toldMany)) [0, 11, 10, 1, 2, 3, 4, 5, 6, 7, 8, 9] rfl
    have hD9 := hD.sub (ws' := (wX11 Y a w6 M_kept M_saved M_before M_isSaved v5 M_isWithin w2 M_input M_length M_fault M_failed M_signs M_signMany M_column M_loads M_many M_sums M_groups M_at M_told M_toldMany)) [0, 11, 10, 1, 2, 3, 4, 5, 6, 7, 8, 9] (by decide) rfl
    exact W.iret (v := v5) hx hb hr (fun t ht hW => ⟨⟨v5, (), rfl, rfl, by rw [ht]; exact hP9, va_K.moved hW.alike hK, hD9⟩, hS.F ht⟩) hS.2.2 dX11_undo_55
  · have hf := wk_f hf q4
    refine lv_iconst (v := 0) hx hb dX11_undo_19 (by decide) ?_
    obtain ⟨e0, e1, e2, e3⟩ := wke4 hf
    subst e0
    subst e1
    subst e2
    subst e3
    have hP9 := hP.sub (ws' := (wX11 Y a M_g M_kept M_saved M_before M_isSaved M_changes M_isWithin w2 M_input M_length M_fault M_failed M_signs M_signMany M_column M_loads M_many M_sums M_groups M_at M_told M_toldMany)) [0, 1, 2, 3, 4, 5, 6, 7, 8, 9, 10, 11] rfl
    have hD9 := hD.sub (ws' := (wX11 Y a M_g M_kept M_saved M_before M_isSaved M_changes M_isWithin w2 M_input M_length M_fault M_failed M_signs M_signMany M_column M_loads M_many M_sums M_groups M_at M_told M_toldMany)) [0, 1, 2, 3, 4, 5, 6, 7, 8, 9, 10, 11] (by decide) rfl
    exact W.iret (v := 0) hx hb hr (fun t ht hW => ⟨⟨0, (), rfl, rfl, by rw [ht]; exact hP9, va_K.moved hW.alike hK, hD9⟩, hS.F ht⟩) hS.2.2 dX11_undo_20
set_option maxHeartbeats 4000000 in
set_option maxRecDepth 100000 in
theorem c_X11_undo (l : Launch) (dC : Nat → ClassId) (dI : Nat → Nat → Nat) (Y : Nat → ClassId) (a : Nat → Nat) (M_g : Nat → Int32) (M_kept : Nat → Int32) (M_saved : Nat → Int32) (M_before : Nat → Int32) (M_isSaved : Int32) (M_changes : Int32) (M_isWithin : Int32) (M_code : Int32) (M_input : Nat → Int32) (M_length : Int32) (M_fault : Int32) (M_failed : Int32) (M_signs : Nat → Int32) (M_signMany : Int32) (M_column : Nat → Int32) (M_loads : Nat → Int32) (M_many : Int32) (M_sums : Nat → Int32) (M_groups : Nat → Int32) (M_at : Int32) (M_told : Nat → Int32) (M_toldMany : Int32)  (sz : Nat) (r : Int32) (zM_g : Nat → Int32) (zM_changes : Int32) (zM_code : Int32) (hf : f_X11_undo M_g M_kept M_changes M_code = some (r, zM_g, zM_changes, zM_code)) : Met l yX11_undo wsX11_undo ({ frames := 1, cells := 0, slots := 0, locals := 24 } : Room) (va_Pc [.ref (a 0)] (wk_E (dC, dI) Y (wX11 Y a M_g M_kept M_saved M_before M_isSaved M_changes M_isWithin M_code M_input M_length M_fault M_failed M_signs M_signMany M_column M_loads M_many M_sums M_groups M_at M_told M_toldMany) sz)) (va_Qi (fun r2 (_ : Unit) => r2 = r) (fun _ t => wk_X (dC, dI) Y (wX11 Y a zM_g M_kept M_saved M_before M_isSaved zM_changes M_isWithin zM_code M_input M_length M_fault M_failed M_signs M_signMany M_column M_loads M_many M_sums M_groups M_at M_told M_toldMany) (va_A (wX11 Y a M_g M_kept M_saved M_before M_isSaved M_changes M_isWithin M_code M_input M_length M_fault M_failed M_signs M_signMany M_column M_loads M_many M_sums M_groups M_at M_told M_toldMany) sz) t) (va_A (wX11 Y a M_g M_kept M_saved M_before M_isSaved M_changes M_isWithin M_code M_input M_length M_fault M_failed M_signs M_signMany M_column M_loads M_many M_sums M_groups M_at M_told M_toldMany) sz)) 0 0 (va_A (wX11 Y a M_g M_kept M_saved M_before M_isSaved M_changes M_isWithin M_code M_input M_length M_fault M_failed M_signs M_signMany M_column M_loads M_many M_sums M_groups M_at M_told M_toldMany) sz) := by
  refine Met.ofW (cc := cX11_undo) (maxL := 1) (ret := (some .int)) (by decide) rfl ?_
  intro p e s m args below meth c s₁ B hml hv
  obtain ⟨rfl, hsz, hP, hK, hD0⟩ := hv
  have hx := B.exec
  have hb := B.bytes
  have hr := B.returns
  have hts := atoms_spec (ws := wsX11_undo) B.pre
  have hown : s.vm.findClass RX11 = some m.cls := findClass_of_methodNamed B.named
  have hlocks := B.notSynchronized
  have C0 : wk_C p s m _ meth c cX11_undo 1 (some .int) wsX11_undo RX11 := ⟨hx, hb, hml, hr, hlocks, hown, hts⟩
  subst hsz
  have hD := hD0.self (sz := s.heap.size)
  generalize hAe : va_A (wX11 Y a M_g M_kept M_saved M_before M_isSaved M_changes M_isWithin M_code M_input M_length M_fault M_failed M_signs M_signMany M_column M_loads M_many M_sums M_groups M_at M_told M_toldMany) s.heap.size = A at hD ⊢
  have hA : ∀ q : Nat, s.heap.size ≤ q → A q := fun q h => by rw [← hAe]; exact Or.inr h
  have hS : va_S A s.heap s.heap [] := va_S.rf
  obtain ⟨H, hHe⟩ : ∃ H, H = s.heap := ⟨_, rfl⟩
  have hS : va_S A s.heap H [] := by rw [hHe]; exact hS
  have hP : va_P (dC, dI) vwCl [(a 0, .inr (11, [.ref (a 1), .ref (a 2), .ref (a 3), .ref (a 4), .int M_isSaved, .int M_changes, .int M_isWithin, .int M_code, .ref (a 5), .int M_length, .int M_fault, .int M_failed, .ref (a 6), .int M_signMany, .ref (a 7), .ref (a 8), .int M_many, .ref (a 9), .ref (a 10), .int M_at, .ref (a 11), .int M_toldMany])), (a 1, .inl (Y 0, 238, .inl M_g)), (a 2, .inl (Y 0, 1904, .inl M_kept)), (a 3, .inl (Y 0, 238, .inl M_saved)), (a 4, .inl (Y 0, 238, .inl M_before)), (a 5, .inl (Y 0, 60, .inl M_input)), (a 6, .inl (Y 2, 100, .inl M_signs)), (a 7, .inl (Y 0, 6, .inl M_column)), (a 8, .inl (Y 0, 6, .inl M_loads)), (a 9, .inl (Y 0, 2048, .inl M_sums)), (a 10, .inl (Y 0, 2048, .inl M_groups)), (a 11, .inl (Y 0, 155, .inl M_told))] H := by rw [hHe]; exact hP
  have hD : va_D A [(a 0, .inr (11, [.ref (a 1), .ref (a 2), .ref (a 3), .ref (a 4), .int M_isSaved, .int M_changes, .int M_isWithin, .int M_code, .ref (a 5), .int M_length, .int M_fault, .int M_failed, .ref (a 6), .int M_signMany, .ref (a 7), .ref (a 8), .int M_many, .ref (a 9), .ref (a 10), .int M_at, .ref (a 11), .int M_toldMany])), (a 1, .inl (Y 0, 238, .inl M_g)), (a 2, .inl (Y 0, 1904, .inl M_kept)), (a 3, .inl (Y 0, 238, .inl M_saved)), (a 4, .inl (Y 0, 238, .inl M_before)), (a 5, .inl (Y 0, 60, .inl M_input)), (a 6, .inl (Y 2, 100, .inl M_signs)), (a 7, .inl (Y 0, 6, .inl M_column)), (a 8, .inl (Y 0, 6, .inl M_loads)), (a 9, .inl (Y 0, 2048, .inl M_sums)), (a 10, .inl (Y 0, 2048, .inl M_groups)), (a 11, .inl (Y 0, 155, .inl M_told))] := hD
  obtain ⟨locs, hlo⟩ : ∃ locs : List Loc, locs = [] := ⟨_, rfl⟩
  have hS : va_S A s.heap H locs := by rw [hlo]; exact hS
  have hl := lv_entry ([.ref (a 0)]) (n := 1) (Nat.le_of_ble_eq_true rfl)
  rw [lg_entry_eq]
  generalize (lg_sl ([.ref (a 0)]) ++ List.replicate (1 - (lg_sl ([.ref (a 0)])).length) Slot.unset).toArray = ls at hl ⊢
  have hl : lv_has ls 1 [(0, .ref (a 0))] := hl
  refine wk_start hHe hlo ?_
  rw [f_X11_undo] at hf
  refine lv_aload_n hx hb dX11_undo_0 rfl (lv_at hl 0 rfl) ?_
  refine lv_aload_n hx hb dX11_undo_1 rfl (lv_at hl 0 rfl) ?_
  refine va_get (D := (dC, dI)) (ci := 11) (v := .int M_changes) (C := RX11) (T := TX11) (N := 22) hx hb hts in_X11_undo_X11 hown hK hP 0 rfl rfl 5 (by decide) (hts _ lk_X11_undo_RX11_58) (fun _ h9 => h9) rfl dX11_undo_2 ?_
  refine lv_if_ne (tgt := 12) hx hb dX11_undo_5 (by decide) (fun q1 => ?_) (fun q1 => ?_)
  · have hf := wk_f hf q1
    refine lv_iconst (v := 0) hx hb dX11_undo_12 (by decide) ?_
    exact wl_X11_undo_L13 C0 hK hA 0 M_g M_changes M_code hf H locs hP hD hS ls (lv_sub hl [0] rfl)
  · have hf := wk_t hf q1
    refine lv_iconst (v := 1) hx hb dX11_undo_8 (by decide) ?_
    refine lv_goto (tgt := 13) hx hb dX11_undo_9 (by decide) ?_
    exact wl_X11_undo_L13 C0 hK hA 1 M_g M_changes M_code hf H locs hP hD hS ls (lv_sub hl [0] rfl)
theorem lk_X11_save_RX11_7 : Cond.fieldLink RX11 7 "CircusLedgerModel" "g" "[I" ∈ wsX11_save := by decide +kernel
theorem lk_X11_save_RX11_16 : Cond.fieldLink RX11 16 "CircusLedgerModel" "saved" "[I" ∈ wsX11_save := by decide +kernel
theorem lk_X11_save_RX11_51 : Cond.fieldLink RX11 51 "CircusLedgerModel" "code" "I" ∈ wsX11_save := by decide +kernel
theorem lk_X11_save_RX11_288 : Cond.fieldLink RX11 288 "CircusLedgerModel" "isSaved" "Z" ∈ wsX11_save := by decide +kernel
theorem in_X11_save_X11 : ∀ w ∈ u_ws RX11 TX11 22, w ∈ wsX11_save := by decide +kernel
def f_X11_save (M_g : Nat → Int32) (M_saved : Nat → Int32) (M_isSaved : Int32) (M_code : Int32) : Option (Int32 × (Nat → Int32) × Int32 × Int32) :=
  wkb1 (f_X11_copies_238_238 M_g M_saved 0 0) (fun w1 =>
  some ((M_g 0), w1, 1, 0))
set_option maxHeartbeats 4000000 in
set_option maxRecDepth 100000 in
theorem c_X11_save (l : Launch) (dC : Nat → ClassId) (dI : Nat → Nat → Nat) (Y : Nat → ClassId) (a : Nat → Nat) (M_g : Nat → Int32) (M_kept : Nat → Int32) (M_saved : Nat → Int32) (M_before : Nat → Int32) (M_isSaved : Int32) (M_changes : Int32) (M_isWithin : Int32) (M_code : Int32) (M_input : Nat → Int32) (M_length : Int32) (M_fault : Int32) (M_failed : Int32) (M_signs : Nat → Int32) (M_signMany : Int32) (M_column : Nat → Int32) (M_loads : Nat → Int32) (M_many : Int32) (M_sums : Nat → Int32) (M_groups : Nat → Int32) (M_at : Int32) (M_told : Nat → Int32) (M_toldMany : Int32)  (sz : Nat) (r : Int32) (zM_saved : Nat → Int32) (zM_isSaved : Int32) (zM_code : Int32) (hf : f_X11_save M_g M_saved M_isSaved M_code = some (r, zM_saved, zM_isSaved, zM_code)) : Met l yX11_save wsX11_save ({ frames := 1, cells := 0, slots := 0, locals := 24 } : Room) (va_Pc [.ref (a 0)] (wk_E (dC, dI) Y (wX11 Y a M_g M_kept M_saved M_before M_isSaved M_changes M_isWithin M_code M_input M_length M_fault M_failed M_signs M_signMany M_column M_loads M_many M_sums M_groups M_at M_told M_toldMany) sz)) (va_Qi (fun r2 (_ : Unit) => r2 = r) (fun _ t => wk_X (dC, dI) Y (wX11 Y a M_g M_kept zM_saved M_before zM_isSaved M_changes M_isWithin zM_code M_input M_length M_fault M_failed M_signs M_signMany M_column M_loads M_many M_sums M_groups M_at M_told M_toldMany) (va_A (wX11 Y a M_g M_kept M_saved M_before M_isSaved M_changes M_isWithin M_code M_input M_length M_fault M_failed M_signs M_signMany M_column M_loads M_many M_sums M_groups M_at M_told M_toldMany) sz) t) (va_A (wX11 Y a M_g M_kept M_saved M_before M_isSaved M_changes M_isWithin M_code M_input M_length M_fault M_failed M_signs M_signMany M_column M_loads M_many M_sums M_groups M_at M_told M_toldMany) sz)) 0 0 (va_A (wX11 Y a M_g M_kept M_saved M_before M_isSaved M_changes M_isWithin M_code M_input M_length M_fault M_failed M_signs M_signMany M_column M_loads M_many M_sums M_groups M_at M_told M_toldMany) sz) := by
  refine Met.ofW (cc := cX11_save) (maxL := 1) (ret := (some .int)) (by decide) rfl ?_
  intro p e s m args below meth c s₁ B hml hv
  obtain ⟨rfl, hsz, hP, hK, hD0⟩ := hv
  have hx := B.exec
  have hb := B.bytes
  have hr := B.returns
  have hts := atoms_spec (ws := wsX11_save) B.pre
  have hown : s.vm.findClass RX11 = some m.cls := findClass_of_methodNamed B.named
  have hlocks := B.notSynchronized
  have C0 : wk_C p s m _ meth c cX11_save 1 (some .int) wsX11_save RX11 := ⟨hx, hb, hml, hr, hlocks, hown, hts⟩
  subst hsz
  have hD := hD0.self (sz := s.heap.size)
  generalize hAe : va_A (wX11 Y a M_g M_kept M_saved M_before M_isSaved M_changes M_isWithin M_code M_input M_length M_fault M_failed M_signs M_signMany M_column M_loads M_many M_sums M_groups M_at M_told M_toldMany) s.heap.size = A at hD ⊢
  have hA : ∀ q : Nat, s.heap.size ≤ q → A q := fun q h => by rw [← hAe]; exact Or.inr h
  have hS : va_S A s.heap s.heap [] := va_S.rf
  obtain ⟨H, hHe⟩ : ∃ H, H = s.heap := ⟨_, rfl⟩
  have hS : va_S A s.heap H [] := by rw [hHe]; exact hS
  have hP : va_P (dC, dI) vwCl [(a 0, .inr (11, [.ref (a 1), .ref (a 2), .ref (a 3), .ref (a 4), .int M_isSaved, .int M_changes, .int M_isWithin, .int M_code, .ref (a 5), .int M_length, .int M_fault, .int M_failed, .ref (a 6), .int M_signMany, .ref (a 7), .ref (a 8), .int M_many, .ref (a 9), .ref (a 10), .int M_at, .ref (a 11), .int M_toldMany])), (a 1, .inl (Y 0, 238, .inl M_g)), (a 2, .inl (Y 0, 1904, .inl M_kept)), (a 3, .inl (Y 0, 238, .inl M_saved)), (a 4, .inl (Y 0, 238, .inl M_before)), (a 5, .inl (Y 0, 60, .inl M_input)), (a 6, .inl (Y 2, 100, .inl M_signs)), (a 7, .inl (Y 0, 6, .inl M_column)), (a 8, .inl (Y 0, 6, .inl M_loads)), (a 9, .inl (Y 0, 2048, .inl M_sums)), (a 10, .inl (Y 0, 2048, .inl M_groups)), (a 11, .inl (Y 0, 155, .inl M_told))] H := by rw [hHe]; exact hP
  have hD : va_D A [(a 0, .inr (11, [.ref (a 1), .ref (a 2), .ref (a 3), .ref (a 4), .int M_isSaved, .int M_changes, .int M_isWithin, .int M_code, .ref (a 5), .int M_length, .int M_fault, .int M_failed, .ref (a 6), .int M_signMany, .ref (a 7), .ref (a 8), .int M_many, .ref (a 9), .ref (a 10), .int M_at, .ref (a 11), .int M_toldMany])), (a 1, .inl (Y 0, 238, .inl M_g)), (a 2, .inl (Y 0, 1904, .inl M_kept)), (a 3, .inl (Y 0, 238, .inl M_saved)), (a 4, .inl (Y 0, 238, .inl M_before)), (a 5, .inl (Y 0, 60, .inl M_input)), (a 6, .inl (Y 2, 100, .inl M_signs)), (a 7, .inl (Y 0, 6, .inl M_column)), (a 8, .inl (Y 0, 6, .inl M_loads)), (a 9, .inl (Y 0, 2048, .inl M_sums)), (a 10, .inl (Y 0, 2048, .inl M_groups)), (a 11, .inl (Y 0, 155, .inl M_told))] := hD
  obtain ⟨locs, hlo⟩ : ∃ locs : List Loc, locs = [] := ⟨_, rfl⟩
  have hS : va_S A s.heap H locs := by rw [hlo]; exact hS
  have hl := lv_entry ([.ref (a 0)]) (n := 1) (Nat.le_of_ble_eq_true rfl)
  rw [lg_entry_eq]
  generalize (lg_sl ([.ref (a 0)]) ++ List.replicate (1 - (lg_sl ([.ref (a 0)])).length) Slot.unset).toArray = ls at hl ⊢
  have hl : lv_has ls 1 [(0, .ref (a 0))] := hl
  refine wk_start hHe hlo ?_
  rw [f_X11_save] at hf
  refine lv_aload_n hx hb dX11_save_0 rfl (lv_at hl 0 rfl) ?_
  refine lv_iconst (v := 0) hx hb dX11_save_1 (by decide) ?_
  refine va_put (D := (dC, dI)) (ci := 11) (v := .int 0) (ty := .int) (C := RX11) (T := TX11) (N := 22) hx hb hts in_X11_save_X11 tyX11 tyX11_ok nmX11 hown hK hP hD hS 0 rfl rfl 7 (by decide) (hts _ lk_X11_save_RX11_51) (fun _ h9 => h9) rfl (by decide +kernel) rfl rfl (Nat.le_of_ble_eq_true rfl) dX11_save_2 (fun H locs hP hD hS => ?_)
  have hP : va_P (dC, dI) vwCl [(a 0, .inr (11, [.ref (a 1), .ref (a 2), .ref (a 3), .ref (a 4), .int M_isSaved, .int M_changes, .int M_isWithin, .int 0, .ref (a 5), .int M_length, .int M_fault, .int M_failed, .ref (a 6), .int M_signMany, .ref (a 7), .ref (a 8), .int M_many, .ref (a 9), .ref (a 10), .int M_at, .ref (a 11), .int M_toldMany])), (a 1, .inl (Y 0, 238, .inl M_g)), (a 2, .inl (Y 0, 1904, .inl M_kept)), (a 3, .inl (Y 0, 238, .inl M_saved)), (a 4, .inl (Y 0, 238, .inl M_before)), (a 5, .inl (Y 0, 60, .inl M_input)), (a 6, .inl (Y 2, 100, .inl M_signs)), (a 7, .inl (Y 0, 6, .inl M_column)), (a 8, .inl (Y 0, 6, .inl M_loads)), (a 9, .inl (Y 0, 2048, .inl M_sums)), (a 10, .inl (Y 0, 2048, .inl M_groups)), (a 11, .inl (Y 0, 155, .inl M_told))] H := hP
  have hD : va_D A [(a 0, .inr (11, [.ref (a 1), .ref (a 2), .ref (a 3), .ref (a 4), .int M_isSaved, .int M_changes, .int M_isWithin, .int 0, .ref (a 5), .int M_length, .int M_fault, .int M_failed, .ref (a 6), .int M_signMany, .ref (a 7), .ref (a 8), .int M_many, .ref (a 9), .ref (a 10), .int M_at, .ref (a 11), .int M_toldMany])), (a 1, .inl (Y 0, 238, .inl M_g)), (a 2, .inl (Y 0, 1904, .inl M_kept)), (a 3, .inl (Y 0, 238, .inl M_saved)), (a 4, .inl (Y 0, 238, .inl M_before)), (a 5, .inl (Y 0, 60, .inl M_input)), (a 6, .inl (Y 2, 100, .inl M_signs)), (a 7, .inl (Y 0, 6, .inl M_column)), (a 8, .inl (Y 0, 6, .inl M_loads)), (a 9, .inl (Y 0, 2048, .inl M_sums)), (a 10, .inl (Y 0, 2048, .inl M_groups)), (a 11, .inl (Y 0, 155, .inl M_told))] := hD
  refine lv_aload_n hx hb dX11_save_5 rfl (lv_at hl 0 rfl) ?_
  refine lv_iconst (v := 1) hx hb dX11_save_6 (by decide) ?_
  refine va_put (D := (dC, dI)) (ci := 11) (v := .int 1) (ty := .boolean) (C := RX11) (T := TX11) (N := 22) hx hb hts in_X11_save_X11 tyX11 tyX11_ok nmX11 hown hK hP hD hS 0 rfl rfl 4 (by decide) (hts _ lk_X11_save_RX11_288) (fun _ h9 => h9) rfl (by decide +kernel) rfl rfl (Nat.le_of_ble_eq_true rfl) dX11_save_7 (fun H locs hP hD hS => ?_)
  have hP : va_P (dC, dI) vwCl [(a 0, .inr (11, [.ref (a 1), .ref (a 2), .ref (a 3), .ref (a 4), .int 1, .int M_changes, .int M_isWithin, .int 0, .ref (a 5), .int M_length, .int M_fault, .int M_failed, .ref (a 6), .int M_signMany, .ref (a 7), .ref (a 8), .int M_many, .ref (a 9), .ref (a 10), .int M_at, .ref (a 11), .int M_toldMany])), (a 1, .inl (Y 0, 238, .inl M_g)), (a 2, .inl (Y 0, 1904, .inl M_kept)), (a 3, .inl (Y 0, 238, .inl M_saved)), (a 4, .inl (Y 0, 238, .inl M_before)), (a 5, .inl (Y 0, 60, .inl M_input)), (a 6, .inl (Y 2, 100, .inl M_signs)), (a 7, .inl (Y 0, 6, .inl M_column)), (a 8, .inl (Y 0, 6, .inl M_loads)), (a 9, .inl (Y 0, 2048, .inl M_sums)), (a 10, .inl (Y 0, 2048, .inl M_groups)), (a 11, .inl (Y 0, 155, .inl M_told))] H := hP
  have hD : va_D A [(a 0, .inr (11, [.ref (a 1), .ref (a 2), .ref (a 3), .ref (a 4), .int 1, .int M_changes, .int M_isWithin, .int 0, .ref (a 5), .int M_length, .int M_fault, .int M_failed, .ref (a 6), .int M_signMany, .ref (a 7), .ref (a 8), .int M_many, .ref (a 9), .ref (a 10), .int M_at, .ref (a 11), .int M_toldMany])), (a 1, .inl (Y 0, 238, .inl M_g)), (a 2, .inl (Y 0, 1904, .inl M_kept)), (a 3, .inl (Y 0, 238, .inl M_saved)), (a 4, .inl (Y 0, 238, .inl M_before)), (a 5, .inl (Y 0, 60, .inl M_input)), (a 6, .inl (Y 2, 100, .inl M_signs)), (a 7, .inl (Y 0, 6, .inl M_column)), (a 8, .inl (Y 0, 6, .inl M_loads)), (a 9, .inl (Y 0, 2048, .inl M_sums)), (a 10, .inl (Y 0, 2048, .inl M_groups)), (a 11, .inl (Y 0, 155, .inl M_told))] := hD
  refine lv_aload_n hx hb dX11_save_10 rfl (lv_at hl 0 rfl) ?_
  refine va_get (D := (dC, dI)) (ci := 11) (v := .ref (a 1)) (C := RX11) (T := TX11) (N := 22) hx hb hts in_X11_save_X11 hown hK hP 0 rfl rfl 0 (by decide) (hts _ lk_X11_save_RX11_7) (fun _ h9 => h9) rfl dX11_save_11 ?_
  refine lv_iconst (v := 0) hx hb dX11_save_14 (by decide) ?_
  refine lv_aload_n hx hb dX11_save_15 rfl (lv_at hl 0 rfl) ?_
  refine va_get (D := (dC, dI)) (ci := 11) (v := .ref (a 3)) (C := RX11) (T := TX11) (N := 22) hx hb hts in_X11_save_X11 hown hK hP 0 rfl rfl 2 (by decide) (hts _ lk_X11_save_RX11_16) (fun _ h9 => h9) rfl dX11_save_16 ?_
  refine lv_iconst (v := 0) hx hb dX11_save_19 (by decide) ?_
  obtain ⟨w1, hr2, hf⟩ := wkb1_s hf
  refine wk_esv (As := [.ref (a 1), .int 0, .ref (a 3), .int 0]) (rest := []) (wc := ([((fun k => a (k + 1)) 0, .inl (Y 0, 238, .inl M_g))] ++ [((fun k => a (k + 3)) 0, .inl (Y 0, 238, .inl M_saved))])) (w1 := ([((fun k => a (k + 1)) 0, .inl (Y 0, 238, .inl M_g))] ++ [((fun k => a (k + 3)) 0, .inl (Y 0, 238, .inl w1))])) (wr := [(a 0, .inr (11, [.ref (a 1), .ref (a 2), .ref (a 3), .ref (a 4), .int 1, .int M_changes, .int M_isWithin, .int 0, .ref (a 5), .int M_length, .int M_fault, .int M_failed, .ref (a 6), .int M_signMany, .ref (a 7), .ref (a 8), .int M_many, .ref (a 9), .ref (a 10), .int M_at, .ref (a 11), .int M_toldMany])), (a 2, .inl (Y 0, 1904, .inl M_kept)), (a 4, .inl (Y 0, 238, .inl M_before)), (a 5, .inl (Y 0, 60, .inl M_input)), (a 6, .inl (Y 2, 100, .inl M_signs)), (a 7, .inl (Y 0, 6, .inl M_column)), (a 8, .inl (Y 0, 6, .inl M_loads)), (a 9, .inl (Y 0, 2048, .inl M_sums)), (a 10, .inl (Y 0, 2048, .inl M_groups)), (a 11, .inl (Y 0, 155, .inl M_told))]) ⟨hx, hb, hml, hown, hts⟩ (c_X11_copies_238_238 l dC dI Y (fun k => a (k + 1)) (fun k => a (k + 3)) M_g M_saved 0 0 H.size w1 hr2) (va_cwS 4 hts gX11_save_X11_copies rfl rfl rfl (by decide +kernel) ⟨Nat.le_of_ble_eq_true rfl, Nat.le_of_ble_eq_true rfl⟩) hK hP hD hS hA [1, 3] [0, 2, 4, 5, 6, 7, 8, 9, 10, 11] rfl rfl (by decide) (by decide) (by decide) rfl hl.1 rfl (Nat.le_of_ble_eq_true rfl) dX11_save_20 ⟨Nat.le_of_ble_eq_true rfl, Nat.le_of_ble_eq_true rfl⟩ (fun H locs hP hD hS => ?_)
  have hP : va_P (dC, dI) vwCl [(a 0, .inr (11, [.ref (a 1), .ref (a 2), .ref (a 3), .ref (a 4), .int 1, .int M_changes, .int M_isWithin, .int 0, .ref (a 5), .int M_length, .int M_fault, .int M_failed, .ref (a 6), .int M_signMany, .ref (a 7), .ref (a 8), .int M_many, .ref (a 9), .ref (a 10), .int M_at, .ref (a 11), .int M_toldMany])), (a 2, .inl (Y 0, 1904, .inl M_kept)), (a 4, .inl (Y 0, 238, .inl M_before)), (a 5, .inl (Y 0, 60, .inl M_input)), (a 6, .inl (Y 2, 100, .inl M_signs)), (a 7, .inl (Y 0, 6, .inl M_column)), (a 8, .inl (Y 0, 6, .inl M_loads)), (a 9, .inl (Y 0, 2048, .inl M_sums)), (a 10, .inl (Y 0, 2048, .inl M_groups)), (a 11, .inl (Y 0, 155, .inl M_told)), (a 1, .inl (Y 0, 238, .inl M_g)), (a 3, .inl (Y 0, 238, .inl w1))] H := hP
  have hD : va_D A [(a 0, .inr (11, [.ref (a 1), .ref (a 2), .ref (a 3), .ref (a 4), .int 1, .int M_changes, .int M_isWithin, .int 0, .ref (a 5), .int M_length, .int M_fault, .int M_failed, .ref (a 6), .int M_signMany, .ref (a 7), .ref (a 8), .int M_many, .ref (a 9), .ref (a 10), .int M_at, .ref (a 11), .int M_toldMany])), (a 2, .inl (Y 0, 1904, .inl M_kept)), (a 4, .inl (Y 0, 238, .inl M_before)), (a 5, .inl (Y 0, 60, .inl M_input)), (a 6, .inl (Y 2, 100, .inl M_signs)), (a 7, .inl (Y 0, 6, .inl M_column)), (a 8, .inl (Y 0, 6, .inl M_loads)), (a 9, .inl (Y 0, 2048, .inl M_sums)), (a 10, .inl (Y 0, 2048, .inl M_groups)), (a 11, .inl (Y 0, 155, .inl M_told)), (a 1, .inl (Y 0, 238, .inl M_g)), (a 3, .inl (Y 0, 238, .inl w1))] := hD
  refine lv_aload_n hx hb dX11_save_23 rfl (lv_at hl 0 rfl) ?_
  refine va_get (D := (dC, dI)) (ci := 11) (v := .ref (a 1)) (C := RX11) (T := TX11) (N := 22) hx hb hts in_X11_save_X11 hown hK hP 0 rfl rfl 0 (by decide) (hts _ lk_X11_save_RX11_7) (fun _ h9 => h9) rfl dX11_save_24 ?_
  refine lv_iconst (v := 0) hx hb dX11_save_27 (by decide) ?_
  refine wk_iald hx hb hK hP 10 0 (k := 0) rfl rfl (vp_lit (by decide)) (by decide) dX11_save_28 ?_
  obtain ⟨e0, e1, e2, e3⟩ := wke4 hf
  subst e0
  subst e1
  subst e2
  subst e3
  have hP9 := hP.sub (ws' := (wX11 Y a M_g M_kept w1 M_before 1 M_changes M_isWithin 0 M_input M_length M_fault M_failed M_signs M_signMany M_column M_loads M_many M_sums M_groups M_at M_told M_toldMany)) [0, 10, 1, 11, 2, 3, 4, 5, 6, 7, 8, 9] rfl
  have hD9 := hD.sub (ws' := (wX11 Y a M_g M_kept w1 M_before 1 M_changes M_isWithin 0 M_input M_length M_fault M_failed M_signs M_signMany M_column M_loads M_many M_sums M_groups M_at M_told M_toldMany)) [0, 10, 1, 11, 2, 3, 4, 5, 6, 7, 8, 9] (by decide) rfl
  exact W.iret (v := (M_g 0)) hx hb hr (fun t ht hW => ⟨⟨(M_g 0), (), rfl, rfl, by rw [ht]; exact hP9, va_K.moved hW.alike hK, hD9⟩, hS.F ht⟩) hS.2.2 dX11_save_29
theorem lk_X11_restore_RX11_7 : Cond.fieldLink RX11 7 "CircusLedgerModel" "g" "[I" ∈ wsX11_restore := by decide +kernel
theorem lk_X11_restore_RX11_16 : Cond.fieldLink RX11 16 "CircusLedgerModel" "saved" "[I" ∈ wsX11_restore := by decide +kernel
theorem lk_X11_restore_RX11_58 : Cond.fieldLink RX11 58 "CircusLedgerModel" "changes" "I" ∈ wsX11_restore := by decide +kernel
theorem lk_X11_restore_RX11_288 : Cond.fieldLink RX11 288 "CircusLedgerModel" "isSaved" "Z" ∈ wsX11_restore := by decide +kernel
theorem in_X11_restore_X11 : ∀ w ∈ u_ws RX11 TX11 22, w ∈ wsX11_restore := by decide +kernel
def f_X11_restore_L13 (M_saved : Nat → Int32) (M_isSaved : Int32) (y0 : Int32) (M_g : (Nat → Int32)) (M_changes : Int32) (M_code : Int32) : Option (Int32 × (Nat → Int32) × Int32 × Int32) :=
    wkb2 (f_X11_fails M_code y0) (fun r1 w2 =>
    if r1 = 0 then
      (wkb1 (f_X11_copies_238_238 M_saved M_g 0 0) (fun w5 =>
      some ((w5 0), w5, 0, w2)))
    else
      (some (0, M_g, M_changes, w2)))
def f_X11_restore (M_g : Nat → Int32) (M_saved : Nat → Int32) (M_isSaved : Int32) (M_changes : Int32) (M_code : Int32) : Option (Int32 × (Nat → Int32) × Int32 × Int32) :=
  if M_isSaved = 0 then
    (f_X11_restore_L13 M_saved M_isSaved 1 M_g M_changes M_code)
  else
    (f_X11_restore_L13 M_saved M_isSaved 0 M_g M_changes M_code)
set_option maxHeartbeats 4000000 in
set_option maxRecDepth 100000 in
theorem wl_X11_restore_L13 {p : Program} {l : Launch} {e : Env} {s : State} {m : MethodId} {args : Array Value} {below : List Frame} {meth : Method} {c : Code} {dC : Nat → ClassId} {dI : Nat → Nat → Nat} {Y : Nat → ClassId} {a : Nat → Nat} {M_kept : Nat → Int32} {M_saved : Nat → Int32} {M_before : Nat → Int32} {M_isSaved : Int32} {M_isWithin : Int32} {M_input : Nat → Int32} {M_length : Int32} {M_fault : Int32} {M_failed : Int32} {M_signs : Nat → Int32} {M_signMany : Int32} {M_column : Nat → Int32} {M_loads : Nat → Int32} {M_many : Int32} {M_sums : Nat → Int32} {M_groups : Nat → Int32} {M_at : Int32} {M_told : Nat → Int32} {M_toldMany : Int32}  {r : Int32} {zM_g : Nat → Int32} {zM_changes : Int32} {zM_code : Int32}  (C0 : wk_C p s m args meth c cX11_restore 1 (some .int) wsX11_restore RX11) {A : Nat → Prop} (hK : va_K (dC, dI) vwCl (vTy Y) s) (hA : ∀ q, s.heap.size ≤ q → A q) : ∀  (y0 : Int32) (M_g : Nat → Int32) (M_changes : Int32) (M_code : Int32), f_X11_restore_L13 M_saved M_isSaved y0 M_g M_changes M_code = some (r, zM_g, zM_changes, zM_code) → ∀ (H : Heap) (locs : List Loc), va_P (dC, dI) vwCl (wX11 Y a M_g M_kept M_saved M_before M_isSaved M_changes M_isWithin M_code M_input M_length M_fault M_failed M_signs M_signMany M_column M_loads M_many M_sums M_groups M_at M_told M_toldMany) H → va_D A (wX11 Y a M_g M_kept M_saved M_before M_isSaved M_changes M_isWithin M_code M_input M_length M_fault M_failed M_signs M_signMany M_column M_loads M_many M_sums M_groups M_at M_told M_toldMany) → va_S A s.heap H locs → ∀ (ls : Array Slot), lv_has ls 1 [(0, .ref (a 0))] → W p l e (headSpec wsX11_restore ({ frames := 1, cells := 0, slots := 0, locals := 24 } : Room)).room s m args below meth c H locs 0 0 (MQ below (va_Qi (fun r2 (_ : Unit) => r2 = r) (fun _ t => wk_X (dC, dI) Y (wX11 Y a zM_g M_kept M_saved M_before M_isSaved zM_changes M_isWithin zM_code M_input M_length M_fault M_failed M_signs M_signMany M_column M_loads M_many M_sums M_groups M_at M_told M_toldMany) A t) A) args s 0 0 A) (F0 m 13 ls [.int y0, .ref (a 0)]) := by
  obtain ⟨hx, hb, hml, hr, hlocks, hown, hts⟩ := id C0
  intro y0 M_g M_changes M_code hf H locs hP hD hS ls hl
  rw [f_X11_restore_L13] at hf
  have hP : va_P (dC, dI) vwCl [(a 0, .inr (11, [.ref (a 1), .ref (a 2), .ref (a 3), .ref (a 4), .int M_isSaved, .int M_changes, .int M_isWithin, .int M_code, .ref (a 5), .int M_length, .int M_fault, .int M_failed, .ref (a 6), .int M_signMany, .ref (a 7), .ref (a 8), .int M_many, .ref (a 9), .ref (a 10), .int M_at, .ref (a 11), .int M_toldMany])), (a 1, .inl (Y 0, 238, .inl M_g)), (a 2, .inl (Y 0, 1904, .inl M_kept)), (a 3, .inl (Y 0, 238, .inl M_saved)), (a 4, .inl (Y 0, 238, .inl M_before)), (a 5, .inl (Y 0, 60, .inl M_input)), (a 6, .inl (Y 2, 100, .inl M_signs)), (a 7, .inl (Y 0, 6, .inl M_column)), (a 8, .inl (Y 0, 6, .inl M_loads)), (a 9, .inl (Y 0, 2048, .inl M_sums)), (a 10, .inl (Y 0, 2048, .inl M_groups)), (a 11, .inl (Y 0, 155, .inl M_told))] H := hP
  have hD : va_D A [(a 0, .inr (11, [.ref (a 1), .ref (a 2), .ref (a 3), .ref (a 4), .int M_isSaved, .int M_changes, .int M_isWithin, .int M_code, .ref (a 5), .int M_length, .int M_fault, .int M_failed, .ref (a 6), .int M_signMany, .ref (a 7), .ref (a 8), .int M_many, .ref (a 9), .ref (a 10), .int M_at, .ref (a 11), .int M_toldMany])), (a 1, .inl (Y 0, 238, .inl M_g)), (a 2, .inl (Y 0, 1904, .inl M_kept)), (a 3, .inl (Y 0, 238, .inl M_saved)), (a 4, .inl (Y 0, 238, .inl M_before)), (a 5, .inl (Y 0, 60, .inl M_input)), (a 6, .inl (Y 2, 100, .inl M_signs)), (a 7, .inl (Y 0, 6, .inl M_column)), (a 8, .inl (Y 0, 6, .inl M_loads)), (a 9, .inl (Y 0, 2048, .inl M_sums)), (a 10, .inl (Y 0, 2048, .inl M_groups)), (a 11, .inl (Y 0, 155, .inl M_told))] := hD
  obtain ⟨r1, w2, hr3, hf⟩ := wkb2_s hf
  refine wk_evi (As := [.int y0]) (rest := []) (wc := (wX11 Y a M_g M_kept M_saved M_before M_isSaved M_changes M_isWithin M_code M_input M_length M_fault M_failed M_signs M_signMany M_column M_loads M_many M_sums M_groups M_at M_told M_toldMany)) (w1 := (wX11 Y a M_g M_kept M_saved M_before M_isSaved M_changes M_isWithin w2 M_input M_length M_fault M_failed M_signs M_signMany M_column M_loads M_many M_sums M_groups M_at M_told M_toldMany)) (wr := []) ⟨hx, hb, hml, hown, hts⟩ (c_X11_fails l dC dI Y a M_g M_kept M_saved M_before M_isSaved M_changes M_isWithin M_code M_input M_length M_fault M_failed M_signs M_signMany M_column M_loads M_many M_sums M_groups M_at M_told M_toldMany y0 H.size r1 w2 hr3) (cwV 1 hts gX11_restore_X11_fails rfl rfl rfl (by decide +kernel) ⟨Nat.le_of_ble_eq_true rfl, Nat.le_of_ble_eq_true rfl⟩) hK hP hD hS hA [0, 1, 2, 3, 4, 5, 6, 7, 8, 9, 10, 11] [] rfl rfl (by decide) (by decide) (by decide) (va_recv hK hP (ci := 11) (q0 := 0) rfl rfl) rfl hl.1 rfl (Nat.le_of_ble_eq_true rfl) dX11_restore_13 ⟨Nat.le_of_ble_eq_true rfl, Nat.le_of_ble_eq_true rfl⟩ (fun H locs hP hD hS => ?_)
  have hP : va_P (dC, dI) vwCl [(a 0, .inr (11, [.ref (a 1), .ref (a 2), .ref (a 3), .ref (a 4), .int M_isSaved, .int M_changes, .int M_isWithin, .int w2, .ref (a 5), .int M_length, .int M_fault, .int M_failed, .ref (a 6), .int M_signMany, .ref (a 7), .ref (a 8), .int M_many, .ref (a 9), .ref (a 10), .int M_at, .ref (a 11), .int M_toldMany])), (a 1, .inl (Y 0, 238, .inl M_g)), (a 2, .inl (Y 0, 1904, .inl M_kept)), (a 3, .inl (Y 0, 238, .inl M_saved)), (a 4, .inl (Y 0, 238, .inl M_before)), (a 5, .inl (Y 0, 60, .inl M_input)), (a 6, .inl (Y 2, 100, .inl M_signs)), (a 7, .inl (Y 0, 6, .inl M_column)), (a 8, .inl (Y 0, 6, .inl M_loads)), (a 9, .inl (Y 0, 2048, .inl M_sums)), (a 10, .inl (Y 0, 2048, .inl M_groups)), (a 11, .inl (Y 0, 155, .inl M_told))] H := hP
  have hD : va_D A [(a 0, .inr (11, [.ref (a 1), .ref (a 2), .ref (a 3), .ref (a 4), .int M_isSaved, .int M_changes, .int M_isWithin, .int w2, .ref (a 5), .int M_length, .int M_fault, .int M_failed, .ref (a 6), .int M_signMany, .ref (a 7), .ref (a 8), .int M_many, .ref (a 9), .ref (a 10), .int M_at, .ref (a 11), .int M_toldMany])), (a 1, .inl (Y 0, 238, .inl M_g)), (a 2, .inl (Y 0, 1904, .inl M_kept)), (a 3, .inl (Y 0, 238, .inl M_saved)), (a 4, .inl (Y 0, 238, .inl M_before)), (a 5, .inl (Y 0, 60, .inl M_input)), (a 6, .inl (Y 2, 100, .inl M_signs)), (a 7, .inl (Y 0, 6, .inl M_column)), (a 8, .inl (Y 0, 6, .inl M_loads)), (a 9, .inl (Y 0, 2048, .inl M_sums)), (a 10, .inl (Y 0, 2048, .inl M_groups)), (a 11, .inl (Y 0, 155, .inl M_told))] := hD
  refine lv_if_eq (tgt := 21) hx hb dX11_restore_16 (by decide) (fun q4 => ?_) (fun q4 => ?_)
  · have hf := wk_t hf q4
    refine lv_aload_n hx hb dX11_restore_21 rfl (lv_at hl 0 rfl) ?_
    refine va_get (D := (dC, dI)) (ci := 11) (v := .ref (a 3)) (C := RX11) (T := TX11) (N := 22) hx hb hts in_X11_restore_X11 hown hK hP 0 rfl rfl 2 (by decide) (hts _ lk_X11_restore_RX11_16) (fun _ h9 => h9) rfl dX11_restore_22 ?_
    refine lv_iconst (v := 0) hx hb dX11_restore_25 (by decide) ?_
    refine lv_aload_n hx hb dX11_restore_26 rfl (lv_at hl 0 rfl) ?_
    refine va_get (D := (dC, dI)) (ci := 11) (v := .ref (a 1)) (C := RX11) (T := TX11) (N := 22) hx hb hts in_X11_restore_X11 hown hK hP 0 rfl rfl 0 (by decide) (hts _ lk_X11_restore_RX11_7) (fun _ h9 => h9) rfl dX11_restore_27 ?_
    refine lv_iconst (v := 0) hx hb dX11_restore_30 (by decide) ?_
    obtain ⟨w5, hr6, hf⟩ := wkb1_s hf
    refine wk_esv (As := [.ref (a 3), .int 0, .ref (a 1), .int 0]) (rest := []) (wc := ([((fun k => a (k + 3)) 0, .inl (Y 0, 238, .inl M_saved))] ++ [((fun k => a (k + 1)) 0, .inl (Y 0, 238, .inl M_g))])) (w1 := ([((fun k => a (k + 3)) 0, .inl (Y 0, 238, .inl M_saved))] ++ [((fun k => a (k + 1)) 0, .inl (Y 0, 238, .inl w5))])) (wr := [(a 0, .inr (11, [.ref (a 1), .ref (a 2), .ref (a 3), .ref (a 4), .int M_isSaved, .int M_changes, .int M_isWithin, .int w2, .ref (a 5), .int M_length, .int M_fault, .int M_failed, .ref (a 6), .int M_signMany, .ref (a 7), .ref (a 8), .int M_many, .ref (a 9), .ref (a 10), .int M_at, .ref (a 11), .int M_toldMany])), (a 2, .inl (Y 0, 1904, .inl M_kept)), (a 4, .inl (Y 0, 238, .inl M_before)), (a 5, .inl (Y 0, 60, .inl M_input)), (a 6, .inl (Y 2, 100, .inl M_signs)), (a 7, .inl (Y 0, 6, .inl M_column)), (a 8, .inl (Y 0, 6, .inl M_loads)), (a 9, .inl (Y 0, 2048, .inl M_sums)), (a 10, .inl (Y 0, 2048, .inl M_groups)), (a 11, .inl (Y 0, 155, .inl M_told))]) ⟨hx, hb, hml, hown, hts⟩ (c_X11_copies_238_238 l dC dI Y (fun k => a (k + 3)) (fun k => a (k + 1)) M_saved M_g 0 0 H.size w5 hr6) (va_cwS 4 hts gX11_restore_X11_copies rfl rfl rfl (by decide +kernel) ⟨Nat.le_of_ble_eq_true rfl, Nat.le_of_ble_eq_true rfl⟩) hK hP hD hS hA [3, 1] [0, 2, 4, 5, 6, 7, 8, 9, 10, 11] rfl rfl (by decide) (by decide) (by decide) rfl hl.1 rfl (Nat.le_of_ble_eq_true rfl) dX11_restore_31 ⟨Nat.le_of_ble_eq_true rfl, Nat.le_of_ble_eq_true rfl⟩ (fun H locs hP hD hS => ?_)
    have hP : va_P (dC, dI) vwCl [(a 0, .inr (11, [.ref (a 1), .ref (a 2), .ref (a 3), .ref (a 4), .int M_isSaved, .int M_changes, .int M_isWithin, .int w2, .ref (a 5), .int M_length, .int M_fault, .int M_failed, .ref (a 6), .int M_signMany, .ref (a 7), .ref (a 8), .int M_many, .ref (a 9), .ref (a 10), .int M_at, .ref (a 11), .int M_toldMany])), (a 2, .inl (Y 0, 1904, .inl M_kept)), (a 4, .inl (Y 0, 238, .inl M_before)), (a 5, .inl (Y 0, 60, .inl M_input)), (a 6, .inl (Y 2, 100, .inl M_signs)), (a 7, .inl (Y 0, 6, .inl M_column)), (a 8, .inl (Y 0, 6, .inl M_loads)), (a 9, .inl (Y 0, 2048, .inl M_sums)), (a 10, .inl (Y 0, 2048, .inl M_groups)), (a 11, .inl (Y 0, 155, .inl M_told)), (a 3, .inl (Y 0, 238, .inl M_saved)), (a 1, .inl (Y 0, 238, .inl w5))] H := hP
    have hD : va_D A [(a 0, .inr (11, [.ref (a 1), .ref (a 2), .ref (a 3), .ref (a 4), .int M_isSaved, .int M_changes, .int M_isWithin, .int w2, .ref (a 5), .int M_length, .int M_fault, .int M_failed, .ref (a 6), .int M_signMany, .ref (a 7), .ref (a 8), .int M_many, .ref (a 9), .ref (a 10), .int M_at, .ref (a 11), .int M_toldMany])), (a 2, .inl (Y 0, 1904, .inl M_kept)), (a 4, .inl (Y 0, 238, .inl M_before)), (a 5, .inl (Y 0, 60, .inl M_input)), (a 6, .inl (Y 2, 100, .inl M_signs)), (a 7, .inl (Y 0, 6, .inl M_column)), (a 8, .inl (Y 0, 6, .inl M_loads)), (a 9, .inl (Y 0, 2048, .inl M_sums)), (a 10, .inl (Y 0, 2048, .inl M_groups)), (a 11, .inl (Y 0, 155, .inl M_told)), (a 3, .inl (Y 0, 238, .inl M_saved)), (a 1, .inl (Y 0, 238, .inl w5))] := hD
    refine lv_aload_n hx hb dX11_restore_34 rfl (lv_at hl 0 rfl) ?_
    refine lv_iconst (v := 0) hx hb dX11_restore_35 (by decide) ?_
    refine va_put (D := (dC, dI)) (ci := 11) (v := .int 0) (ty := .int) (C := RX11) (T := TX11) (N := 22) hx hb hts in_X11_restore_X11 tyX11 tyX11_ok nmX11 hown hK hP hD hS 0 rfl rfl 5 (by decide) (hts _ lk_X11_restore_RX11_58) (fun _ h9 => h9) rfl (by decide +kernel) rfl rfl (Nat.le_of_ble_eq_true rfl) dX11_restore_36 (fun H locs hP hD hS => ?_)
    have hP : va_P (dC, dI) vwCl [(a 0, .inr (11, [.ref (a 1), .ref (a 2), .ref (a 3), .ref (a 4), .int M_isSaved, .int 0, .int M_isWithin, .int w2, .ref (a 5), .int M_length, .int M_fault, .int M_failed, .ref (a 6), .int M_signMany, .ref (a 7), .ref (a 8), .int M_many, .ref (a 9), .ref (a 10), .int M_at, .ref (a 11), .int M_toldMany])), (a 2, .inl (Y 0, 1904, .inl M_kept)), (a 4, .inl (Y 0, 238, .inl M_before)), (a 5, .inl (Y 0, 60, .inl M_input)), (a 6, .inl (Y 2, 100, .inl M_signs)), (a 7, .inl (Y 0, 6, .inl M_column)), (a 8, .inl (Y 0, 6, .inl M_loads)), (a 9, .inl (Y 0, 2048, .inl M_sums)), (a 10, .inl (Y 0, 2048, .inl M_groups)), (a 11, .inl (Y 0, 155, .inl M_told)), (a 3, .inl (Y 0, 238, .inl M_saved)), (a 1, .inl (Y 0, 238, .inl w5))] H := hP
    have hD : va_D A [(a 0, .inr (11, [.ref (a 1), .ref (a 2), .ref (a 3), .ref (a 4), .int M_isSaved, .int 0, .int M_isWithin, .int w2, .ref (a 5), .int M_length, .int M_fault, .int M_failed, .ref (a 6), .int M_signMany, .ref (a 7), .ref (a 8), .int M_many, .ref (a 9), .ref (a 10), .int M_at, .ref (a 11), .int M_toldMany])), (a 2, .inl (Y 0, 1904, .inl M_kept)), (a 4, .inl (Y 0, 238, .inl M_before)), (a 5, .inl (Y 0, 60, .inl M_input)), (a 6, .inl (Y 2, 100, .inl M_signs)), (a 7, .inl (Y 0, 6, .inl M_column)), (a 8, .inl (Y 0, 6, .inl M_loads)), (a 9, .inl (Y 0, 2048, .inl M_sums)), (a 10, .inl (Y 0, 2048, .inl M_groups)), (a 11, .inl (Y 0, 155, .inl M_told)), (a 3, .inl (Y 0, 238, .inl M_saved)), (a 1, .inl (Y 0, 238, .inl w5))] := hD
    refine lv_aload_n hx hb dX11_restore_39 rfl (lv_at hl 0 rfl) ?_
    refine va_get (D := (dC, dI)) (ci := 11) (v := .ref (a 1)) (C := RX11) (T := TX11) (N := 22) hx hb hts in_X11_restore_X11 hown hK hP 0 rfl rfl 0 (by decide) (hts _ lk_X11_restore_RX11_7) (fun _ h9 => h9) rfl dX11_restore_40 ?_
    refine lv_iconst (v := 0) hx hb dX11_restore_43 (by decide) ?_
    refine wk_iald hx hb hK hP 11 0 (k := 0) rfl rfl (vp_lit (by decide)) (by decide) dX11_restore_44 ?_
    obtain ⟨e0, e1, e2, e3⟩ := wke4 hf
    subst e0
    subst e1
    subst e2
    subst e3
    have hP9 := hP.sub (ws' := (wX11 Y a w5 M_kept M_saved M_before M_isSaved 0 M_isWithin w2 M_input M_length M_fault M_failed M_signs M_signMany M_column M_loads M_many M_sums M_groups M_at M_told M_toldMany)) [0, 11, 1, 10, 2, 3, 4, 5, 6, 7, 8, 9] rfl
    have hD9 := hD.sub (ws' := (wX11 Y a w5 M_kept M_saved M_before M_isSaved 0 M_isWithin w2 M_input M_length M_fault M_failed M_signs M_signMany M_column M_loads M_many M_sums M_groups M_at M_told M_toldMany)) [0, 11, 1, 10, 2, 3, 4, 5, 6, 7, 8, 9] (by decide) rfl
    exact W.iret (v := (w5 0)) hx hb hr (fun t ht hW => ⟨⟨(w5 0), (), rfl, rfl, by rw [ht]; exact hP9, va_K.moved hW.alike hK, hD9⟩, hS.F ht⟩) hS.2.2 dX11_restore_45
  · have hf := wk_f hf q4
    refine lv_iconst (v := 0) hx hb dX11_restore_19 (by decide) ?_
    obtain ⟨e0, e1, e2, e3⟩ := wke4 hf
    subst e0
    subst e1
    subst e2
    subst e3
    have hP9 := hP.sub (ws' := (wX11 Y a M_g M_kept M_saved M_before M_isSaved M_changes M_isWithin w2 M_input M_length M_fault M_failed M_signs M_signMany M_column M_loads M_many M_sums M_groups M_at M_told M_toldMany)) [0, 1, 2, 3, 4, 5, 6, 7, 8, 9, 10, 11] rfl
    have hD9 := hD.sub (ws' := (wX11 Y a M_g M_kept M_saved M_before M_isSaved M_changes M_isWithin w2 M_input M_length M_fault M_failed M_signs M_signMany M_column M_loads M_many M_sums M_groups M_at M_told M_toldMany)) [0, 1, 2, 3, 4, 5, 6, 7, 8, 9, 10, 11] (by decide) rfl
    exact W.iret (v := 0) hx hb hr (fun t ht hW => ⟨⟨0, (), rfl, rfl, by rw [ht]; exact hP9, va_K.moved hW.alike hK, hD9⟩, hS.F ht⟩) hS.2.2 dX11_restore_20
set_option maxHeartbeats 4000000 in
set_option maxRecDepth 100000 in
theorem c_X11_restore (l : Launch) (dC : Nat → ClassId) (dI : Nat → Nat → Nat) (Y : Nat → ClassId) (a : Nat → Nat) (M_g : Nat → Int32) (M_kept : Nat → Int32) (M_saved : Nat → Int32) (M_before : Nat → Int32) (M_isSaved : Int32) (M_changes : Int32) (M_isWithin : Int32) (M_code : Int32) (M_input : Nat → Int32) (M_length : Int32) (M_fault : Int32) (M_failed : Int32) (M_signs : Nat → Int32) (M_signMany : Int32) (M_column : Nat → Int32) (M_loads : Nat → Int32) (M_many : Int32) (M_sums : Nat → Int32) (M_groups : Nat → Int32) (M_at : Int32) (M_told : Nat → Int32) (M_toldMany : Int32)  (sz : Nat) (r : Int32) (zM_g : Nat → Int32) (zM_changes : Int32) (zM_code : Int32) (hf : f_X11_restore M_g M_saved M_isSaved M_changes M_code = some (r, zM_g, zM_changes, zM_code)) : Met l yX11_restore wsX11_restore ({ frames := 1, cells := 0, slots := 0, locals := 24 } : Room) (va_Pc [.ref (a 0)] (wk_E (dC, dI) Y (wX11 Y a M_g M_kept M_saved M_before M_isSaved M_changes M_isWithin M_code M_input M_length M_fault M_failed M_signs M_signMany M_column M_loads M_many M_sums M_groups M_at M_told M_toldMany) sz)) (va_Qi (fun r2 (_ : Unit) => r2 = r) (fun _ t => wk_X (dC, dI) Y (wX11 Y a zM_g M_kept M_saved M_before M_isSaved zM_changes M_isWithin zM_code M_input M_length M_fault M_failed M_signs M_signMany M_column M_loads M_many M_sums M_groups M_at M_told M_toldMany) (va_A (wX11 Y a M_g M_kept M_saved M_before M_isSaved M_changes M_isWithin M_code M_input M_length M_fault M_failed M_signs M_signMany M_column M_loads M_many M_sums M_groups M_at M_told M_toldMany) sz) t) (va_A (wX11 Y a M_g M_kept M_saved M_before M_isSaved M_changes M_isWithin M_code M_input M_length M_fault M_failed M_signs M_signMany M_column M_loads M_many M_sums M_groups M_at M_told M_toldMany) sz)) 0 0 (va_A (wX11 Y a M_g M_kept M_saved M_before M_isSaved M_changes M_isWithin M_code M_input M_length M_fault M_failed M_signs M_signMany M_column M_loads M_many M_sums M_groups M_at M_told M_toldMany) sz) := by
  refine Met.ofW (cc := cX11_restore) (maxL := 1) (ret := (some .int)) (by decide) rfl ?_
  intro p e s m args below meth c s₁ B hml hv
  obtain ⟨rfl, hsz, hP, hK, hD0⟩ := hv
  have hx := B.exec
  have hb := B.bytes
  have hr := B.returns
  have hts := atoms_spec (ws := wsX11_restore) B.pre
  have hown : s.vm.findClass RX11 = some m.cls := findClass_of_methodNamed B.named
  have hlocks := B.notSynchronized
  have C0 : wk_C p s m _ meth c cX11_restore 1 (some .int) wsX11_restore RX11 := ⟨hx, hb, hml, hr, hlocks, hown, hts⟩
  subst hsz
  have hD := hD0.self (sz := s.heap.size)
  generalize hAe : va_A (wX11 Y a M_g M_kept M_saved M_before M_isSaved M_changes M_isWithin M_code M_input M_length M_fault M_failed M_signs M_signMany M_column M_loads M_many M_sums M_groups M_at M_told M_toldMany) s.heap.size = A at hD ⊢
  have hA : ∀ q : Nat, s.heap.size ≤ q → A q := fun q h => by rw [← hAe]; exact Or.inr h
  have hS : va_S A s.heap s.heap [] := va_S.rf
  obtain ⟨H, hHe⟩ : ∃ H, H = s.heap := ⟨_, rfl⟩
  have hS : va_S A s.heap H [] := by rw [hHe]; exact hS
  have hP : va_P (dC, dI) vwCl [(a 0, .inr (11, [.ref (a 1), .ref (a 2), .ref (a 3), .ref (a 4), .int M_isSaved, .int M_changes, .int M_isWithin, .int M_code, .ref (a 5), .int M_length, .int M_fault, .int M_failed, .ref (a 6), .int M_signMany, .ref (a 7), .ref (a 8), .int M_many, .ref (a 9), .ref (a 10), .int M_at, .ref (a 11), .int M_toldMany])), (a 1, .inl (Y 0, 238, .inl M_g)), (a 2, .inl (Y 0, 1904, .inl M_kept)), (a 3, .inl (Y 0, 238, .inl M_saved)), (a 4, .inl (Y 0, 238, .inl M_before)), (a 5, .inl (Y 0, 60, .inl M_input)), (a 6, .inl (Y 2, 100, .inl M_signs)), (a 7, .inl (Y 0, 6, .inl M_column)), (a 8, .inl (Y 0, 6, .inl M_loads)), (a 9, .inl (Y 0, 2048, .inl M_sums)), (a 10, .inl (Y 0, 2048, .inl M_groups)), (a 11, .inl (Y 0, 155, .inl M_told))] H := by rw [hHe]; exact hP
  have hD : va_D A [(a 0, .inr (11, [.ref (a 1), .ref (a 2), .ref (a 3), .ref (a 4), .int M_isSaved, .int M_changes, .int M_isWithin, .int M_code, .ref (a 5), .int M_length, .int M_fault, .int M_failed, .ref (a 6), .int M_signMany, .ref (a 7), .ref (a 8), .int M_many, .ref (a 9), .ref (a 10), .int M_at, .ref (a 11), .int M_toldMany])), (a 1, .inl (Y 0, 238, .inl M_g)), (a 2, .inl (Y 0, 1904, .inl M_kept)), (a 3, .inl (Y 0, 238, .inl M_saved)), (a 4, .inl (Y 0, 238, .inl M_before)), (a 5, .inl (Y 0, 60, .inl M_input)), (a 6, .inl (Y 2, 100, .inl M_signs)), (a 7, .inl (Y 0, 6, .inl M_column)), (a 8, .inl (Y 0, 6, .inl M_loads)), (a 9, .inl (Y 0, 2048, .inl M_sums)), (a 10, .inl (Y 0, 2048, .inl M_groups)), (a 11, .inl (Y 0, 155, .inl M_told))] := hD
  obtain ⟨locs, hlo⟩ : ∃ locs : List Loc, locs = [] := ⟨_, rfl⟩
  have hS : va_S A s.heap H locs := by rw [hlo]; exact hS
  have hl := lv_entry ([.ref (a 0)]) (n := 1) (Nat.le_of_ble_eq_true rfl)
  rw [lg_entry_eq]
  generalize (lg_sl ([.ref (a 0)]) ++ List.replicate (1 - (lg_sl ([.ref (a 0)])).length) Slot.unset).toArray = ls at hl ⊢
  have hl : lv_has ls 1 [(0, .ref (a 0))] := hl
  refine wk_start hHe hlo ?_
  rw [f_X11_restore] at hf
  refine lv_aload_n hx hb dX11_restore_0 rfl (lv_at hl 0 rfl) ?_
  refine lv_aload_n hx hb dX11_restore_1 rfl (lv_at hl 0 rfl) ?_
  refine va_get (D := (dC, dI)) (ci := 11) (v := .int M_isSaved) (C := RX11) (T := TX11) (N := 22) hx hb hts in_X11_restore_X11 hown hK hP 0 rfl rfl 4 (by decide) (hts _ lk_X11_restore_RX11_288) (fun _ h9 => h9) rfl dX11_restore_2 ?_
  refine lv_if_eq (tgt := 12) hx hb dX11_restore_5 (by decide) (fun q1 => ?_) (fun q1 => ?_)
  · have hf := wk_t hf q1
    refine lv_iconst (v := 1) hx hb dX11_restore_12 (by decide) ?_
    exact wl_X11_restore_L13 C0 hK hA 1 M_g M_changes M_code hf H locs hP hD hS ls (lv_sub hl [0] rfl)
  · have hf := wk_f hf q1
    refine lv_iconst (v := 0) hx hb dX11_restore_8 (by decide) ?_
    refine lv_goto (tgt := 13) hx hb dX11_restore_9 (by decide) ?_
    exact wl_X11_restore_L13 C0 hK hA 0 M_g M_changes M_code hf H locs hP hD hS ls (lv_sub hl [0] rfl)
theorem lk_X11_carries_RX11_48 : Cond.fieldLink RX11 48 "CircusLedgerModel" "told" "[I" ∈ wsX11_carries := by decide +kernel
theorem in_X11_carries_X11 : ∀ w ∈ u_ws RX11 TX11 22, w ∈ wsX11_carries := by decide +kernel
def f_X11_carries (M_g : Nat → Int32) (M_kept : Nat → Int32) (M_changes : Int32) (M_isWithin : Int32) (M_code : Int32) (M_column : Nat → Int32) (M_loads : Nat → Int32) (M_many : Int32) (M_told : Nat → Int32) (x1 : Int32) : Option (Int32 × (Nat → Int32) × (Nat → Int32) × Int32 × Int32 × (Nat → Int32) × (Nat → Int32) × Int32) :=
  gin (x1 + 1) 155 (gin (x1 + 2) 155 (gin x1 155 (if (M_told x1.toNatClampNeg) = 0 then
    (gin (x1 + 3) 155 (gin (x1 + 4) 155 (wkb5 (f_X11_addAcrobat M_g M_kept M_changes M_isWithin M_code (M_told (x1 + 1).toNatClampNeg) (M_told (x1 + 2).toNatClampNeg) (M_told (x1 + 3).toNatClampNeg) (M_told (x1 + 4).toNatClampNeg)) (fun r7 w8 w9 w10 w11 =>
    some (r7, w8, w9, w10, w11, M_column, M_loads, M_many)))))
  else
    (if (M_told x1.toNatClampNeg) = 1 then
      (gin (x1 + 3) 155 (wkb5 (f_X11_post M_g M_kept M_changes M_isWithin M_code (M_told (x1 + 1).toNatClampNeg) (M_told (x1 + 2).toNatClampNeg) (M_told (x1 + 3).toNatClampNeg)) (fun r15 w16 w17 w18 w19 =>
      some (r15, w16, w17, w18, w19, M_column, M_loads, M_many))))
    else
      (if (M_told x1.toNatClampNeg) = 2 then
        (wkb5 (f_X11_payOut M_g M_kept M_changes M_isWithin M_code (M_told (x1 + 1).toNatClampNeg) (M_told (x1 + 2).toNatClampNeg)) (fun r22 w23 w24 w25 w26 =>
        some (r22, w23, w24, w25, w26, M_column, M_loads, M_many)))
      else
        (if (M_told x1.toNatClampNeg) = 3 then
          (wkb8 (f_X11_show M_g M_kept M_changes M_isWithin M_code M_column M_loads M_many (M_told (x1 + 1).toNatClampNeg)) (fun r29 w30 w31 w32 w33 w34 w35 w36 =>
          some (r29, w30, w31, w32, w33, w34, w35, w36)))
        else
          (if (M_told x1.toNatClampNeg) = 4 then
            (wkb5 (f_X11_setNet M_g M_kept M_changes M_isWithin M_code (M_told (x1 + 1).toNatClampNeg)) (fun r39 w40 w41 w42 w43 =>
            some (r39, w40, w41, w42, w43, M_column, M_loads, M_many)))
          else
            (if (M_told x1.toNatClampNeg) = 5 then
              (wkb5 (f_X11_passNights M_g M_kept M_changes M_isWithin M_code (M_told (x1 + 1).toNatClampNeg)) (fun r46 w47 w48 w49 w50 =>
              some (r46, w47, w48, w49, w50, M_column, M_loads, M_many)))
            else
              (if (M_told x1.toNatClampNeg) = 6 then
                (wkb5 (f_X11_closeBooks M_g M_kept M_changes M_isWithin M_code) (fun r53 w54 w55 w56 w57 =>
                some (r53, w54, w55, w56, w57, M_column, M_loads, M_many)))
              else
                (wkb5 (f_X11_cancel M_g M_kept M_changes M_isWithin M_code (M_told (x1 + 1).toNatClampNeg) (M_told (x1 + 2).toNatClampNeg)) (fun r59 w60 w61 w62 w63 =>
                some (r59, w60, w61, w62, w63, M_column, M_loads, M_many))))))))))))
set_option maxHeartbeats 4000000 in
set_option maxRecDepth 100000 in
theorem c_X11_carries (l : Launch) (dC : Nat → ClassId) (dI : Nat → Nat → Nat) (Y : Nat → ClassId) (a : Nat → Nat) (M_g : Nat → Int32) (M_kept : Nat → Int32) (M_saved : Nat → Int32) (M_before : Nat → Int32) (M_isSaved : Int32) (M_changes : Int32) (M_isWithin : Int32) (M_code : Int32) (M_input : Nat → Int32) (M_length : Int32) (M_fault : Int32) (M_failed : Int32) (M_signs : Nat → Int32) (M_signMany : Int32) (M_column : Nat → Int32) (M_loads : Nat → Int32) (M_many : Int32) (M_sums : Nat → Int32) (M_groups : Nat → Int32) (M_at : Int32) (M_told : Nat → Int32) (M_toldMany : Int32) (x1 : Int32) (sz : Nat) (r : Int32) (zM_g : Nat → Int32) (zM_kept : Nat → Int32) (zM_changes : Int32) (zM_code : Int32) (zM_column : Nat → Int32) (zM_loads : Nat → Int32) (zM_many : Int32) (hf : f_X11_carries M_g M_kept M_changes M_isWithin M_code M_column M_loads M_many M_told x1 = some (r, zM_g, zM_kept, zM_changes, zM_code, zM_column, zM_loads, zM_many)) : Met l yX11_carries wsX11_carries ({ frames := 5, cells := 0, slots := 0, locals := 112 } : Room) (va_Pc [.ref (a 0), .int x1] (wk_E (dC, dI) Y (wX11 Y a M_g M_kept M_saved M_before M_isSaved M_changes M_isWithin M_code M_input M_length M_fault M_failed M_signs M_signMany M_column M_loads M_many M_sums M_groups M_at M_told M_toldMany) sz)) (va_Qi (fun r2 (_ : Unit) => r2 = r) (fun _ t => wk_X (dC, dI) Y (wX11 Y a zM_g zM_kept M_saved M_before M_isSaved zM_changes M_isWithin zM_code M_input M_length M_fault M_failed M_signs M_signMany zM_column zM_loads zM_many M_sums M_groups M_at M_told M_toldMany) (va_A (wX11 Y a M_g M_kept M_saved M_before M_isSaved M_changes M_isWithin M_code M_input M_length M_fault M_failed M_signs M_signMany M_column M_loads M_many M_sums M_groups M_at M_told M_toldMany) sz) t) (va_A (wX11 Y a M_g M_kept M_saved M_before M_isSaved M_changes M_isWithin M_code M_input M_length M_fault M_failed M_signs M_signMany M_column M_loads M_many M_sums M_groups M_at M_told M_toldMany) sz)) 0 0 (va_A (wX11 Y a M_g M_kept M_saved M_before M_isSaved M_changes M_isWithin M_code M_input M_length M_fault M_failed M_signs M_signMany M_column M_loads M_many M_sums M_groups M_at M_told M_toldMany) sz) := by
  refine Met.ofW (cc := cX11_carries) (maxL := 4) (ret := (some .int)) (by decide) rfl ?_
  intro p e s m args below meth c s₁ B hml hv
  obtain ⟨rfl, hsz, hP, hK, hD0⟩ := hv
  have hx := B.exec
  have hb := B.bytes
  have hr := B.returns
  have hts := atoms_spec (ws := wsX11_carries) B.pre
  have hown : s.vm.findClass RX11 = some m.cls := findClass_of_methodNamed B.named
  have hlocks := B.notSynchronized
  have C0 : wk_C p s m _ meth c cX11_carries 4 (some .int) wsX11_carries RX11 := ⟨hx, hb, hml, hr, hlocks, hown, hts⟩
  subst hsz
  have hD := hD0.self (sz := s.heap.size)
  generalize hAe : va_A (wX11 Y a M_g M_kept M_saved M_before M_isSaved M_changes M_isWithin M_code M_input M_length M_fault M_failed M_signs M_signMany M_column M_loads M_many M_sums M_groups M_at M_told M_toldMany) s.heap.size = A at hD ⊢
  have hA : ∀ q : Nat, s.heap.size ≤ q → A q := fun q h => by rw [← hAe]; exact Or.inr h
  have hS : va_S A s.heap s.heap [] := va_S.rf
  obtain ⟨H, hHe⟩ : ∃ H, H = s.heap := ⟨_, rfl⟩
  have hS : va_S A s.heap H [] := by rw [hHe]; exact hS
  have hP : va_P (dC, dI) vwCl [(a 0, .inr (11, [.ref (a 1), .ref (a 2), .ref (a 3), .ref (a 4), .int M_isSaved, .int M_changes, .int M_isWithin, .int M_code, .ref (a 5), .int M_length, .int M_fault, .int M_failed, .ref (a 6), .int M_signMany, .ref (a 7), .ref (a 8), .int M_many, .ref (a 9), .ref (a 10), .int M_at, .ref (a 11), .int M_toldMany])), (a 1, .inl (Y 0, 238, .inl M_g)), (a 2, .inl (Y 0, 1904, .inl M_kept)), (a 3, .inl (Y 0, 238, .inl M_saved)), (a 4, .inl (Y 0, 238, .inl M_before)), (a 5, .inl (Y 0, 60, .inl M_input)), (a 6, .inl (Y 2, 100, .inl M_signs)), (a 7, .inl (Y 0, 6, .inl M_column)), (a 8, .inl (Y 0, 6, .inl M_loads)), (a 9, .inl (Y 0, 2048, .inl M_sums)), (a 10, .inl (Y 0, 2048, .inl M_groups)), (a 11, .inl (Y 0, 155, .inl M_told))] H := by rw [hHe]; exact hP
  have hD : va_D A [(a 0, .inr (11, [.ref (a 1), .ref (a 2), .ref (a 3), .ref (a 4), .int M_isSaved, .int M_changes, .int M_isWithin, .int M_code, .ref (a 5), .int M_length, .int M_fault, .int M_failed, .ref (a 6), .int M_signMany, .ref (a 7), .ref (a 8), .int M_many, .ref (a 9), .ref (a 10), .int M_at, .ref (a 11), .int M_toldMany])), (a 1, .inl (Y 0, 238, .inl M_g)), (a 2, .inl (Y 0, 1904, .inl M_kept)), (a 3, .inl (Y 0, 238, .inl M_saved)), (a 4, .inl (Y 0, 238, .inl M_before)), (a 5, .inl (Y 0, 60, .inl M_input)), (a 6, .inl (Y 2, 100, .inl M_signs)), (a 7, .inl (Y 0, 6, .inl M_column)), (a 8, .inl (Y 0, 6, .inl M_loads)), (a 9, .inl (Y 0, 2048, .inl M_sums)), (a 10, .inl (Y 0, 2048, .inl M_groups)), (a 11, .inl (Y 0, 155, .inl M_told))] := hD
  obtain ⟨locs, hlo⟩ : ∃ locs : List Loc, locs = [] := ⟨_, rfl⟩
  have hS : va_S A s.heap H locs := by rw [hlo]; exact hS
  have hl := lv_entry ([.ref (a 0), .int x1]) (n := 4) (Nat.le_of_ble_eq_true rfl)
  rw [lg_entry_eq]
  generalize (lg_sl ([.ref (a 0), .int x1]) ++ List.replicate (4 - (lg_sl ([.ref (a 0), .int x1])).length) Slot.unset).toArray = ls at hl ⊢
  have hl : lv_has ls 4 [(0, .ref (a 0)), (1, .int x1)] := hl
  refine wk_start hHe hlo ?_
  rw [f_X11_carries] at hf
  refine lv_aload_n hx hb dX11_carries_0 rfl (lv_at hl 0 rfl) ?_
  refine va_get (D := (dC, dI)) (ci := 11) (v := .ref (a 11)) (C := RX11) (T := TX11) (N := 22) hx hb hts in_X11_carries_X11 hown hK hP 0 rfl rfl 20 (by decide) (hts _ lk_X11_carries_RX11_48) (fun _ h9 => h9) rfl dX11_carries_1 ?_
  refine lv_iload_n hx hb dX11_carries_4 rfl (lv_at hl 1 rfl) ?_
  refine lv_iconst (v := 1) hx hb dX11_carries_5 (by decide) ?_
  refine lv_iadd hx hb dX11_carries_6 ?_
  obtain ⟨h1, hf⟩ := gin_s hf
  refine wk_iald hx hb hK hP 11 0 rfl rfl h1 rfl dX11_carries_7 ?_
  refine lv_istore_n (lv' := [(2, .int (M_told (x1 + 1).toNatClampNeg)), (0, .ref (a 0)), (1, .int x1)]) hx hb dX11_carries_8 rfl hl (by decide) rfl (fun ls hl => ?_)
  refine lv_aload_n hx hb dX11_carries_9 rfl (lv_at hl 1 rfl) ?_
  refine va_get (D := (dC, dI)) (ci := 11) (v := .ref (a 11)) (C := RX11) (T := TX11) (N := 22) hx hb hts in_X11_carries_X11 hown hK hP 0 rfl rfl 20 (by decide) (hts _ lk_X11_carries_RX11_48) (fun _ h9 => h9) rfl dX11_carries_10 ?_
  refine lv_iload_n hx hb dX11_carries_13 rfl (lv_at hl 2 rfl) ?_
  refine lv_iconst (v := 2) hx hb dX11_carries_14 (by decide) ?_
  refine lv_iadd hx hb dX11_carries_15 ?_
  obtain ⟨h2, hf⟩ := gin_s hf
  refine wk_iald hx hb hK hP 11 0 rfl rfl h2 rfl dX11_carries_16 ?_
  refine lv_istore_n (lv' := [(3, .int (M_told (x1 + 2).toNatClampNeg)), (2, .int (M_told (x1 + 1).toNatClampNeg)), (0, .ref (a 0)), (1, .int x1)]) hx hb dX11_carries_17 rfl hl (by decide) rfl (fun ls hl => ?_)
  refine lv_aload_n hx hb dX11_carries_18 rfl (lv_at hl 2 rfl) ?_
  refine va_get (D := (dC, dI)) (ci := 11) (v := .ref (a 11)) (C := RX11) (T := TX11) (N := 22) hx hb hts in_X11_carries_X11 hown hK hP 0 rfl rfl 20 (by decide) (hts _ lk_X11_carries_RX11_48) (fun _ h9 => h9) rfl dX11_carries_19 ?_
  refine lv_iload_n hx hb dX11_carries_22 rfl (lv_at hl 3 rfl) ?_
  obtain ⟨h3, hf⟩ := gin_s hf
  refine wk_iald hx hb hK hP 11 0 rfl rfl h3 rfl dX11_carries_23 ?_
  by_cases q4 : (M_told x1.toNatClampNeg) = 0
  · have hf := wk_t hf q4
    refine lv_tableIn (tgt := 68) hx hb dX11_carries_24 (by rw [q4]; decide) (by rw [q4]; decide) (by rw [q4]; rfl) (by decide) ?_
    refine lv_aload_n hx hb dX11_carries_68 rfl (lv_at hl 2 rfl) ?_
    refine lv_iload_n hx hb dX11_carries_69 rfl (lv_at hl 1 rfl) ?_
    refine lv_iload_n hx hb dX11_carries_70 rfl (lv_at hl 0 rfl) ?_
    refine lv_aload_n hx hb dX11_carries_71 rfl (lv_at hl 2 rfl) ?_
    refine va_get (D := (dC, dI)) (ci := 11) (v := .ref (a 11)) (C := RX11) (T := TX11) (N := 22) hx hb hts in_X11_carries_X11 hown hK hP 0 rfl rfl 20 (by decide) (hts _ lk_X11_carries_RX11_48) (fun _ h9 => h9) rfl dX11_carries_72 ?_
    refine lv_iload_n hx hb dX11_carries_75 rfl (lv_at hl 3 rfl) ?_
    refine lv_iconst (v := 3) hx hb dX11_carries_76 (by decide) ?_
    refine lv_iadd hx hb dX11_carries_77 ?_
    obtain ⟨h5, hf⟩ := gin_s hf
    refine wk_iald hx hb hK hP 11 0 rfl rfl h5 rfl dX11_carries_78 ?_
    refine lv_aload_n hx hb dX11_carries_79 rfl (lv_at hl 2 rfl) ?_
    refine va_get (D := (dC, dI)) (ci := 11) (v := .ref (a 11)) (C := RX11) (T := TX11) (N := 22) hx hb hts in_X11_carries_X11 hown hK hP 0 rfl rfl 20 (by decide) (hts _ lk_X11_carries_RX11_48) (fun _ h9 => h9) rfl dX11_carries_80 ?_
    refine lv_iload_n hx hb dX11_carries_83 rfl (lv_at hl 3 rfl) ?_
    refine lv_iconst (v := 4) hx hb dX11_carries_84 (by decide) ?_
    refine lv_iadd hx hb dX11_carries_85 ?_
    obtain ⟨h6, hf⟩ := gin_s hf
    refine wk_iald hx hb hK hP 11 0 rfl rfl h6 rfl dX11_carries_86 ?_
    obtain ⟨r7, w8, w9, w10, w11, hr12, hf⟩ := wkb5_s hf
    refine wk_evi (As := [.int (M_told (x1 + 1).toNatClampNeg), .int (M_told (x1 + 2).toNatClampNeg), .int (M_told (x1 + 3).toNatClampNeg), .int (M_told (x1 + 4).toNatClampNeg)]) (rest := []) (wc := (wX11 Y a M_g M_kept M_saved M_before M_isSaved M_changes M_isWithin M_code M_input M_length M_fault M_failed M_signs M_signMany M_column M_loads M_many M_sums M_groups M_at M_told M_toldMany)) (w1 := (wX11 Y a w8 w9 M_saved M_before M_isSaved w10 M_isWithin w11 M_input M_length M_fault M_failed M_signs M_signMany M_column M_loads M_many M_sums M_groups M_at M_told M_toldMany)) (wr := []) ⟨hx, hb, hml, hown, hts⟩ (c_X11_addAcrobat l dC dI Y a M_g M_kept M_saved M_before M_isSaved M_changes M_isWithin M_code M_input M_length M_fault M_failed M_signs M_signMany M_column M_loads M_many M_sums M_groups M_at M_told M_toldMany (M_told (x1 + 1).toNatClampNeg) (M_told (x1 + 2).toNatClampNeg) (M_told (x1 + 3).toNatClampNeg) (M_told (x1 + 4).toNatClampNeg) H.size r7 w8 w9 w10 w11 hr12) (cwV 4 hts gX11_carries_X11_addAcrobat rfl rfl rfl (by decide +kernel) ⟨Nat.le_of_ble_eq_true rfl, Nat.le_of_ble_eq_true rfl⟩) hK hP hD hS hA [0, 1, 2, 3, 4, 5, 6, 7, 8, 9, 10, 11] [] rfl rfl (by decide) (by decide) (by decide) (va_recv hK hP (ci := 11) (q0 := 0) rfl rfl) rfl hl.1 rfl (Nat.le_of_ble_eq_true rfl) dX11_carries_87 ⟨Nat.le_of_ble_eq_true rfl, Nat.le_of_ble_eq_true rfl⟩ (fun H locs hP hD hS => ?_)
    have hP : va_P (dC, dI) vwCl [(a 0, .inr (11, [.ref (a 1), .ref (a 2), .ref (a 3), .ref (a 4), .int M_isSaved, .int w10, .int M_isWithin, .int w11, .ref (a 5), .int M_length, .int M_fault, .int M_failed, .ref (a 6), .int M_signMany, .ref (a 7), .ref (a 8), .int M_many, .ref (a 9), .ref (a 10), .int M_at, .ref (a 11), .int M_toldMany])), (a 1, .inl (Y 0, 238, .inl w8)), (a 2, .inl (Y 0, 1904, .inl w9)), (a 3, .inl (Y 0, 238, .inl M_saved)), (a 4, .inl (Y 0, 238, .inl M_before)), (a 5, .inl (Y 0, 60, .inl M_input)), (a 6, .inl (Y 2, 100, .inl M_signs)), (a 7, .inl (Y 0, 6, .inl M_column)), (a 8, .inl (Y 0, 6, .inl M_loads)), (a 9, .inl (Y 0, 2048, .inl M_sums)), (a 10, .inl (Y 0, 2048, .inl M_groups)), (a 11, .inl (Y 0, 155, .inl M_told))] H := hP
    have hD : va_D A [(a 0, .inr (11, [.ref (a 1), .ref (a 2), .ref (a 3), .ref (a 4), .int M_isSaved, .int w10, .int M_isWithin, .int w11, .ref (a 5), .int M_length, .int M_fault, .int M_failed, .ref (a 6), .int M_signMany, .ref (a 7), .ref (a 8), .int M_many, .ref (a 9), .ref (a 10), .int M_at, .ref (a 11), .int M_toldMany])), (a 1, .inl (Y 0, 238, .inl w8)), (a 2, .inl (Y 0, 1904, .inl w9)), (a 3, .inl (Y 0, 238, .inl M_saved)), (a 4, .inl (Y 0, 238, .inl M_before)), (a 5, .inl (Y 0, 60, .inl M_input)), (a 6, .inl (Y 2, 100, .inl M_signs)), (a 7, .inl (Y 0, 6, .inl M_column)), (a 8, .inl (Y 0, 6, .inl M_loads)), (a 9, .inl (Y 0, 2048, .inl M_sums)), (a 10, .inl (Y 0, 2048, .inl M_groups)), (a 11, .inl (Y 0, 155, .inl M_told))] := hD
    obtain ⟨e0, e1, e2, e3, e4, e5, e6, e7⟩ := wke8 hf
    subst e0
    subst e1
    subst e2
    subst e3
    subst e4
    subst e5
    subst e6
    subst e7
    have hP9 := hP.sub (ws' := (wX11 Y a w8 w9 M_saved M_before M_isSaved w10 M_isWithin w11 M_input M_length M_fault M_failed M_signs M_signMany M_column M_loads M_many M_sums M_groups M_at M_told M_toldMany)) [0, 1, 2, 3, 4, 5, 6, 7, 8, 9, 10, 11] rfl
    have hD9 := hD.sub (ws' := (wX11 Y a w8 w9 M_saved M_before M_isSaved w10 M_isWithin w11 M_input M_length M_fault M_failed M_signs M_signMany M_column M_loads M_many M_sums M_groups M_at M_told M_toldMany)) [0, 1, 2, 3, 4, 5, 6, 7, 8, 9, 10, 11] (by decide) rfl
    exact W.iret (v := r7) hx hb hr (fun t ht hW => ⟨⟨r7, (), rfl, rfl, by rw [ht]; exact hP9, va_K.moved hW.alike hK, hD9⟩, hS.F ht⟩) hS.2.2 dX11_carries_90
  · have hf := wk_f hf q4
    by_cases q13 : (M_told x1.toNatClampNeg) = 1
    · have hf := wk_t hf q13
      refine lv_tableIn (tgt := 91) hx hb dX11_carries_24 (by rw [q13]; decide) (by rw [q13]; decide) (by rw [q13]; rfl) (by decide) ?_
      refine lv_aload_n hx hb dX11_carries_91 rfl (lv_at hl 2 rfl) ?_
      refine lv_iload_n hx hb dX11_carries_92 rfl (lv_at hl 1 rfl) ?_
      refine lv_iload_n hx hb dX11_carries_93 rfl (lv_at hl 0 rfl) ?_
      refine lv_aload_n hx hb dX11_carries_94 rfl (lv_at hl 2 rfl) ?_
      refine va_get (D := (dC, dI)) (ci := 11) (v := .ref (a 11)) (C := RX11) (T := TX11) (N := 22) hx hb hts in_X11_carries_X11 hown hK hP 0 rfl rfl 20 (by decide) (hts _ lk_X11_carries_RX11_48) (fun _ h9 => h9) rfl dX11_carries_95 ?_
      refine lv_iload_n hx hb dX11_carries_98 rfl (lv_at hl 3 rfl) ?_
      refine lv_iconst (v := 3) hx hb dX11_carries_99 (by decide) ?_
      refine lv_iadd hx hb dX11_carries_100 ?_
      obtain ⟨h14, hf⟩ := gin_s hf
      refine wk_iald hx hb hK hP 11 0 rfl rfl h14 rfl dX11_carries_101 ?_
      obtain ⟨r15, w16, w17, w18, w19, hr20, hf⟩ := wkb5_s hf
      refine wk_evi (As := [.int (M_told (x1 + 1).toNatClampNeg), .int (M_told (x1 + 2).toNatClampNeg), .int (M_told (x1 + 3).toNatClampNeg)]) (rest := []) (wc := (wX11 Y a M_g M_kept M_saved M_before M_isSaved M_changes M_isWithin M_code M_input M_length M_fault M_failed M_signs M_signMany M_column M_loads M_many M_sums M_groups M_at M_told M_toldMany)) (w1 := (wX11 Y a w16 w17 M_saved M_before M_isSaved w18 M_isWithin w19 M_input M_length M_fault M_failed M_signs M_signMany M_column M_loads M_many M_sums M_groups M_at M_told M_toldMany)) (wr := []) ⟨hx, hb, hml, hown, hts⟩ (c_X11_post l dC dI Y a M_g M_kept M_saved M_before M_isSaved M_changes M_isWithin M_code M_input M_length M_fault M_failed M_signs M_signMany M_column M_loads M_many M_sums M_groups M_at M_told M_toldMany (M_told (x1 + 1).toNatClampNeg) (M_told (x1 + 2).toNatClampNeg) (M_told (x1 + 3).toNatClampNeg) H.size r15 w16 w17 w18 w19 hr20) (cwV 3 hts gX11_carries_X11_post rfl rfl rfl (by decide +kernel) ⟨Nat.le_of_ble_eq_true rfl, Nat.le_of_ble_eq_true rfl⟩) hK hP hD hS hA [0, 1, 2, 3, 4, 5, 6, 7, 8, 9, 10, 11] [] rfl rfl (by decide) (by decide) (by decide) (va_recv hK hP (ci := 11) (q0 := 0) rfl rfl) rfl hl.1 rfl (Nat.le_of_ble_eq_true rfl) dX11_carries_102 ⟨Nat.le_of_ble_eq_true rfl, Nat.le_of_ble_eq_true rfl⟩ (fun H locs hP hD hS => ?_)
      have hP : va_P (dC, dI) vwCl [(a 0, .inr (11, [.ref (a 1), .ref (a 2), .ref (a 3), .ref (a 4), .int M_isSaved, .int w18, .int M_isWithin, .int w19, .ref (a 5), .int M_length, .int M_fault, .int M_failed, .ref (a 6), .int M_signMany, .ref (a 7), .ref (a 8), .int M_many, .ref (a 9), .ref (a 10), .int M_at, .ref (a 11), .int M_toldMany])), (a 1, .inl (Y 0, 238, .inl w16)), (a 2, .inl (Y 0, 1904, .inl w17)), (a 3, .inl (Y 0, 238, .inl M_saved)), (a 4, .inl (Y 0, 238, .inl M_before)), (a 5, .inl (Y 0, 60, .inl M_input)), (a 6, .inl (Y 2, 100, .inl M_signs)), (a 7, .inl (Y 0, 6, .inl M_column)), (a 8, .inl (Y 0, 6, .inl M_loads)), (a 9, .inl (Y 0, 2048, .inl M_sums)), (a 10, .inl (Y 0, 2048, .inl M_groups)), (a 11, .inl (Y 0, 155, .inl M_told))] H := hP
      have hD : va_D A [(a 0, .inr (11, [.ref (a 1), .ref (a 2), .ref (a 3), .ref (a 4), .int M_isSaved, .int w18, .int M_isWithin, .int w19, .ref (a 5), .int M_length, .int M_fault, .int M_failed, .ref (a 6), .int M_signMany, .ref (a 7), .ref (a 8), .int M_many, .ref (a 9), .ref (a 10), .int M_at, .ref (a 11), .int M_toldMany])), (a 1, .inl (Y 0, 238, .inl w16)), (a 2, .inl (Y 0, 1904, .inl w17)), (a 3, .inl (Y 0, 238, .inl M_saved)), (a 4, .inl (Y 0, 238, .inl M_before)), (a 5, .inl (Y 0, 60, .inl M_input)), (a 6, .inl (Y 2, 100, .inl M_signs)), (a 7, .inl (Y 0, 6, .inl M_column)), (a 8, .inl (Y 0, 6, .inl M_loads)), (a 9, .inl (Y 0, 2048, .inl M_sums)), (a 10, .inl (Y 0, 2048, .inl M_groups)), (a 11, .inl (Y 0, 155, .inl M_told))] := hD
      obtain ⟨e0, e1, e2, e3, e4, e5, e6, e7⟩ := wke8 hf
      subst e0
      subst e1
      subst e2
      subst e3
      subst e4
      subst e5
      subst e6
      subst e7
      have hP9 := hP.sub (ws' := (wX11 Y a w16 w17 M_saved M_before M_isSaved w18 M_isWithin w19 M_input M_length M_fault M_failed M_signs M_signMany M_column M_loads M_many M_sums M_groups M_at M_told M_toldMany)) [0, 1, 2, 3, 4, 5, 6, 7, 8, 9, 10, 11] rfl
      have hD9 := hD.sub (ws' := (wX11 Y a w16 w17 M_saved M_before M_isSaved w18 M_isWithin w19 M_input M_length M_fault M_failed M_signs M_signMany M_column M_loads M_many M_sums M_groups M_at M_told M_toldMany)) [0, 1, 2, 3, 4, 5, 6, 7, 8, 9, 10, 11] (by decide) rfl
      exact W.iret (v := r15) hx hb hr (fun t ht hW => ⟨⟨r15, (), rfl, rfl, by rw [ht]; exact hP9, va_K.moved hW.alike hK, hD9⟩, hS.F ht⟩) hS.2.2 dX11_carries_105
    · have hf := wk_f hf q13
      by_cases q21 : (M_told x1.toNatClampNeg) = 2
      · have hf := wk_t hf q21
        refine lv_tableIn (tgt := 106) hx hb dX11_carries_24 (by rw [q21]; decide) (by rw [q21]; decide) (by rw [q21]; rfl) (by decide) ?_
        refine lv_aload_n hx hb dX11_carries_106 rfl (lv_at hl 2 rfl) ?_
        refine lv_iload_n hx hb dX11_carries_107 rfl (lv_at hl 1 rfl) ?_
        refine lv_iload_n hx hb dX11_carries_108 rfl (lv_at hl 0 rfl) ?_
        obtain ⟨r22, w23, w24, w25, w26, hr27, hf⟩ := wkb5_s hf
        refine wk_evi (As := [.int (M_told (x1 + 1).toNatClampNeg), .int (M_told (x1 + 2).toNatClampNeg)]) (rest := []) (wc := (wX11 Y a M_g M_kept M_saved M_before M_isSaved M_changes M_isWithin M_code M_input M_length M_fault M_failed M_signs M_signMany M_column M_loads M_many M_sums M_groups M_at M_told M_toldMany)) (w1 := (wX11 Y a w23 w24 M_saved M_before M_isSaved w25 M_isWithin w26 M_input M_length M_fault M_failed M_signs M_signMany M_column M_loads M_many M_sums M_groups M_at M_told M_toldMany)) (wr := []) ⟨hx, hb, hml, hown, hts⟩ (c_X11_payOut l dC dI Y a M_g M_kept M_saved M_before M_isSaved M_changes M_isWithin M_code M_input M_length M_fault M_failed M_signs M_signMany M_column M_loads M_many M_sums M_groups M_at M_told M_toldMany (M_told (x1 + 1).toNatClampNeg) (M_told (x1 + 2).toNatClampNeg) H.size r22 w23 w24 w25 w26 hr27) (cwV 2 hts gX11_carries_X11_payOut rfl rfl rfl (by decide +kernel) ⟨Nat.le_of_ble_eq_true rfl, Nat.le_of_ble_eq_true rfl⟩) hK hP hD hS hA [0, 1, 2, 3, 4, 5, 6, 7, 8, 9, 10, 11] [] rfl rfl (by decide) (by decide) (by decide) (va_recv hK hP (ci := 11) (q0 := 0) rfl rfl) rfl hl.1 rfl (Nat.le_of_ble_eq_true rfl) dX11_carries_109 ⟨Nat.le_of_ble_eq_true rfl, Nat.le_of_ble_eq_true rfl⟩ (fun H locs hP hD hS => ?_)
        have hP : va_P (dC, dI) vwCl [(a 0, .inr (11, [.ref (a 1), .ref (a 2), .ref (a 3), .ref (a 4), .int M_isSaved, .int w25, .int M_isWithin, .int w26, .ref (a 5), .int M_length, .int M_fault, .int M_failed, .ref (a 6), .int M_signMany, .ref (a 7), .ref (a 8), .int M_many, .ref (a 9), .ref (a 10), .int M_at, .ref (a 11), .int M_toldMany])), (a 1, .inl (Y 0, 238, .inl w23)), (a 2, .inl (Y 0, 1904, .inl w24)), (a 3, .inl (Y 0, 238, .inl M_saved)), (a 4, .inl (Y 0, 238, .inl M_before)), (a 5, .inl (Y 0, 60, .inl M_input)), (a 6, .inl (Y 2, 100, .inl M_signs)), (a 7, .inl (Y 0, 6, .inl M_column)), (a 8, .inl (Y 0, 6, .inl M_loads)), (a 9, .inl (Y 0, 2048, .inl M_sums)), (a 10, .inl (Y 0, 2048, .inl M_groups)), (a 11, .inl (Y 0, 155, .inl M_told))] H := hP
        have hD : va_D A [(a 0, .inr (11, [.ref (a 1), .ref (a 2), .ref (a 3), .ref (a 4), .int M_isSaved, .int w25, .int M_isWithin, .int w26, .ref (a 5), .int M_length, .int M_fault, .int M_failed, .ref (a 6), .int M_signMany, .ref (a 7), .ref (a 8), .int M_many, .ref (a 9), .ref (a 10), .int M_at, .ref (a 11), .int M_toldMany])), (a 1, .inl (Y 0, 238, .inl w23)), (a 2, .inl (Y 0, 1904, .inl w24)), (a 3, .inl (Y 0, 238, .inl M_saved)), (a 4, .inl (Y 0, 238, .inl M_before)), (a 5, .inl (Y 0, 60, .inl M_input)), (a 6, .inl (Y 2, 100, .inl M_signs)), (a 7, .inl (Y 0, 6, .inl M_column)), (a 8, .inl (Y 0, 6, .inl M_loads)), (a 9, .inl (Y 0, 2048, .inl M_sums)), (a 10, .inl (Y 0, 2048, .inl M_groups)), (a 11, .inl (Y 0, 155, .inl M_told))] := hD
        obtain ⟨e0, e1, e2, e3, e4, e5, e6, e7⟩ := wke8 hf
        subst e0
        subst e1
        subst e2
        subst e3
        subst e4
        subst e5
        subst e6
        subst e7
        have hP9 := hP.sub (ws' := (wX11 Y a w23 w24 M_saved M_before M_isSaved w25 M_isWithin w26 M_input M_length M_fault M_failed M_signs M_signMany M_column M_loads M_many M_sums M_groups M_at M_told M_toldMany)) [0, 1, 2, 3, 4, 5, 6, 7, 8, 9, 10, 11] rfl
        have hD9 := hD.sub (ws' := (wX11 Y a w23 w24 M_saved M_before M_isSaved w25 M_isWithin w26 M_input M_length M_fault M_failed M_signs M_signMany M_column M_loads M_many M_sums M_groups M_at M_told M_toldMany)) [0, 1, 2, 3, 4, 5, 6, 7, 8, 9, 10, 11] (by decide) rfl
        exact W.iret (v := r22) hx hb hr (fun t ht hW => ⟨⟨r22, (), rfl, rfl, by rw [ht]; exact hP9, va_K.moved hW.alike hK, hD9⟩, hS.F ht⟩) hS.2.2 dX11_carries_112
      · have hf := wk_f hf q21
        by_cases q28 : (M_told x1.toNatClampNeg) = 3
        · have hf := wk_t hf q28
          refine lv_tableIn (tgt := 113) hx hb dX11_carries_24 (by rw [q28]; decide) (by rw [q28]; decide) (by rw [q28]; rfl) (by decide) ?_
          refine lv_aload_n hx hb dX11_carries_113 rfl (lv_at hl 2 rfl) ?_
          refine lv_iload_n hx hb dX11_carries_114 rfl (lv_at hl 1 rfl) ?_
          obtain ⟨r29, w30, w31, w32, w33, w34, w35, w36, hr37, hf⟩ := wkb8_s hf
          refine wk_evi (As := [.int (M_told (x1 + 1).toNatClampNeg)]) (rest := []) (wc := (wX11 Y a M_g M_kept M_saved M_before M_isSaved M_changes M_isWithin M_code M_input M_length M_fault M_failed M_signs M_signMany M_column M_loads M_many M_sums M_groups M_at M_told M_toldMany)) (w1 := (wX11 Y a w30 w31 M_saved M_before M_isSaved w32 M_isWithin w33 M_input M_length M_fault M_failed M_signs M_signMany w34 w35 w36 M_sums M_groups M_at M_told M_toldMany)) (wr := []) ⟨hx, hb, hml, hown, hts⟩ (c_X11_show l dC dI Y a M_g M_kept M_saved M_before M_isSaved M_changes M_isWithin M_code M_input M_length M_fault M_failed M_signs M_signMany M_column M_loads M_many M_sums M_groups M_at M_told M_toldMany (M_told (x1 + 1).toNatClampNeg) H.size r29 w30 w31 w32 w33 w34 w35 w36 hr37) (cwV 1 hts gX11_carries_X11_show rfl rfl rfl (by decide +kernel) ⟨Nat.le_of_ble_eq_true rfl, Nat.le_of_ble_eq_true rfl⟩) hK hP hD hS hA [0, 1, 2, 3, 4, 5, 6, 7, 8, 9, 10, 11] [] rfl rfl (by decide) (by decide) (by decide) (va_recv hK hP (ci := 11) (q0 := 0) rfl rfl) rfl hl.1 rfl (Nat.le_of_ble_eq_true rfl) dX11_carries_115 ⟨Nat.le_of_ble_eq_true rfl, Nat.le_of_ble_eq_true rfl⟩ (fun H locs hP hD hS => ?_)
          have hP : va_P (dC, dI) vwCl [(a 0, .inr (11, [.ref (a 1), .ref (a 2), .ref (a 3), .ref (a 4), .int M_isSaved, .int w32, .int M_isWithin, .int w33, .ref (a 5), .int M_length, .int M_fault, .int M_failed, .ref (a 6), .int M_signMany, .ref (a 7), .ref (a 8), .int w36, .ref (a 9), .ref (a 10), .int M_at, .ref (a 11), .int M_toldMany])), (a 1, .inl (Y 0, 238, .inl w30)), (a 2, .inl (Y 0, 1904, .inl w31)), (a 3, .inl (Y 0, 238, .inl M_saved)), (a 4, .inl (Y 0, 238, .inl M_before)), (a 5, .inl (Y 0, 60, .inl M_input)), (a 6, .inl (Y 2, 100, .inl M_signs)), (a 7, .inl (Y 0, 6, .inl w34)), (a 8, .inl (Y 0, 6, .inl w35)), (a 9, .inl (Y 0, 2048, .inl M_sums)), (a 10, .inl (Y 0, 2048, .inl M_groups)), (a 11, .inl (Y 0, 155, .inl M_told))] H := hP
          have hD : va_D A [(a 0, .inr (11, [.ref (a 1), .ref (a 2), .ref (a 3), .ref (a 4), .int M_isSaved, .int w32, .int M_isWithin, .int w33, .ref (a 5), .int M_length, .int M_fault, .int M_failed, .ref (a 6), .int M_signMany, .ref (a 7), .ref (a 8), .int w36, .ref (a 9), .ref (a 10), .int M_at, .ref (a 11), .int M_toldMany])), (a 1, .inl (Y 0, 238, .inl w30)), (a 2, .inl (Y 0, 1904, .inl w31)), (a 3, .inl (Y 0, 238, .inl M_saved)), (a 4, .inl (Y 0, 238, .inl M_before)), (a 5, .inl (Y 0, 60, .inl M_input)), (a 6, .inl (Y 2, 100, .inl M_signs)), (a 7, .inl (Y 0, 6, .inl w34)), (a 8, .inl (Y 0, 6, .inl w35)), (a 9, .inl (Y 0, 2048, .inl M_sums)), (a 10, .inl (Y 0, 2048, .inl M_groups)), (a 11, .inl (Y 0, 155, .inl M_told))] := hD
          obtain ⟨e0, e1, e2, e3, e4, e5, e6, e7⟩ := wke8 hf
          subst e0
          subst e1
          subst e2
          subst e3
          subst e4
          subst e5
          subst e6
          subst e7
          have hP9 := hP.sub (ws' := (wX11 Y a w30 w31 M_saved M_before M_isSaved w32 M_isWithin w33 M_input M_length M_fault M_failed M_signs M_signMany w34 w35 w36 M_sums M_groups M_at M_told M_toldMany)) [0, 1, 2, 3, 4, 5, 6, 7, 8, 9, 10, 11] rfl
          have hD9 := hD.sub (ws' := (wX11 Y a w30 w31 M_saved M_before M_isSaved w32 M_isWithin w33 M_input M_length M_fault M_failed M_signs M_signMany w34 w35 w36 M_sums M_groups M_at M_told M_toldMany)) [0, 1, 2, 3, 4, 5, 6, 7, 8, 9, 10, 11] (by decide) rfl
          exact W.iret (v := r29) hx hb hr (fun t ht hW => ⟨⟨r29, (), rfl, rfl, by rw [ht]; exact hP9, va_K.moved hW.alike hK, hD9⟩, hS.F ht⟩) hS.2.2 dX11_carries_118
        · have hf := wk_f hf q28
          by_cases q38 : (M_told x1.toNatClampNeg) = 4
          · have hf := wk_t hf q38
            refine lv_tableIn (tgt := 119) hx hb dX11_carries_24 (by rw [q38]; decide) (by rw [q38]; decide) (by rw [q38]; rfl) (by decide) ?_
            refine lv_aload_n hx hb dX11_carries_119 rfl (lv_at hl 2 rfl) ?_
            refine lv_iload_n hx hb dX11_carries_120 rfl (lv_at hl 1 rfl) ?_
            obtain ⟨r39, w40, w41, w42, w43, hr44, hf⟩ := wkb5_s hf
            refine wk_evi (As := [.int (M_told (x1 + 1).toNatClampNeg)]) (rest := []) (wc := (wX11 Y a M_g M_kept M_saved M_before M_isSaved M_changes M_isWithin M_code M_input M_length M_fault M_failed M_signs M_signMany M_column M_loads M_many M_sums M_groups M_at M_told M_toldMany)) (w1 := (wX11 Y a w40 w41 M_saved M_before M_isSaved w42 M_isWithin w43 M_input M_length M_fault M_failed M_signs M_signMany M_column M_loads M_many M_sums M_groups M_at M_told M_toldMany)) (wr := []) ⟨hx, hb, hml, hown, hts⟩ (c_X11_setNet l dC dI Y a M_g M_kept M_saved M_before M_isSaved M_changes M_isWithin M_code M_input M_length M_fault M_failed M_signs M_signMany M_column M_loads M_many M_sums M_groups M_at M_told M_toldMany (M_told (x1 + 1).toNatClampNeg) H.size r39 w40 w41 w42 w43 hr44) (cwV 1 hts gX11_carries_X11_setNet rfl rfl rfl (by decide +kernel) ⟨Nat.le_of_ble_eq_true rfl, Nat.le_of_ble_eq_true rfl⟩) hK hP hD hS hA [0, 1, 2, 3, 4, 5, 6, 7, 8, 9, 10, 11] [] rfl rfl (by decide) (by decide) (by decide) (va_recv hK hP (ci := 11) (q0 := 0) rfl rfl) rfl hl.1 rfl (Nat.le_of_ble_eq_true rfl) dX11_carries_121 ⟨Nat.le_of_ble_eq_true rfl, Nat.le_of_ble_eq_true rfl⟩ (fun H locs hP hD hS => ?_)
            have hP : va_P (dC, dI) vwCl [(a 0, .inr (11, [.ref (a 1), .ref (a 2), .ref (a 3), .ref (a 4), .int M_isSaved, .int w42, .int M_isWithin, .int w43, .ref (a 5), .int M_length, .int M_fault, .int M_failed, .ref (a 6), .int M_signMany, .ref (a 7), .ref (a 8), .int M_many, .ref (a 9), .ref (a 10), .int M_at, .ref (a 11), .int M_toldMany])), (a 1, .inl (Y 0, 238, .inl w40)), (a 2, .inl (Y 0, 1904, .inl w41)), (a 3, .inl (Y 0, 238, .inl M_saved)), (a 4, .inl (Y 0, 238, .inl M_before)), (a 5, .inl (Y 0, 60, .inl M_input)), (a 6, .inl (Y 2, 100, .inl M_signs)), (a 7, .inl (Y 0, 6, .inl M_column)), (a 8, .inl (Y 0, 6, .inl M_loads)), (a 9, .inl (Y 0, 2048, .inl M_sums)), (a 10, .inl (Y 0, 2048, .inl M_groups)), (a 11, .inl (Y 0, 155, .inl M_told))] H := hP
            have hD : va_D A [(a 0, .inr (11, [.ref (a 1), .ref (a 2), .ref (a 3), .ref (a 4), .int M_isSaved, .int w42, .int M_isWithin, .int w43, .ref (a 5), .int M_length, .int M_fault, .int M_failed, .ref (a 6), .int M_signMany, .ref (a 7), .ref (a 8), .int M_many, .ref (a 9), .ref (a 10), .int M_at, .ref (a 11), .int M_toldMany])), (a 1, .inl (Y 0, 238, .inl w40)), (a 2, .inl (Y 0, 1904, .inl w41)), (a 3, .inl (Y 0, 238, .inl M_saved)), (a 4, .inl (Y 0, 238, .inl M_before)), (a 5, .inl (Y 0, 60, .inl M_input)), (a 6, .inl (Y 2, 100, .inl M_signs)), (a 7, .inl (Y 0, 6, .inl M_column)), (a 8, .inl (Y 0, 6, .inl M_loads)), (a 9, .inl (Y 0, 2048, .inl M_sums)), (a 10, .inl (Y 0, 2048, .inl M_groups)), (a 11, .inl (Y 0, 155, .inl M_told))] := hD
            obtain ⟨e0, e1, e2, e3, e4, e5, e6, e7⟩ := wke8 hf
            subst e0
            subst e1
            subst e2
            subst e3
            subst e4
            subst e5
            subst e6
            subst e7
            have hP9 := hP.sub (ws' := (wX11 Y a w40 w41 M_saved M_before M_isSaved w42 M_isWithin w43 M_input M_length M_fault M_failed M_signs M_signMany M_column M_loads M_many M_sums M_groups M_at M_told M_toldMany)) [0, 1, 2, 3, 4, 5, 6, 7, 8, 9, 10, 11] rfl
            have hD9 := hD.sub (ws' := (wX11 Y a w40 w41 M_saved M_before M_isSaved w42 M_isWithin w43 M_input M_length M_fault M_failed M_signs M_signMany M_column M_loads M_many M_sums M_groups M_at M_told M_toldMany)) [0, 1, 2, 3, 4, 5, 6, 7, 8, 9, 10, 11] (by decide) rfl
            exact W.iret (v := r39) hx hb hr (fun t ht hW => ⟨⟨r39, (), rfl, rfl, by rw [ht]; exact hP9, va_K.moved hW.alike hK, hD9⟩, hS.F ht⟩) hS.2.2 dX11_carries_124
          · have hf := wk_f hf q38
            by_cases q45 : (M_told x1.toNatClampNeg) = 5
            · have hf := wk_t hf q45
              refine lv_tableIn (tgt := 125) hx hb dX11_carries_24 (by rw [q45]; decide) (by rw [q45]; decide) (by rw [q45]; rfl) (by decide) ?_
              refine lv_aload_n hx hb dX11_carries_125 rfl (lv_at hl 2 rfl) ?_
              refine lv_iload_n hx hb dX11_carries_126 rfl (lv_at hl 1 rfl) ?_
              obtain ⟨r46, w47, w48, w49, w50, hr51, hf⟩ := wkb5_s hf
              refine wk_evi (As := [.int (M_told (x1 + 1).toNatClampNeg)]) (rest := []) (wc := (wX11 Y a M_g M_kept M_saved M_before M_isSaved M_changes M_isWithin M_code M_input M_length M_fault M_failed M_signs M_signMany M_column M_loads M_many M_sums M_groups M_at M_told M_toldMany)) (w1 := (wX11 Y a w47 w48 M_saved M_before M_isSaved w49 M_isWithin w50 M_input M_length M_fault M_failed M_signs M_signMany M_column M_loads M_many M_sums M_groups M_at M_told M_toldMany)) (wr := []) ⟨hx, hb, hml, hown, hts⟩ (c_X11_passNights l dC dI Y a M_g M_kept M_saved M_before M_isSaved M_changes M_isWithin M_code M_input M_length M_fault M_failed M_signs M_signMany M_column M_loads M_many M_sums M_groups M_at M_told M_toldMany (M_told (x1 + 1).toNatClampNeg) H.size r46 w47 w48 w49 w50 hr51) (cwV 1 hts gX11_carries_X11_passNights rfl rfl rfl (by decide +kernel) ⟨Nat.le_of_ble_eq_true rfl, Nat.le_of_ble_eq_true rfl⟩) hK hP hD hS hA [0, 1, 2, 3, 4, 5, 6, 7, 8, 9, 10, 11] [] rfl rfl (by decide) (by decide) (by decide) (va_recv hK hP (ci := 11) (q0 := 0) rfl rfl) rfl hl.1 rfl (Nat.le_of_ble_eq_true rfl) dX11_carries_127 ⟨Nat.le_of_ble_eq_true rfl, Nat.le_of_ble_eq_true rfl⟩ (fun H locs hP hD hS => ?_)
              have hP : va_P (dC, dI) vwCl [(a 0, .inr (11, [.ref (a 1), .ref (a 2), .ref (a 3), .ref (a 4), .int M_isSaved, .int w49, .int M_isWithin, .int w50, .ref (a 5), .int M_length, .int M_fault, .int M_failed, .ref (a 6), .int M_signMany, .ref (a 7), .ref (a 8), .int M_many, .ref (a 9), .ref (a 10), .int M_at, .ref (a 11), .int M_toldMany])), (a 1, .inl (Y 0, 238, .inl w47)), (a 2, .inl (Y 0, 1904, .inl w48)), (a 3, .inl (Y 0, 238, .inl M_saved)), (a 4, .inl (Y 0, 238, .inl M_before)), (a 5, .inl (Y 0, 60, .inl M_input)), (a 6, .inl (Y 2, 100, .inl M_signs)), (a 7, .inl (Y 0, 6, .inl M_column)), (a 8, .inl (Y 0, 6, .inl M_loads)), (a 9, .inl (Y 0, 2048, .inl M_sums)), (a 10, .inl (Y 0, 2048, .inl M_groups)), (a 11, .inl (Y 0, 155, .inl M_told))] H := hP
              have hD : va_D A [(a 0, .inr (11, [.ref (a 1), .ref (a 2), .ref (a 3), .ref (a 4), .int M_isSaved, .int w49, .int M_isWithin, .int w50, .ref (a 5), .int M_length, .int M_fault, .int M_failed, .ref (a 6), .int M_signMany, .ref (a 7), .ref (a 8), .int M_many, .ref (a 9), .ref (a 10), .int M_at, .ref (a 11), .int M_toldMany])), (a 1, .inl (Y 0, 238, .inl w47)), (a 2, .inl (Y 0, 1904, .inl w48)), (a 3, .inl (Y 0, 238, .inl M_saved)), (a 4, .inl (Y 0, 238, .inl M_before)), (a 5, .inl (Y 0, 60, .inl M_input)), (a 6, .inl (Y 2, 100, .inl M_signs)), (a 7, .inl (Y 0, 6, .inl M_column)), (a 8, .inl (Y 0, 6, .inl M_loads)), (a 9, .inl (Y 0, 2048, .inl M_sums)), (a 10, .inl (Y 0, 2048, .inl M_groups)), (a 11, .inl (Y 0, 155, .inl M_told))] := hD
              obtain ⟨e0, e1, e2, e3, e4, e5, e6, e7⟩ := wke8 hf
              subst e0
              subst e1
              subst e2
              subst e3
              subst e4
              subst e5
              subst e6
              subst e7
              have hP9 := hP.sub (ws' := (wX11 Y a w47 w48 M_saved M_before M_isSaved w49 M_isWithin w50 M_input M_length M_fault M_failed M_signs M_signMany M_column M_loads M_many M_sums M_groups M_at M_told M_toldMany)) [0, 1, 2, 3, 4, 5, 6, 7, 8, 9, 10, 11] rfl
              have hD9 := hD.sub (ws' := (wX11 Y a w47 w48 M_saved M_before M_isSaved w49 M_isWithin w50 M_input M_length M_fault M_failed M_signs M_signMany M_column M_loads M_many M_sums M_groups M_at M_told M_toldMany)) [0, 1, 2, 3, 4, 5, 6, 7, 8, 9, 10, 11] (by decide) rfl
              exact W.iret (v := r46) hx hb hr (fun t ht hW => ⟨⟨r46, (), rfl, rfl, by rw [ht]; exact hP9, va_K.moved hW.alike hK, hD9⟩, hS.F ht⟩) hS.2.2 dX11_carries_130
            · have hf := wk_f hf q45
              by_cases q52 : (M_told x1.toNatClampNeg) = 6
              · have hf := wk_t hf q52
                refine lv_tableIn (tgt := 131) hx hb dX11_carries_24 (by rw [q52]; decide) (by rw [q52]; decide) (by rw [q52]; rfl) (by decide) ?_
                refine lv_aload_n hx hb dX11_carries_131 rfl (lv_at hl 2 rfl) ?_
                obtain ⟨r53, w54, w55, w56, w57, hr58, hf⟩ := wkb5_s hf
                refine wk_evi (As := []) (rest := []) (wc := (wX11 Y a M_g M_kept M_saved M_before M_isSaved M_changes M_isWithin M_code M_input M_length M_fault M_failed M_signs M_signMany M_column M_loads M_many M_sums M_groups M_at M_told M_toldMany)) (w1 := (wX11 Y a w54 w55 M_saved M_before M_isSaved w56 M_isWithin w57 M_input M_length M_fault M_failed M_signs M_signMany M_column M_loads M_many M_sums M_groups M_at M_told M_toldMany)) (wr := []) ⟨hx, hb, hml, hown, hts⟩ (c_X11_closeBooks l dC dI Y a M_g M_kept M_saved M_before M_isSaved M_changes M_isWithin M_code M_input M_length M_fault M_failed M_signs M_signMany M_column M_loads M_many M_sums M_groups M_at M_told M_toldMany H.size r53 w54 w55 w56 w57 hr58) (cwV 0 hts gX11_carries_X11_closeBooks rfl rfl rfl (by decide +kernel) ⟨Nat.le_of_ble_eq_true rfl, Nat.le_of_ble_eq_true rfl⟩) hK hP hD hS hA [0, 1, 2, 3, 4, 5, 6, 7, 8, 9, 10, 11] [] rfl rfl (by decide) (by decide) (by decide) (va_recv hK hP (ci := 11) (q0 := 0) rfl rfl) rfl hl.1 rfl (Nat.le_of_ble_eq_true rfl) dX11_carries_132 ⟨Nat.le_of_ble_eq_true rfl, Nat.le_of_ble_eq_true rfl⟩ (fun H locs hP hD hS => ?_)
                have hP : va_P (dC, dI) vwCl [(a 0, .inr (11, [.ref (a 1), .ref (a 2), .ref (a 3), .ref (a 4), .int M_isSaved, .int w56, .int M_isWithin, .int w57, .ref (a 5), .int M_length, .int M_fault, .int M_failed, .ref (a 6), .int M_signMany, .ref (a 7), .ref (a 8), .int M_many, .ref (a 9), .ref (a 10), .int M_at, .ref (a 11), .int M_toldMany])), (a 1, .inl (Y 0, 238, .inl w54)), (a 2, .inl (Y 0, 1904, .inl w55)), (a 3, .inl (Y 0, 238, .inl M_saved)), (a 4, .inl (Y 0, 238, .inl M_before)), (a 5, .inl (Y 0, 60, .inl M_input)), (a 6, .inl (Y 2, 100, .inl M_signs)), (a 7, .inl (Y 0, 6, .inl M_column)), (a 8, .inl (Y 0, 6, .inl M_loads)), (a 9, .inl (Y 0, 2048, .inl M_sums)), (a 10, .inl (Y 0, 2048, .inl M_groups)), (a 11, .inl (Y 0, 155, .inl M_told))] H := hP
                have hD : va_D A [(a 0, .inr (11, [.ref (a 1), .ref (a 2), .ref (a 3), .ref (a 4), .int M_isSaved, .int w56, .int M_isWithin, .int w57, .ref (a 5), .int M_length, .int M_fault, .int M_failed, .ref (a 6), .int M_signMany, .ref (a 7), .ref (a 8), .int M_many, .ref (a 9), .ref (a 10), .int M_at, .ref (a 11), .int M_toldMany])), (a 1, .inl (Y 0, 238, .inl w54)), (a 2, .inl (Y 0, 1904, .inl w55)), (a 3, .inl (Y 0, 238, .inl M_saved)), (a 4, .inl (Y 0, 238, .inl M_before)), (a 5, .inl (Y 0, 60, .inl M_input)), (a 6, .inl (Y 2, 100, .inl M_signs)), (a 7, .inl (Y 0, 6, .inl M_column)), (a 8, .inl (Y 0, 6, .inl M_loads)), (a 9, .inl (Y 0, 2048, .inl M_sums)), (a 10, .inl (Y 0, 2048, .inl M_groups)), (a 11, .inl (Y 0, 155, .inl M_told))] := hD
                obtain ⟨e0, e1, e2, e3, e4, e5, e6, e7⟩ := wke8 hf
                subst e0
                subst e1
                subst e2
                subst e3
                subst e4
                subst e5
                subst e6
                subst e7
                have hP9 := hP.sub (ws' := (wX11 Y a w54 w55 M_saved M_before M_isSaved w56 M_isWithin w57 M_input M_length M_fault M_failed M_signs M_signMany M_column M_loads M_many M_sums M_groups M_at M_told M_toldMany)) [0, 1, 2, 3, 4, 5, 6, 7, 8, 9, 10, 11] rfl
                have hD9 := hD.sub (ws' := (wX11 Y a w54 w55 M_saved M_before M_isSaved w56 M_isWithin w57 M_input M_length M_fault M_failed M_signs M_signMany M_column M_loads M_many M_sums M_groups M_at M_told M_toldMany)) [0, 1, 2, 3, 4, 5, 6, 7, 8, 9, 10, 11] (by decide) rfl
                exact W.iret (v := r53) hx hb hr (fun t ht hW => ⟨⟨r53, (), rfl, rfl, by rw [ht]; exact hP9, va_K.moved hW.alike hK, hD9⟩, hS.F ht⟩) hS.2.2 dX11_carries_135
              · have hf := wk_f hf q52
                refine lv_tableOut (tgt := 136) hx hb dX11_carries_24 (by have z0 := wk_ne (k := 0) (by decide) q4; have z1 := wk_ne (k := 1) (by decide) q13; have z2 := wk_ne (k := 2) (by decide) q21; have z3 := wk_ne (k := 3) (by decide) q28; have z4 := wk_ne (k := 4) (by decide) q38; have z5 := wk_ne (k := 5) (by decide) q45; have z6 := wk_ne (k := 6) (by decide) q52; omega) (by decide) ?_
                refine lv_aload_n hx hb dX11_carries_136 rfl (lv_at hl 2 rfl) ?_
                refine lv_iload_n hx hb dX11_carries_137 rfl (lv_at hl 1 rfl) ?_
                refine lv_iload_n hx hb dX11_carries_138 rfl (lv_at hl 0 rfl) ?_
                obtain ⟨r59, w60, w61, w62, w63, hr64, hf⟩ := wkb5_s hf
                refine wk_evi (As := [.int (M_told (x1 + 1).toNatClampNeg), .int (M_told (x1 + 2).toNatClampNeg)]) (rest := []) (wc := (wX11 Y a M_g M_kept M_saved M_before M_isSaved M_changes M_isWithin M_code M_input M_length M_fault M_failed M_signs M_signMany M_column M_loads M_many M_sums M_groups M_at M_told M_toldMany)) (w1 := (wX11 Y a w60 w61 M_saved M_before M_isSaved w62 M_isWithin w63 M_input M_length M_fault M_failed M_signs M_signMany M_column M_loads M_many M_sums M_groups M_at M_told M_toldMany)) (wr := []) ⟨hx, hb, hml, hown, hts⟩ (c_X11_cancel l dC dI Y a M_g M_kept M_saved M_before M_isSaved M_changes M_isWithin M_code M_input M_length M_fault M_failed M_signs M_signMany M_column M_loads M_many M_sums M_groups M_at M_told M_toldMany (M_told (x1 + 1).toNatClampNeg) (M_told (x1 + 2).toNatClampNeg) H.size r59 w60 w61 w62 w63 hr64) (cwV 2 hts gX11_carries_X11_cancel rfl rfl rfl (by decide +kernel) ⟨Nat.le_of_ble_eq_true rfl, Nat.le_of_ble_eq_true rfl⟩) hK hP hD hS hA [0, 1, 2, 3, 4, 5, 6, 7, 8, 9, 10, 11] [] rfl rfl (by decide) (by decide) (by decide) (va_recv hK hP (ci := 11) (q0 := 0) rfl rfl) rfl hl.1 rfl (Nat.le_of_ble_eq_true rfl) dX11_carries_139 ⟨Nat.le_of_ble_eq_true rfl, Nat.le_of_ble_eq_true rfl⟩ (fun H locs hP hD hS => ?_)
                have hP : va_P (dC, dI) vwCl [(a 0, .inr (11, [.ref (a 1), .ref (a 2), .ref (a 3), .ref (a 4), .int M_isSaved, .int w62, .int M_isWithin, .int w63, .ref (a 5), .int M_length, .int M_fault, .int M_failed, .ref (a 6), .int M_signMany, .ref (a 7), .ref (a 8), .int M_many, .ref (a 9), .ref (a 10), .int M_at, .ref (a 11), .int M_toldMany])), (a 1, .inl (Y 0, 238, .inl w60)), (a 2, .inl (Y 0, 1904, .inl w61)), (a 3, .inl (Y 0, 238, .inl M_saved)), (a 4, .inl (Y 0, 238, .inl M_before)), (a 5, .inl (Y 0, 60, .inl M_input)), (a 6, .inl (Y 2, 100, .inl M_signs)), (a 7, .inl (Y 0, 6, .inl M_column)), (a 8, .inl (Y 0, 6, .inl M_loads)), (a 9, .inl (Y 0, 2048, .inl M_sums)), (a 10, .inl (Y 0, 2048, .inl M_groups)), (a 11, .inl (Y 0, 155, .inl M_told))] H := hP
                have hD : va_D A [(a 0, .inr (11, [.ref (a 1), .ref (a 2), .ref (a 3), .ref (a 4), .int M_isSaved, .int w62, .int M_isWithin, .int w63, .ref (a 5), .int M_length, .int M_fault, .int M_failed, .ref (a 6), .int M_signMany, .ref (a 7), .ref (a 8), .int M_many, .ref (a 9), .ref (a 10), .int M_at, .ref (a 11), .int M_toldMany])), (a 1, .inl (Y 0, 238, .inl w60)), (a 2, .inl (Y 0, 1904, .inl w61)), (a 3, .inl (Y 0, 238, .inl M_saved)), (a 4, .inl (Y 0, 238, .inl M_before)), (a 5, .inl (Y 0, 60, .inl M_input)), (a 6, .inl (Y 2, 100, .inl M_signs)), (a 7, .inl (Y 0, 6, .inl M_column)), (a 8, .inl (Y 0, 6, .inl M_loads)), (a 9, .inl (Y 0, 2048, .inl M_sums)), (a 10, .inl (Y 0, 2048, .inl M_groups)), (a 11, .inl (Y 0, 155, .inl M_told))] := hD
                obtain ⟨e0, e1, e2, e3, e4, e5, e6, e7⟩ := wke8 hf
                subst e0
                subst e1
                subst e2
                subst e3
                subst e4
                subst e5
                subst e6
                subst e7
                have hP9 := hP.sub (ws' := (wX11 Y a w60 w61 M_saved M_before M_isSaved w62 M_isWithin w63 M_input M_length M_fault M_failed M_signs M_signMany M_column M_loads M_many M_sums M_groups M_at M_told M_toldMany)) [0, 1, 2, 3, 4, 5, 6, 7, 8, 9, 10, 11] rfl
                have hD9 := hD.sub (ws' := (wX11 Y a w60 w61 M_saved M_before M_isSaved w62 M_isWithin w63 M_input M_length M_fault M_failed M_signs M_signMany M_column M_loads M_many M_sums M_groups M_at M_told M_toldMany)) [0, 1, 2, 3, 4, 5, 6, 7, 8, 9, 10, 11] (by decide) rfl
                exact W.iret (v := r59) hx hb hr (fun t ht hW => ⟨⟨r59, (), rfl, rfl, by rw [ht]; exact hP9, va_K.moved hW.alike hK, hD9⟩, hS.F ht⟩) hS.2.2 dX11_carries_142
