theorem lk_X11_acrobatCount_RX11_7 : Cond.fieldLink RX11 7 "CircusLedgerModel" "g" "[I" ∈ wsX11_acrobatCount := by decide +kernel
theorem lk_X11_acrobatCount_RX11_51 : Cond.fieldLink RX11 51 "CircusLedgerModel" "code" "I" ∈ wsX11_acrobatCount := by decide +kernel
theorem in_X11_acrobatCount_X11 : ∀ w ∈ u_ws RX11 TX11 22, w ∈ wsX11_acrobatCount := by decide +kernel
def f_X11_acrobatCount (M_g : Nat → Int32) (M_code : Int32) : Option (Int32 × Int32) :=
  some ((M_g 0), 0)
set_option maxHeartbeats 4000000 in
set_option maxRecDepth 100000 in
theorem c_X11_acrobatCount (l : Launch) (dC : Nat → ClassId) (dI : Nat → Nat → Nat) (Y : Nat → ClassId) (a : Nat → Nat) (M_g : Nat → Int32) (M_kept : Nat → Int32) (M_saved : Nat → Int32) (M_before : Nat → Int32) (M_isSaved : Int32) (M_changes : Int32) (M_isWithin : Int32) (M_code : Int32) (M_input : Nat → Int32) (M_length : Int32) (M_fault : Int32) (M_failed : Int32) (M_signs : Nat → Int32) (M_signMany : Int32) (M_column : Nat → Int32) (M_loads : Nat → Int32) (M_many : Int32) (M_sums : Nat → Int32) (M_groups : Nat → Int32) (M_at : Int32) (M_told : Nat → Int32) (M_toldMany : Int32)  (sz : Nat) (r : Int32) (zM_code : Int32) (hf : f_X11_acrobatCount M_g M_code = some (r, zM_code)) : Met l yX11_acrobatCount wsX11_acrobatCount ({ frames := 0, cells := 0, slots := 0, locals := 0 } : Room) (va_Pc [.ref (a 0)] (wk_E (dC, dI) Y (wX11 Y a M_g M_kept M_saved M_before M_isSaved M_changes M_isWithin M_code M_input M_length M_fault M_failed M_signs M_signMany M_column M_loads M_many M_sums M_groups M_at M_told M_toldMany) sz)) (va_Qi (fun r2 (_ : Unit) => r2 = r) (fun _ t => wk_X (dC, dI) Y (wX11 Y a M_g M_kept M_saved M_before M_isSaved M_changes M_isWithin zM_code M_input M_length M_fault M_failed M_signs M_signMany M_column M_loads M_many M_sums M_groups M_at M_told M_toldMany) (va_A (wX11 Y a M_g M_kept M_saved M_before M_isSaved M_changes M_isWithin M_code M_input M_length M_fault M_failed M_signs M_signMany M_column M_loads M_many M_sums M_groups M_at M_told M_toldMany) sz) t) (va_A (wX11 Y a M_g M_kept M_saved M_before M_isSaved M_changes M_isWithin M_code M_input M_length M_fault M_failed M_signs M_signMany M_column M_loads M_many M_sums M_groups M_at M_told M_toldMany) sz)) 0 0 (va_A (wX11 Y a M_g M_kept M_saved M_before M_isSaved M_changes M_isWithin M_code M_input M_length M_fault M_failed M_signs M_signMany M_column M_loads M_many M_sums M_groups M_at M_told M_toldMany) sz) := by
  refine Met.ofW (cc := cX11_acrobatCount) (maxL := 1) (ret := (some .int)) (by decide) rfl ?_
  intro p e s m args below meth c s₁ B hml hv
  obtain ⟨rfl, hsz, hP, hK, hD0⟩ := hv
  have hx := B.exec
  have hb := B.bytes
  have hr := B.returns
  have hts := atoms_spec (ws := wsX11_acrobatCount) B.pre
  have hown : s.vm.findClass RX11 = some m.cls := findClass_of_methodNamed B.named
  have hlocks := B.notSynchronized
  have C0 : wk_C p s m _ meth c cX11_acrobatCount 1 (some .int) wsX11_acrobatCount RX11 := ⟨hx, hb, hml, hr, hlocks, hown, hts⟩
  subst hsz
  have hD := hD0.self (sz := s.heap.size)
  generalize hAe : va_A (wX11 Y a M_g M_kept M_saved M_before M_isSaved M_changes M_isWithin M_code M_input M_length M_fault M_failed M_signs M_signMany M_column M_loads M_many M_sums M_groups M_at M_told M_toldMany) s.heap.size = A at hD ⊢
  have hA : ∀ q : Nat, s.heap.size ≤ q → A q := fun q h => by rw [← hAe]; exact Or.inr h
  have hS : va_S A s.heap s.heap [] := va_S.rf
  obtain ⟨H, hHe⟩ : ∃ H, H = s.heap := ⟨_, rfl⟩
  have hS : va_S A s.heap H [] := by rw [hHe]; exact hS
  have hP : va_P (dC, dI) vwCl [(a 0, .inr (11, [.ref (a 1), .ref (a 2), .ref (a 3), .ref (a 4), .int M_isSaved, .int M_changes, .int M_isWithin, .int M_code, .ref (a 5), .int M_length, .int M_fault, .int M_failed, .ref (a 6), .int M_signMany, .ref (a 7), .ref (a 8), .int M_many, .ref (a 9), .ref (a 10), .int M_at, .ref (a 11), .int M_toldMany])), (a 1, .inl (Y 0, 238, .inl M_g)), (a 2, .inl (Y 0, 1904, .inl M_kept)), (a 3, .inl (Y 0, 238, .inl M_saved)), (a 4, .inl (Y 0, 238, .inl M_before)), (a 5, .inl (Y 0, 60, .inl M_input)), (a 6, .inl (Y 2, 100, .inl M_signs)), (a 7, .inl (Y 0, 6, .inl M_column)), (a 8, .inl (Y 0, 6, .inl M_loads)), (a 9, .inl (Y 0, 2048, .inl M_sums)), (a 10, .inl (Y 0, 2048, .inl M_groups)), (a 11, .inl (Y 0, 155, .inl M_told))] H := by rw [hHe]; exact hP
  have hD : va_D A [(a 0, .inr (11, [.ref (a 1), .ref (a 2), .ref (a 3), .ref (a 4), .int M_isSaved, .int M_changes, .int M_isWithin, .int M_code, .ref (a 5), .int M_length, .int M_fault, .int M_failed, .ref (a 6), .int M_signMany, .ref (a 7), .ref (a 8), .int M_many, .ref (a 9), .ref (a 10), .int M_at, .ref (a 11), .int M_toldMany])), (a 1, .inl (Y 0, 238, .inl M_g)), (a 2, .inl (Y 0, 1904, .inl M_kept)), (a 3, .inl (Y 0, 238, .inl M_saved)), (a 4, .inl (Y 0, 238, .inl M_before)), (a 5, .inl (Y 0, 60, .inl M_input)), (a 6, .inl (Y 2, 100, .inl M_signs)), (a 7, .inl (Y 0, 6, .inl M_column)), (a 8, .inl (Y 0, 6, .inl M_loads)), (a 9, .inl (Y 0, 2048, .inl M_sums)), (a 10, .inl (Y 0, 2048, .inl M_groups)), (a 11, .inl (Y 0, 155, .inl M_told))] := hD
  obtain ⟨locs, hlo⟩ : ∃ locs : List Loc, locs = [] := ⟨_, rfl⟩
  have hS : va_S A s.heap H locs := by rw [hlo]; exact hS
  have hl := lv_entry ([.ref (a 0)]) (n := 1) (Nat.le_of_ble_eq_true rfl)
  rw [lg_entry_eq]
  generalize (lg_sl ([.ref (a 0)]) ++ List.replicate (1 - (lg_sl ([.ref (a 0)])).length) Slot.unset).toArray = ls at hl ⊢
  have hl : lv_has ls 1 [(0, .ref (a 0))] := hl
  refine wk_start hHe hlo ?_
  rw [f_X11_acrobatCount] at hf
  refine lv_aload_n hx hb dX11_acrobatCount_0 rfl (lv_at hl 0 rfl) ?_
  refine lv_iconst (v := 0) hx hb dX11_acrobatCount_1 (by decide) ?_
  refine va_put (D := (dC, dI)) (ci := 11) (v := .int 0) (ty := .int) (C := RX11) (T := TX11) (N := 22) hx hb hts in_X11_acrobatCount_X11 tyX11 tyX11_ok nmX11 hown hK hP hD hS 0 rfl rfl 7 (by decide) (hts _ lk_X11_acrobatCount_RX11_51) (fun _ h9 => h9) rfl (by decide +kernel) rfl rfl (Nat.le_of_ble_eq_true rfl) dX11_acrobatCount_2 (fun H locs hP hD hS => ?_)
  have hP : va_P (dC, dI) vwCl [(a 0, .inr (11, [.ref (a 1), .ref (a 2), .ref (a 3), .ref (a 4), .int M_isSaved, .int M_changes, .int M_isWithin, .int 0, .ref (a 5), .int M_length, .int M_fault, .int M_failed, .ref (a 6), .int M_signMany, .ref (a 7), .ref (a 8), .int M_many, .ref (a 9), .ref (a 10), .int M_at, .ref (a 11), .int M_toldMany])), (a 1, .inl (Y 0, 238, .inl M_g)), (a 2, .inl (Y 0, 1904, .inl M_kept)), (a 3, .inl (Y 0, 238, .inl M_saved)), (a 4, .inl (Y 0, 238, .inl M_before)), (a 5, .inl (Y 0, 60, .inl M_input)), (a 6, .inl (Y 2, 100, .inl M_signs)), (a 7, .inl (Y 0, 6, .inl M_column)), (a 8, .inl (Y 0, 6, .inl M_loads)), (a 9, .inl (Y 0, 2048, .inl M_sums)), (a 10, .inl (Y 0, 2048, .inl M_groups)), (a 11, .inl (Y 0, 155, .inl M_told))] H := hP
  have hD : va_D A [(a 0, .inr (11, [.ref (a 1), .ref (a 2), .ref (a 3), .ref (a 4), .int M_isSaved, .int M_changes, .int M_isWithin, .int 0, .ref (a 5), .int M_length, .int M_fault, .int M_failed, .ref (a 6), .int M_signMany, .ref (a 7), .ref (a 8), .int M_many, .ref (a 9), .ref (a 10), .int M_at, .ref (a 11), .int M_toldMany])), (a 1, .inl (Y 0, 238, .inl M_g)), (a 2, .inl (Y 0, 1904, .inl M_kept)), (a 3, .inl (Y 0, 238, .inl M_saved)), (a 4, .inl (Y 0, 238, .inl M_before)), (a 5, .inl (Y 0, 60, .inl M_input)), (a 6, .inl (Y 2, 100, .inl M_signs)), (a 7, .inl (Y 0, 6, .inl M_column)), (a 8, .inl (Y 0, 6, .inl M_loads)), (a 9, .inl (Y 0, 2048, .inl M_sums)), (a 10, .inl (Y 0, 2048, .inl M_groups)), (a 11, .inl (Y 0, 155, .inl M_told))] := hD
  refine lv_aload_n hx hb dX11_acrobatCount_5 rfl (lv_at hl 0 rfl) ?_
  refine va_get (D := (dC, dI)) (ci := 11) (v := .ref (a 1)) (C := RX11) (T := TX11) (N := 22) hx hb hts in_X11_acrobatCount_X11 hown hK hP 0 rfl rfl 0 (by decide) (hts _ lk_X11_acrobatCount_RX11_7) (fun _ h9 => h9) rfl dX11_acrobatCount_6 ?_
  refine lv_iconst (v := 0) hx hb dX11_acrobatCount_9 (by decide) ?_
  refine wk_iald hx hb hK hP 1 0 (k := 0) rfl rfl (vp_lit (by decide)) (by decide) dX11_acrobatCount_10 ?_
  obtain ⟨e0, e1⟩ := wke2 hf
  subst e0
  subst e1
  have hP9 := hP.sub (ws' := (wX11 Y a M_g M_kept M_saved M_before M_isSaved M_changes M_isWithin 0 M_input M_length M_fault M_failed M_signs M_signMany M_column M_loads M_many M_sums M_groups M_at M_told M_toldMany)) [0, 1, 2, 3, 4, 5, 6, 7, 8, 9, 10, 11] rfl
  have hD9 := hD.sub (ws' := (wX11 Y a M_g M_kept M_saved M_before M_isSaved M_changes M_isWithin 0 M_input M_length M_fault M_failed M_signs M_signMany M_column M_loads M_many M_sums M_groups M_at M_told M_toldMany)) [0, 1, 2, 3, 4, 5, 6, 7, 8, 9, 10, 11] (by decide) rfl
  exact W.iret (v := (M_g 0)) hx hb hr (fun t ht hW => ⟨⟨(M_g 0), (), rfl, rfl, by rw [ht]; exact hP9, va_K.moved hW.alike hK, hD9⟩, hS.F ht⟩) hS.2.2 dX11_acrobatCount_11
def f_X11_weight (M_g : Nat → Int32) (M_code : Int32) (x1 : Int32) : Option (Int32 × Int32) :=
  wkb2 (f_X11_isNone M_g M_code x1) (fun r1 w2 =>
  if r1 = 0 then
    (wkb1 (f_X11_of M_g x1 0) (fun r5 =>
    some (r5, w2)))
  else
    (some (0, w2)))
set_option maxHeartbeats 4000000 in
set_option maxRecDepth 100000 in
theorem c_X11_weight (l : Launch) (dC : Nat → ClassId) (dI : Nat → Nat → Nat) (Y : Nat → ClassId) (a : Nat → Nat) (M_g : Nat → Int32) (M_kept : Nat → Int32) (M_saved : Nat → Int32) (M_before : Nat → Int32) (M_isSaved : Int32) (M_changes : Int32) (M_isWithin : Int32) (M_code : Int32) (M_input : Nat → Int32) (M_length : Int32) (M_fault : Int32) (M_failed : Int32) (M_signs : Nat → Int32) (M_signMany : Int32) (M_column : Nat → Int32) (M_loads : Nat → Int32) (M_many : Int32) (M_sums : Nat → Int32) (M_groups : Nat → Int32) (M_at : Int32) (M_told : Nat → Int32) (M_toldMany : Int32) (x1 : Int32) (sz : Nat) (r : Int32) (zM_code : Int32) (hf : f_X11_weight M_g M_code x1 = some (r, zM_code)) : Met l yX11_weight wsX11_weight ({ frames := 3, cells := 0, slots := 0, locals := 64 } : Room) (va_Pc [.ref (a 0), .int x1] (wk_E (dC, dI) Y (wX11 Y a M_g M_kept M_saved M_before M_isSaved M_changes M_isWithin M_code M_input M_length M_fault M_failed M_signs M_signMany M_column M_loads M_many M_sums M_groups M_at M_told M_toldMany) sz)) (va_Qi (fun r2 (_ : Unit) => r2 = r) (fun _ t => wk_X (dC, dI) Y (wX11 Y a M_g M_kept M_saved M_before M_isSaved M_changes M_isWithin zM_code M_input M_length M_fault M_failed M_signs M_signMany M_column M_loads M_many M_sums M_groups M_at M_told M_toldMany) (va_A (wX11 Y a M_g M_kept M_saved M_before M_isSaved M_changes M_isWithin M_code M_input M_length M_fault M_failed M_signs M_signMany M_column M_loads M_many M_sums M_groups M_at M_told M_toldMany) sz) t) (va_A (wX11 Y a M_g M_kept M_saved M_before M_isSaved M_changes M_isWithin M_code M_input M_length M_fault M_failed M_signs M_signMany M_column M_loads M_many M_sums M_groups M_at M_told M_toldMany) sz)) 0 0 (va_A (wX11 Y a M_g M_kept M_saved M_before M_isSaved M_changes M_isWithin M_code M_input M_length M_fault M_failed M_signs M_signMany M_column M_loads M_many M_sums M_groups M_at M_told M_toldMany) sz) := by
  refine Met.ofW (cc := cX11_weight) (maxL := 2) (ret := (some .int)) (by decide) rfl ?_
  intro p e s m args below meth c s₁ B hml hv
  obtain ⟨rfl, hsz, hP, hK, hD0⟩ := hv
  have hx := B.exec
  have hb := B.bytes
  have hr := B.returns
  have hts := atoms_spec (ws := wsX11_weight) B.pre
  have hown : s.vm.findClass RX11 = some m.cls := findClass_of_methodNamed B.named
  have hlocks := B.notSynchronized
  have C0 : wk_C p s m _ meth c cX11_weight 2 (some .int) wsX11_weight RX11 := ⟨hx, hb, hml, hr, hlocks, hown, hts⟩
  subst hsz
  have hD := hD0.self (sz := s.heap.size)
  generalize hAe : va_A (wX11 Y a M_g M_kept M_saved M_before M_isSaved M_changes M_isWithin M_code M_input M_length M_fault M_failed M_signs M_signMany M_column M_loads M_many M_sums M_groups M_at M_told M_toldMany) s.heap.size = A at hD ⊢
  have hA : ∀ q : Nat, s.heap.size ≤ q → A q := fun q h => by rw [← hAe]; exact Or.inr h
  have hS : va_S A s.heap s.heap [] := va_S.rf
  obtain ⟨H, hHe⟩ : ∃ H, H = s.heap := ⟨_, rfl⟩
  have hS : va_S A s.heap H [] := by rw [hHe]; exact hS
  have hP : va_P (dC, dI) vwCl [(a 0, .inr (11, [.ref (a 1), .ref (a 2), .ref (a 3), .ref (a 4), .int M_isSaved, .int M_changes, .int M_isWithin, .int M_code, .ref (a 5), .int M_length, .int M_fault, .int M_failed, .ref (a 6), .int M_signMany, .ref (a 7), .ref (a 8), .int M_many, .ref (a 9), .ref (a 10), .int M_at, .ref (a 11), .int M_toldMany])), (a 1, .inl (Y 0, 238, .inl M_g)), (a 2, .inl (Y 0, 1904, .inl M_kept)), (a 3, .inl (Y 0, 238, .inl M_saved)), (a 4, .inl (Y 0, 238, .inl M_before)), (a 5, .inl (Y 0, 60, .inl M_input)), (a 6, .inl (Y 2, 100, .inl M_signs)), (a 7, .inl (Y 0, 6, .inl M_column)), (a 8, .inl (Y 0, 6, .inl M_loads)), (a 9, .inl (Y 0, 2048, .inl M_sums)), (a 10, .inl (Y 0, 2048, .inl M_groups)), (a 11, .inl (Y 0, 155, .inl M_told))] H := by rw [hHe]; exact hP
  have hD : va_D A [(a 0, .inr (11, [.ref (a 1), .ref (a 2), .ref (a 3), .ref (a 4), .int M_isSaved, .int M_changes, .int M_isWithin, .int M_code, .ref (a 5), .int M_length, .int M_fault, .int M_failed, .ref (a 6), .int M_signMany, .ref (a 7), .ref (a 8), .int M_many, .ref (a 9), .ref (a 10), .int M_at, .ref (a 11), .int M_toldMany])), (a 1, .inl (Y 0, 238, .inl M_g)), (a 2, .inl (Y 0, 1904, .inl M_kept)), (a 3, .inl (Y 0, 238, .inl M_saved)), (a 4, .inl (Y 0, 238, .inl M_before)), (a 5, .inl (Y 0, 60, .inl M_input)), (a 6, .inl (Y 2, 100, .inl M_signs)), (a 7, .inl (Y 0, 6, .inl M_column)), (a 8, .inl (Y 0, 6, .inl M_loads)), (a 9, .inl (Y 0, 2048, .inl M_sums)), (a 10, .inl (Y 0, 2048, .inl M_groups)), (a 11, .inl (Y 0, 155, .inl M_told))] := hD
  obtain ⟨locs, hlo⟩ : ∃ locs : List Loc, locs = [] := ⟨_, rfl⟩
  have hS : va_S A s.heap H locs := by rw [hlo]; exact hS
  have hl := lv_entry ([.ref (a 0), .int x1]) (n := 2) (Nat.le_of_ble_eq_true rfl)
  rw [lg_entry_eq]
  generalize (lg_sl ([.ref (a 0), .int x1]) ++ List.replicate (2 - (lg_sl ([.ref (a 0), .int x1])).length) Slot.unset).toArray = ls at hl ⊢
  have hl : lv_has ls 2 [(0, .ref (a 0)), (1, .int x1)] := hl
  refine wk_start hHe hlo ?_
  rw [f_X11_weight] at hf
  refine lv_aload_n hx hb dX11_weight_0 rfl (lv_at hl 0 rfl) ?_
  refine lv_iload_n hx hb dX11_weight_1 rfl (lv_at hl 1 rfl) ?_
  obtain ⟨r1, w2, hr3, hf⟩ := wkb2_s hf
  refine wk_evi (As := [.int x1]) (rest := []) (wc := (wX11 Y a M_g M_kept M_saved M_before M_isSaved M_changes M_isWithin M_code M_input M_length M_fault M_failed M_signs M_signMany M_column M_loads M_many M_sums M_groups M_at M_told M_toldMany)) (w1 := (wX11 Y a M_g M_kept M_saved M_before M_isSaved M_changes M_isWithin w2 M_input M_length M_fault M_failed M_signs M_signMany M_column M_loads M_many M_sums M_groups M_at M_told M_toldMany)) (wr := []) ⟨hx, hb, hml, hown, hts⟩ (c_X11_isNone l dC dI Y a M_g M_kept M_saved M_before M_isSaved M_changes M_isWithin M_code M_input M_length M_fault M_failed M_signs M_signMany M_column M_loads M_many M_sums M_groups M_at M_told M_toldMany x1 H.size r1 w2 hr3) (cwV 1 hts gX11_weight_X11_isNone rfl rfl rfl (by decide +kernel) ⟨Nat.le_of_ble_eq_true rfl, Nat.le_of_ble_eq_true rfl⟩) hK hP hD hS hA [0, 1, 2, 3, 4, 5, 6, 7, 8, 9, 10, 11] [] rfl rfl (by decide) (by decide) (by decide) (va_recv hK hP (ci := 11) (q0 := 0) rfl rfl) rfl hl.1 rfl (Nat.le_of_ble_eq_true rfl) dX11_weight_2 ⟨Nat.le_of_ble_eq_true rfl, Nat.le_of_ble_eq_true rfl⟩ (fun H locs hP hD hS => ?_)
  have hP : va_P (dC, dI) vwCl [(a 0, .inr (11, [.ref (a 1), .ref (a 2), .ref (a 3), .ref (a 4), .int M_isSaved, .int M_changes, .int M_isWithin, .int w2, .ref (a 5), .int M_length, .int M_fault, .int M_failed, .ref (a 6), .int M_signMany, .ref (a 7), .ref (a 8), .int M_many, .ref (a 9), .ref (a 10), .int M_at, .ref (a 11), .int M_toldMany])), (a 1, .inl (Y 0, 238, .inl M_g)), (a 2, .inl (Y 0, 1904, .inl M_kept)), (a 3, .inl (Y 0, 238, .inl M_saved)), (a 4, .inl (Y 0, 238, .inl M_before)), (a 5, .inl (Y 0, 60, .inl M_input)), (a 6, .inl (Y 2, 100, .inl M_signs)), (a 7, .inl (Y 0, 6, .inl M_column)), (a 8, .inl (Y 0, 6, .inl M_loads)), (a 9, .inl (Y 0, 2048, .inl M_sums)), (a 10, .inl (Y 0, 2048, .inl M_groups)), (a 11, .inl (Y 0, 155, .inl M_told))] H := hP
  have hD : va_D A [(a 0, .inr (11, [.ref (a 1), .ref (a 2), .ref (a 3), .ref (a 4), .int M_isSaved, .int M_changes, .int M_isWithin, .int w2, .ref (a 5), .int M_length, .int M_fault, .int M_failed, .ref (a 6), .int M_signMany, .ref (a 7), .ref (a 8), .int M_many, .ref (a 9), .ref (a 10), .int M_at, .ref (a 11), .int M_toldMany])), (a 1, .inl (Y 0, 238, .inl M_g)), (a 2, .inl (Y 0, 1904, .inl M_kept)), (a 3, .inl (Y 0, 238, .inl M_saved)), (a 4, .inl (Y 0, 238, .inl M_before)), (a 5, .inl (Y 0, 60, .inl M_input)), (a 6, .inl (Y 2, 100, .inl M_signs)), (a 7, .inl (Y 0, 6, .inl M_column)), (a 8, .inl (Y 0, 6, .inl M_loads)), (a 9, .inl (Y 0, 2048, .inl M_sums)), (a 10, .inl (Y 0, 2048, .inl M_groups)), (a 11, .inl (Y 0, 155, .inl M_told))] := hD
  refine lv_if_eq (tgt := 12) hx hb dX11_weight_5 (by decide) (fun q4 => ?_) (fun q4 => ?_)
  · have hf := wk_t hf q4
    refine lv_aload_n hx hb dX11_weight_12 rfl (lv_at hl 0 rfl) ?_
    refine lv_iload_n hx hb dX11_weight_13 rfl (lv_at hl 1 rfl) ?_
    refine lv_iconst (v := 0) hx hb dX11_weight_14 (by decide) ?_
    obtain ⟨r5, hr6, hf⟩ := wkb1_s hf
    have hPc := hP.sub (ws' := (wX11 Y a M_g M_kept M_saved M_before M_isSaved M_changes M_isWithin w2 M_input M_length M_fault M_failed M_signs M_signMany M_column M_loads M_many M_sums M_groups M_at M_told M_toldMany)) [0, 1, 2, 3, 4, 5, 6, 7, 8, 9, 10, 11] rfl
    refine wk_vi (As := [.int x1, .int 0]) (rest := []) ⟨hx, hb, hml, hown, hts⟩ (c_X11_of l dC dI Y a M_g M_kept M_saved M_before M_isSaved M_changes M_isWithin w2 M_input M_length M_fault M_failed M_signs M_signMany M_column M_loads M_many M_sums M_groups M_at M_told M_toldMany x1 0 r5 hr6) (cwV 2 hts gX11_weight_X11_of rfl rfl rfl (by decide +kernel) ⟨Nat.le_of_ble_eq_true rfl, Nat.le_of_ble_eq_true rfl⟩) hK hPc (va_recv hK hP (ci := 11) (q0 := 0) rfl rfl) rfl hl.1 rfl (Nat.le_of_ble_eq_true rfl) dX11_weight_15 ⟨Nat.le_of_ble_eq_true rfl, Nat.le_of_ble_eq_true rfl⟩ ?_
    obtain ⟨e0, e1⟩ := wke2 hf
    subst e0
    subst e1
    have hP9 := hP.sub (ws' := (wX11 Y a M_g M_kept M_saved M_before M_isSaved M_changes M_isWithin w2 M_input M_length M_fault M_failed M_signs M_signMany M_column M_loads M_many M_sums M_groups M_at M_told M_toldMany)) [0, 1, 2, 3, 4, 5, 6, 7, 8, 9, 10, 11] rfl
    have hD9 := hD.sub (ws' := (wX11 Y a M_g M_kept M_saved M_before M_isSaved M_changes M_isWithin w2 M_input M_length M_fault M_failed M_signs M_signMany M_column M_loads M_many M_sums M_groups M_at M_told M_toldMany)) [0, 1, 2, 3, 4, 5, 6, 7, 8, 9, 10, 11] (by decide) rfl
    exact W.iret (v := r5) hx hb hr (fun t ht hW => ⟨⟨r5, (), rfl, rfl, by rw [ht]; exact hP9, va_K.moved hW.alike hK, hD9⟩, hS.F ht⟩) hS.2.2 dX11_weight_18
  · have hf := wk_f hf q4
    refine lv_iconst (v := 0) hx hb dX11_weight_8 (by decide) ?_
    refine lv_goto (tgt := 18) hx hb dX11_weight_9 (by decide) ?_
    obtain ⟨e0, e1⟩ := wke2 hf
    subst e0
    subst e1
    have hP9 := hP.sub (ws' := (wX11 Y a M_g M_kept M_saved M_before M_isSaved M_changes M_isWithin w2 M_input M_length M_fault M_failed M_signs M_signMany M_column M_loads M_many M_sums M_groups M_at M_told M_toldMany)) [0, 1, 2, 3, 4, 5, 6, 7, 8, 9, 10, 11] rfl
    have hD9 := hD.sub (ws' := (wX11 Y a M_g M_kept M_saved M_before M_isSaved M_changes M_isWithin w2 M_input M_length M_fault M_failed M_signs M_signMany M_column M_loads M_many M_sums M_groups M_at M_told M_toldMany)) [0, 1, 2, 3, 4, 5, 6, 7, 8, 9, 10, 11] (by decide) rfl
    exact W.iret (v := 0) hx hb hr (fun t ht hW => ⟨⟨0, (), rfl, rfl, by rw [ht]; exact hP9, va_K.moved hW.alike hK, hD9⟩, hS.F ht⟩) hS.2.2 dX11_weight_18
def f_X11_strength (M_g : Nat → Int32) (M_code : Int32) (x1 : Int32) : Option (Int32 × Int32) :=
  wkb2 (f_X11_isNone M_g M_code x1) (fun r1 w2 =>
  if r1 = 0 then
    (wkb1 (f_X11_of M_g x1 1) (fun r5 =>
    some (r5, w2)))
  else
    (some (0, w2)))
set_option maxHeartbeats 4000000 in
set_option maxRecDepth 100000 in
theorem c_X11_strength (l : Launch) (dC : Nat → ClassId) (dI : Nat → Nat → Nat) (Y : Nat → ClassId) (a : Nat → Nat) (M_g : Nat → Int32) (M_kept : Nat → Int32) (M_saved : Nat → Int32) (M_before : Nat → Int32) (M_isSaved : Int32) (M_changes : Int32) (M_isWithin : Int32) (M_code : Int32) (M_input : Nat → Int32) (M_length : Int32) (M_fault : Int32) (M_failed : Int32) (M_signs : Nat → Int32) (M_signMany : Int32) (M_column : Nat → Int32) (M_loads : Nat → Int32) (M_many : Int32) (M_sums : Nat → Int32) (M_groups : Nat → Int32) (M_at : Int32) (M_told : Nat → Int32) (M_toldMany : Int32) (x1 : Int32) (sz : Nat) (r : Int32) (zM_code : Int32) (hf : f_X11_strength M_g M_code x1 = some (r, zM_code)) : Met l yX11_strength wsX11_strength ({ frames := 3, cells := 0, slots := 0, locals := 64 } : Room) (va_Pc [.ref (a 0), .int x1] (wk_E (dC, dI) Y (wX11 Y a M_g M_kept M_saved M_before M_isSaved M_changes M_isWithin M_code M_input M_length M_fault M_failed M_signs M_signMany M_column M_loads M_many M_sums M_groups M_at M_told M_toldMany) sz)) (va_Qi (fun r2 (_ : Unit) => r2 = r) (fun _ t => wk_X (dC, dI) Y (wX11 Y a M_g M_kept M_saved M_before M_isSaved M_changes M_isWithin zM_code M_input M_length M_fault M_failed M_signs M_signMany M_column M_loads M_many M_sums M_groups M_at M_told M_toldMany) (va_A (wX11 Y a M_g M_kept M_saved M_before M_isSaved M_changes M_isWithin M_code M_input M_length M_fault M_failed M_signs M_signMany M_column M_loads M_many M_sums M_groups M_at M_told M_toldMany) sz) t) (va_A (wX11 Y a M_g M_kept M_saved M_before M_isSaved M_changes M_isWithin M_code M_input M_length M_fault M_failed M_signs M_signMany M_column M_loads M_many M_sums M_groups M_at M_told M_toldMany) sz)) 0 0 (va_A (wX11 Y a M_g M_kept M_saved M_before M_isSaved M_changes M_isWithin M_code M_input M_length M_fault M_failed M_signs M_signMany M_column M_loads M_many M_sums M_groups M_at M_told M_toldMany) sz) := by
  refine Met.ofW (cc := cX11_strength) (maxL := 2) (ret := (some .int)) (by decide) rfl ?_
  intro p e s m args below meth c s₁ B hml hv
  obtain ⟨rfl, hsz, hP, hK, hD0⟩ := hv
  have hx := B.exec
  have hb := B.bytes
  have hr := B.returns
  have hts := atoms_spec (ws := wsX11_strength) B.pre
  have hown : s.vm.findClass RX11 = some m.cls := findClass_of_methodNamed B.named
  have hlocks := B.notSynchronized
  have C0 : wk_C p s m _ meth c cX11_strength 2 (some .int) wsX11_strength RX11 := ⟨hx, hb, hml, hr, hlocks, hown, hts⟩
  subst hsz
  have hD := hD0.self (sz := s.heap.size)
  generalize hAe : va_A (wX11 Y a M_g M_kept M_saved M_before M_isSaved M_changes M_isWithin M_code M_input M_length M_fault M_failed M_signs M_signMany M_column M_loads M_many M_sums M_groups M_at M_told M_toldMany) s.heap.size = A at hD ⊢
  have hA : ∀ q : Nat, s.heap.size ≤ q → A q := fun q h => by rw [← hAe]; exact Or.inr h
  have hS : va_S A s.heap s.heap [] := va_S.rf
  obtain ⟨H, hHe⟩ : ∃ H, H = s.heap := ⟨_, rfl⟩
  have hS : va_S A s.heap H [] := by rw [hHe]; exact hS
  have hP : va_P (dC, dI) vwCl [(a 0, .inr (11, [.ref (a 1), .ref (a 2), .ref (a 3), .ref (a 4), .int M_isSaved, .int M_changes, .int M_isWithin, .int M_code, .ref (a 5), .int M_length, .int M_fault, .int M_failed, .ref (a 6), .int M_signMany, .ref (a 7), .ref (a 8), .int M_many, .ref (a 9), .ref (a 10), .int M_at, .ref (a 11), .int M_toldMany])), (a 1, .inl (Y 0, 238, .inl M_g)), (a 2, .inl (Y 0, 1904, .inl M_kept)), (a 3, .inl (Y 0, 238, .inl M_saved)), (a 4, .inl (Y 0, 238, .inl M_before)), (a 5, .inl (Y 0, 60, .inl M_input)), (a 6, .inl (Y 2, 100, .inl M_signs)), (a 7, .inl (Y 0, 6, .inl M_column)), (a 8, .inl (Y 0, 6, .inl M_loads)), (a 9, .inl (Y 0, 2048, .inl M_sums)), (a 10, .inl (Y 0, 2048, .inl M_groups)), (a 11, .inl (Y 0, 155, .inl M_told))] H := by rw [hHe]; exact hP
  have hD : va_D A [(a 0, .inr (11, [.ref (a 1), .ref (a 2), .ref (a 3), .ref (a 4), .int M_isSaved, .int M_changes, .int M_isWithin, .int M_code, .ref (a 5), .int M_length, .int M_fault, .int M_failed, .ref (a 6), .int M_signMany, .ref (a 7), .ref (a 8), .int M_many, .ref (a 9), .ref (a 10), .int M_at, .ref (a 11), .int M_toldMany])), (a 1, .inl (Y 0, 238, .inl M_g)), (a 2, .inl (Y 0, 1904, .inl M_kept)), (a 3, .inl (Y 0, 238, .inl M_saved)), (a 4, .inl (Y 0, 238, .inl M_before)), (a 5, .inl (Y 0, 60, .inl M_input)), (a 6, .inl (Y 2, 100, .inl M_signs)), (a 7, .inl (Y 0, 6, .inl M_column)), (a 8, .inl (Y 0, 6, .inl M_loads)), (a 9, .inl (Y 0, 2048, .inl M_sums)), (a 10, .inl (Y 0, 2048, .inl M_groups)), (a 11, .inl (Y 0, 155, .inl M_told))] := hD
  obtain ⟨locs, hlo⟩ : ∃ locs : List Loc, locs = [] := ⟨_, rfl⟩
  have hS : va_S A s.heap H locs := by rw [hlo]; exact hS
  have hl := lv_entry ([.ref (a 0), .int x1]) (n := 2) (Nat.le_of_ble_eq_true rfl)
  rw [lg_entry_eq]
  generalize (lg_sl ([.ref (a 0), .int x1]) ++ List.replicate (2 - (lg_sl ([.ref (a 0), .int x1])).length) Slot.unset).toArray = ls at hl ⊢
  have hl : lv_has ls 2 [(0, .ref (a 0)), (1, .int x1)] := hl
  refine wk_start hHe hlo ?_
  rw [f_X11_strength] at hf
  refine lv_aload_n hx hb dX11_strength_0 rfl (lv_at hl 0 rfl) ?_
  refine lv_iload_n hx hb dX11_strength_1 rfl (lv_at hl 1 rfl) ?_
  obtain ⟨r1, w2, hr3, hf⟩ := wkb2_s hf
  refine wk_evi (As := [.int x1]) (rest := []) (wc := (wX11 Y a M_g M_kept M_saved M_before M_isSaved M_changes M_isWithin M_code M_input M_length M_fault M_failed M_signs M_signMany M_column M_loads M_many M_sums M_groups M_at M_told M_toldMany)) (w1 := (wX11 Y a M_g M_kept M_saved M_before M_isSaved M_changes M_isWithin w2 M_input M_length M_fault M_failed M_signs M_signMany M_column M_loads M_many M_sums M_groups M_at M_told M_toldMany)) (wr := []) ⟨hx, hb, hml, hown, hts⟩ (c_X11_isNone l dC dI Y a M_g M_kept M_saved M_before M_isSaved M_changes M_isWithin M_code M_input M_length M_fault M_failed M_signs M_signMany M_column M_loads M_many M_sums M_groups M_at M_told M_toldMany x1 H.size r1 w2 hr3) (cwV 1 hts gX11_strength_X11_isNone rfl rfl rfl (by decide +kernel) ⟨Nat.le_of_ble_eq_true rfl, Nat.le_of_ble_eq_true rfl⟩) hK hP hD hS hA [0, 1, 2, 3, 4, 5, 6, 7, 8, 9, 10, 11] [] rfl rfl (by decide) (by decide) (by decide) (va_recv hK hP (ci := 11) (q0 := 0) rfl rfl) rfl hl.1 rfl (Nat.le_of_ble_eq_true rfl) dX11_strength_2 ⟨Nat.le_of_ble_eq_true rfl, Nat.le_of_ble_eq_true rfl⟩ (fun H locs hP hD hS => ?_)
  have hP : va_P (dC, dI) vwCl [(a 0, .inr (11, [.ref (a 1), .ref (a 2), .ref (a 3), .ref (a 4), .int M_isSaved, .int M_changes, .int M_isWithin, .int w2, .ref (a 5), .int M_length, .int M_fault, .int M_failed, .ref (a 6), .int M_signMany, .ref (a 7), .ref (a 8), .int M_many, .ref (a 9), .ref (a 10), .int M_at, .ref (a 11), .int M_toldMany])), (a 1, .inl (Y 0, 238, .inl M_g)), (a 2, .inl (Y 0, 1904, .inl M_kept)), (a 3, .inl (Y 0, 238, .inl M_saved)), (a 4, .inl (Y 0, 238, .inl M_before)), (a 5, .inl (Y 0, 60, .inl M_input)), (a 6, .inl (Y 2, 100, .inl M_signs)), (a 7, .inl (Y 0, 6, .inl M_column)), (a 8, .inl (Y 0, 6, .inl M_loads)), (a 9, .inl (Y 0, 2048, .inl M_sums)), (a 10, .inl (Y 0, 2048, .inl M_groups)), (a 11, .inl (Y 0, 155, .inl M_told))] H := hP
  have hD : va_D A [(a 0, .inr (11, [.ref (a 1), .ref (a 2), .ref (a 3), .ref (a 4), .int M_isSaved, .int M_changes, .int M_isWithin, .int w2, .ref (a 5), .int M_length, .int M_fault, .int M_failed, .ref (a 6), .int M_signMany, .ref (a 7), .ref (a 8), .int M_many, .ref (a 9), .ref (a 10), .int M_at, .ref (a 11), .int M_toldMany])), (a 1, .inl (Y 0, 238, .inl M_g)), (a 2, .inl (Y 0, 1904, .inl M_kept)), (a 3, .inl (Y 0, 238, .inl M_saved)), (a 4, .inl (Y 0, 238, .inl M_before)), (a 5, .inl (Y 0, 60, .inl M_input)), (a 6, .inl (Y 2, 100, .inl M_signs)), (a 7, .inl (Y 0, 6, .inl M_column)), (a 8, .inl (Y 0, 6, .inl M_loads)), (a 9, .inl (Y 0, 2048, .inl M_sums)), (a 10, .inl (Y 0, 2048, .inl M_groups)), (a 11, .inl (Y 0, 155, .inl M_told))] := hD
  refine lv_if_eq (tgt := 12) hx hb dX11_strength_5 (by decide) (fun q4 => ?_) (fun q4 => ?_)
  · have hf := wk_t hf q4
    refine lv_aload_n hx hb dX11_strength_12 rfl (lv_at hl 0 rfl) ?_
    refine lv_iload_n hx hb dX11_strength_13 rfl (lv_at hl 1 rfl) ?_
    refine lv_iconst (v := 1) hx hb dX11_strength_14 (by decide) ?_
    obtain ⟨r5, hr6, hf⟩ := wkb1_s hf
    have hPc := hP.sub (ws' := (wX11 Y a M_g M_kept M_saved M_before M_isSaved M_changes M_isWithin w2 M_input M_length M_fault M_failed M_signs M_signMany M_column M_loads M_many M_sums M_groups M_at M_told M_toldMany)) [0, 1, 2, 3, 4, 5, 6, 7, 8, 9, 10, 11] rfl
    refine wk_vi (As := [.int x1, .int 1]) (rest := []) ⟨hx, hb, hml, hown, hts⟩ (c_X11_of l dC dI Y a M_g M_kept M_saved M_before M_isSaved M_changes M_isWithin w2 M_input M_length M_fault M_failed M_signs M_signMany M_column M_loads M_many M_sums M_groups M_at M_told M_toldMany x1 1 r5 hr6) (cwV 2 hts gX11_strength_X11_of rfl rfl rfl (by decide +kernel) ⟨Nat.le_of_ble_eq_true rfl, Nat.le_of_ble_eq_true rfl⟩) hK hPc (va_recv hK hP (ci := 11) (q0 := 0) rfl rfl) rfl hl.1 rfl (Nat.le_of_ble_eq_true rfl) dX11_strength_15 ⟨Nat.le_of_ble_eq_true rfl, Nat.le_of_ble_eq_true rfl⟩ ?_
    obtain ⟨e0, e1⟩ := wke2 hf
    subst e0
    subst e1
    have hP9 := hP.sub (ws' := (wX11 Y a M_g M_kept M_saved M_before M_isSaved M_changes M_isWithin w2 M_input M_length M_fault M_failed M_signs M_signMany M_column M_loads M_many M_sums M_groups M_at M_told M_toldMany)) [0, 1, 2, 3, 4, 5, 6, 7, 8, 9, 10, 11] rfl
    have hD9 := hD.sub (ws' := (wX11 Y a M_g M_kept M_saved M_before M_isSaved M_changes M_isWithin w2 M_input M_length M_fault M_failed M_signs M_signMany M_column M_loads M_many M_sums M_groups M_at M_told M_toldMany)) [0, 1, 2, 3, 4, 5, 6, 7, 8, 9, 10, 11] (by decide) rfl
    exact W.iret (v := r5) hx hb hr (fun t ht hW => ⟨⟨r5, (), rfl, rfl, by rw [ht]; exact hP9, va_K.moved hW.alike hK, hD9⟩, hS.F ht⟩) hS.2.2 dX11_strength_18
  · have hf := wk_f hf q4
    refine lv_iconst (v := 0) hx hb dX11_strength_8 (by decide) ?_
    refine lv_goto (tgt := 18) hx hb dX11_strength_9 (by decide) ?_
    obtain ⟨e0, e1⟩ := wke2 hf
    subst e0
    subst e1
    have hP9 := hP.sub (ws' := (wX11 Y a M_g M_kept M_saved M_before M_isSaved M_changes M_isWithin w2 M_input M_length M_fault M_failed M_signs M_signMany M_column M_loads M_many M_sums M_groups M_at M_told M_toldMany)) [0, 1, 2, 3, 4, 5, 6, 7, 8, 9, 10, 11] rfl
    have hD9 := hD.sub (ws' := (wX11 Y a M_g M_kept M_saved M_before M_isSaved M_changes M_isWithin w2 M_input M_length M_fault M_failed M_signs M_signMany M_column M_loads M_many M_sums M_groups M_at M_told M_toldMany)) [0, 1, 2, 3, 4, 5, 6, 7, 8, 9, 10, 11] (by decide) rfl
    exact W.iret (v := 0) hx hb hr (fun t ht hW => ⟨⟨0, (), rfl, rfl, by rw [ht]; exact hP9, va_K.moved hW.alike hK, hD9⟩, hS.F ht⟩) hS.2.2 dX11_strength_18
def f_X11_height (M_g : Nat → Int32) (M_code : Int32) (x1 : Int32) : Option (Int32 × Int32) :=
  wkb2 (f_X11_isNone M_g M_code x1) (fun r1 w2 =>
  if r1 = 0 then
    (wkb1 (f_X11_of M_g x1 2) (fun r5 =>
    some (r5, w2)))
  else
    (some (0, w2)))
set_option maxHeartbeats 4000000 in
set_option maxRecDepth 100000 in
theorem c_X11_height (l : Launch) (dC : Nat → ClassId) (dI : Nat → Nat → Nat) (Y : Nat → ClassId) (a : Nat → Nat) (M_g : Nat → Int32) (M_kept : Nat → Int32) (M_saved : Nat → Int32) (M_before : Nat → Int32) (M_isSaved : Int32) (M_changes : Int32) (M_isWithin : Int32) (M_code : Int32) (M_input : Nat → Int32) (M_length : Int32) (M_fault : Int32) (M_failed : Int32) (M_signs : Nat → Int32) (M_signMany : Int32) (M_column : Nat → Int32) (M_loads : Nat → Int32) (M_many : Int32) (M_sums : Nat → Int32) (M_groups : Nat → Int32) (M_at : Int32) (M_told : Nat → Int32) (M_toldMany : Int32) (x1 : Int32) (sz : Nat) (r : Int32) (zM_code : Int32) (hf : f_X11_height M_g M_code x1 = some (r, zM_code)) : Met l yX11_height wsX11_height ({ frames := 3, cells := 0, slots := 0, locals := 64 } : Room) (va_Pc [.ref (a 0), .int x1] (wk_E (dC, dI) Y (wX11 Y a M_g M_kept M_saved M_before M_isSaved M_changes M_isWithin M_code M_input M_length M_fault M_failed M_signs M_signMany M_column M_loads M_many M_sums M_groups M_at M_told M_toldMany) sz)) (va_Qi (fun r2 (_ : Unit) => r2 = r) (fun _ t => wk_X (dC, dI) Y (wX11 Y a M_g M_kept M_saved M_before M_isSaved M_changes M_isWithin zM_code M_input M_length M_fault M_failed M_signs M_signMany M_column M_loads M_many M_sums M_groups M_at M_told M_toldMany) (va_A (wX11 Y a M_g M_kept M_saved M_before M_isSaved M_changes M_isWithin M_code M_input M_length M_fault M_failed M_signs M_signMany M_column M_loads M_many M_sums M_groups M_at M_told M_toldMany) sz) t) (va_A (wX11 Y a M_g M_kept M_saved M_before M_isSaved M_changes M_isWithin M_code M_input M_length M_fault M_failed M_signs M_signMany M_column M_loads M_many M_sums M_groups M_at M_told M_toldMany) sz)) 0 0 (va_A (wX11 Y a M_g M_kept M_saved M_before M_isSaved M_changes M_isWithin M_code M_input M_length M_fault M_failed M_signs M_signMany M_column M_loads M_many M_sums M_groups M_at M_told M_toldMany) sz) := by
  refine Met.ofW (cc := cX11_height) (maxL := 2) (ret := (some .int)) (by decide) rfl ?_
  intro p e s m args below meth c s₁ B hml hv
  obtain ⟨rfl, hsz, hP, hK, hD0⟩ := hv
  have hx := B.exec
  have hb := B.bytes
  have hr := B.returns
  have hts := atoms_spec (ws := wsX11_height) B.pre
  have hown : s.vm.findClass RX11 = some m.cls := findClass_of_methodNamed B.named
  have hlocks := B.notSynchronized
  have C0 : wk_C p s m _ meth c cX11_height 2 (some .int) wsX11_height RX11 := ⟨hx, hb, hml, hr, hlocks, hown, hts⟩
  subst hsz
  have hD := hD0.self (sz := s.heap.size)
  generalize hAe : va_A (wX11 Y a M_g M_kept M_saved M_before M_isSaved M_changes M_isWithin M_code M_input M_length M_fault M_failed M_signs M_signMany M_column M_loads M_many M_sums M_groups M_at M_told M_toldMany) s.heap.size = A at hD ⊢
  have hA : ∀ q : Nat, s.heap.size ≤ q → A q := fun q h => by rw [← hAe]; exact Or.inr h
  have hS : va_S A s.heap s.heap [] := va_S.rf
  obtain ⟨H, hHe⟩ : ∃ H, H = s.heap := ⟨_, rfl⟩
  have hS : va_S A s.heap H [] := by rw [hHe]; exact hS
  have hP : va_P (dC, dI) vwCl [(a 0, .inr (11, [.ref (a 1), .ref (a 2), .ref (a 3), .ref (a 4), .int M_isSaved, .int M_changes, .int M_isWithin, .int M_code, .ref (a 5), .int M_length, .int M_fault, .int M_failed, .ref (a 6), .int M_signMany, .ref (a 7), .ref (a 8), .int M_many, .ref (a 9), .ref (a 10), .int M_at, .ref (a 11), .int M_toldMany])), (a 1, .inl (Y 0, 238, .inl M_g)), (a 2, .inl (Y 0, 1904, .inl M_kept)), (a 3, .inl (Y 0, 238, .inl M_saved)), (a 4, .inl (Y 0, 238, .inl M_before)), (a 5, .inl (Y 0, 60, .inl M_input)), (a 6, .inl (Y 2, 100, .inl M_signs)), (a 7, .inl (Y 0, 6, .inl M_column)), (a 8, .inl (Y 0, 6, .inl M_loads)), (a 9, .inl (Y 0, 2048, .inl M_sums)), (a 10, .inl (Y 0, 2048, .inl M_groups)), (a 11, .inl (Y 0, 155, .inl M_told))] H := by rw [hHe]; exact hP
  have hD : va_D A [(a 0, .inr (11, [.ref (a 1), .ref (a 2), .ref (a 3), .ref (a 4), .int M_isSaved, .int M_changes, .int M_isWithin, .int M_code, .ref (a 5), .int M_length, .int M_fault, .int M_failed, .ref (a 6), .int M_signMany, .ref (a 7), .ref (a 8), .int M_many, .ref (a 9), .ref (a 10), .int M_at, .ref (a 11), .int M_toldMany])), (a 1, .inl (Y 0, 238, .inl M_g)), (a 2, .inl (Y 0, 1904, .inl M_kept)), (a 3, .inl (Y 0, 238, .inl M_saved)), (a 4, .inl (Y 0, 238, .inl M_before)), (a 5, .inl (Y 0, 60, .inl M_input)), (a 6, .inl (Y 2, 100, .inl M_signs)), (a 7, .inl (Y 0, 6, .inl M_column)), (a 8, .inl (Y 0, 6, .inl M_loads)), (a 9, .inl (Y 0, 2048, .inl M_sums)), (a 10, .inl (Y 0, 2048, .inl M_groups)), (a 11, .inl (Y 0, 155, .inl M_told))] := hD
  obtain ⟨locs, hlo⟩ : ∃ locs : List Loc, locs = [] := ⟨_, rfl⟩
  have hS : va_S A s.heap H locs := by rw [hlo]; exact hS
  have hl := lv_entry ([.ref (a 0), .int x1]) (n := 2) (Nat.le_of_ble_eq_true rfl)
  rw [lg_entry_eq]
  generalize (lg_sl ([.ref (a 0), .int x1]) ++ List.replicate (2 - (lg_sl ([.ref (a 0), .int x1])).length) Slot.unset).toArray = ls at hl ⊢
  have hl : lv_has ls 2 [(0, .ref (a 0)), (1, .int x1)] := hl
  refine wk_start hHe hlo ?_
  rw [f_X11_height] at hf
  refine lv_aload_n hx hb dX11_height_0 rfl (lv_at hl 0 rfl) ?_
  refine lv_iload_n hx hb dX11_height_1 rfl (lv_at hl 1 rfl) ?_
  obtain ⟨r1, w2, hr3, hf⟩ := wkb2_s hf
  refine wk_evi (As := [.int x1]) (rest := []) (wc := (wX11 Y a M_g M_kept M_saved M_before M_isSaved M_changes M_isWithin M_code M_input M_length M_fault M_failed M_signs M_signMany M_column M_loads M_many M_sums M_groups M_at M_told M_toldMany)) (w1 := (wX11 Y a M_g M_kept M_saved M_before M_isSaved M_changes M_isWithin w2 M_input M_length M_fault M_failed M_signs M_signMany M_column M_loads M_many M_sums M_groups M_at M_told M_toldMany)) (wr := []) ⟨hx, hb, hml, hown, hts⟩ (c_X11_isNone l dC dI Y a M_g M_kept M_saved M_before M_isSaved M_changes M_isWithin M_code M_input M_length M_fault M_failed M_signs M_signMany M_column M_loads M_many M_sums M_groups M_at M_told M_toldMany x1 H.size r1 w2 hr3) (cwV 1 hts gX11_height_X11_isNone rfl rfl rfl (by decide +kernel) ⟨Nat.le_of_ble_eq_true rfl, Nat.le_of_ble_eq_true rfl⟩) hK hP hD hS hA [0, 1, 2, 3, 4, 5, 6, 7, 8, 9, 10, 11] [] rfl rfl (by decide) (by decide) (by decide) (va_recv hK hP (ci := 11) (q0 := 0) rfl rfl) rfl hl.1 rfl (Nat.le_of_ble_eq_true rfl) dX11_height_2 ⟨Nat.le_of_ble_eq_true rfl, Nat.le_of_ble_eq_true rfl⟩ (fun H locs hP hD hS => ?_)
  have hP : va_P (dC, dI) vwCl [(a 0, .inr (11, [.ref (a 1), .ref (a 2), .ref (a 3), .ref (a 4), .int M_isSaved, .int M_changes, .int M_isWithin, .int w2, .ref (a 5), .int M_length, .int M_fault, .int M_failed, .ref (a 6), .int M_signMany, .ref (a 7), .ref (a 8), .int M_many, .ref (a 9), .ref (a 10), .int M_at, .ref (a 11), .int M_toldMany])), (a 1, .inl (Y 0, 238, .inl M_g)), (a 2, .inl (Y 0, 1904, .inl M_kept)), (a 3, .inl (Y 0, 238, .inl M_saved)), (a 4, .inl (Y 0, 238, .inl M_before)), (a 5, .inl (Y 0, 60, .inl M_input)), (a 6, .inl (Y 2, 100, .inl M_signs)), (a 7, .inl (Y 0, 6, .inl M_column)), (a 8, .inl (Y 0, 6, .inl M_loads)), (a 9, .inl (Y 0, 2048, .inl M_sums)), (a 10, .inl (Y 0, 2048, .inl M_groups)), (a 11, .inl (Y 0, 155, .inl M_told))] H := hP
  have hD : va_D A [(a 0, .inr (11, [.ref (a 1), .ref (a 2), .ref (a 3), .ref (a 4), .int M_isSaved, .int M_changes, .int M_isWithin, .int w2, .ref (a 5), .int M_length, .int M_fault, .int M_failed, .ref (a 6), .int M_signMany, .ref (a 7), .ref (a 8), .int M_many, .ref (a 9), .ref (a 10), .int M_at, .ref (a 11), .int M_toldMany])), (a 1, .inl (Y 0, 238, .inl M_g)), (a 2, .inl (Y 0, 1904, .inl M_kept)), (a 3, .inl (Y 0, 238, .inl M_saved)), (a 4, .inl (Y 0, 238, .inl M_before)), (a 5, .inl (Y 0, 60, .inl M_input)), (a 6, .inl (Y 2, 100, .inl M_signs)), (a 7, .inl (Y 0, 6, .inl M_column)), (a 8, .inl (Y 0, 6, .inl M_loads)), (a 9, .inl (Y 0, 2048, .inl M_sums)), (a 10, .inl (Y 0, 2048, .inl M_groups)), (a 11, .inl (Y 0, 155, .inl M_told))] := hD
  refine lv_if_eq (tgt := 12) hx hb dX11_height_5 (by decide) (fun q4 => ?_) (fun q4 => ?_)
  · have hf := wk_t hf q4
    refine lv_aload_n hx hb dX11_height_12 rfl (lv_at hl 0 rfl) ?_
    refine lv_iload_n hx hb dX11_height_13 rfl (lv_at hl 1 rfl) ?_
    refine lv_iconst (v := 2) hx hb dX11_height_14 (by decide) ?_
    obtain ⟨r5, hr6, hf⟩ := wkb1_s hf
    have hPc := hP.sub (ws' := (wX11 Y a M_g M_kept M_saved M_before M_isSaved M_changes M_isWithin w2 M_input M_length M_fault M_failed M_signs M_signMany M_column M_loads M_many M_sums M_groups M_at M_told M_toldMany)) [0, 1, 2, 3, 4, 5, 6, 7, 8, 9, 10, 11] rfl
    refine wk_vi (As := [.int x1, .int 2]) (rest := []) ⟨hx, hb, hml, hown, hts⟩ (c_X11_of l dC dI Y a M_g M_kept M_saved M_before M_isSaved M_changes M_isWithin w2 M_input M_length M_fault M_failed M_signs M_signMany M_column M_loads M_many M_sums M_groups M_at M_told M_toldMany x1 2 r5 hr6) (cwV 2 hts gX11_height_X11_of rfl rfl rfl (by decide +kernel) ⟨Nat.le_of_ble_eq_true rfl, Nat.le_of_ble_eq_true rfl⟩) hK hPc (va_recv hK hP (ci := 11) (q0 := 0) rfl rfl) rfl hl.1 rfl (Nat.le_of_ble_eq_true rfl) dX11_height_15 ⟨Nat.le_of_ble_eq_true rfl, Nat.le_of_ble_eq_true rfl⟩ ?_
    obtain ⟨e0, e1⟩ := wke2 hf
    subst e0
    subst e1
    have hP9 := hP.sub (ws' := (wX11 Y a M_g M_kept M_saved M_before M_isSaved M_changes M_isWithin w2 M_input M_length M_fault M_failed M_signs M_signMany M_column M_loads M_many M_sums M_groups M_at M_told M_toldMany)) [0, 1, 2, 3, 4, 5, 6, 7, 8, 9, 10, 11] rfl
    have hD9 := hD.sub (ws' := (wX11 Y a M_g M_kept M_saved M_before M_isSaved M_changes M_isWithin w2 M_input M_length M_fault M_failed M_signs M_signMany M_column M_loads M_many M_sums M_groups M_at M_told M_toldMany)) [0, 1, 2, 3, 4, 5, 6, 7, 8, 9, 10, 11] (by decide) rfl
    exact W.iret (v := r5) hx hb hr (fun t ht hW => ⟨⟨r5, (), rfl, rfl, by rw [ht]; exact hP9, va_K.moved hW.alike hK, hD9⟩, hS.F ht⟩) hS.2.2 dX11_height_18
  · have hf := wk_f hf q4
    refine lv_iconst (v := 0) hx hb dX11_height_8 (by decide) ?_
    refine lv_goto (tgt := 18) hx hb dX11_height_9 (by decide) ?_
    obtain ⟨e0, e1⟩ := wke2 hf
    subst e0
    subst e1
    have hP9 := hP.sub (ws' := (wX11 Y a M_g M_kept M_saved M_before M_isSaved M_changes M_isWithin w2 M_input M_length M_fault M_failed M_signs M_signMany M_column M_loads M_many M_sums M_groups M_at M_told M_toldMany)) [0, 1, 2, 3, 4, 5, 6, 7, 8, 9, 10, 11] rfl
    have hD9 := hD.sub (ws' := (wX11 Y a M_g M_kept M_saved M_before M_isSaved M_changes M_isWithin w2 M_input M_length M_fault M_failed M_signs M_signMany M_column M_loads M_many M_sums M_groups M_at M_told M_toldMany)) [0, 1, 2, 3, 4, 5, 6, 7, 8, 9, 10, 11] (by decide) rfl
    exact W.iret (v := 0) hx hb hr (fun t ht hW => ⟨⟨0, (), rfl, rfl, by rw [ht]; exact hP9, va_K.moved hW.alike hK, hD9⟩, hS.F ht⟩) hS.2.2 dX11_height_18
def f_X11_wage (M_g : Nat → Int32) (M_code : Int32) (x1 : Int32) : Option (Int32 × Int32) :=
  wkb2 (f_X11_isNone M_g M_code x1) (fun r1 w2 =>
  if r1 = 0 then
    (wkb1 (f_X11_of M_g x1 3) (fun r5 =>
    some (r5, w2)))
  else
    (some (0, w2)))
set_option maxHeartbeats 4000000 in
set_option maxRecDepth 100000 in
theorem c_X11_wage (l : Launch) (dC : Nat → ClassId) (dI : Nat → Nat → Nat) (Y : Nat → ClassId) (a : Nat → Nat) (M_g : Nat → Int32) (M_kept : Nat → Int32) (M_saved : Nat → Int32) (M_before : Nat → Int32) (M_isSaved : Int32) (M_changes : Int32) (M_isWithin : Int32) (M_code : Int32) (M_input : Nat → Int32) (M_length : Int32) (M_fault : Int32) (M_failed : Int32) (M_signs : Nat → Int32) (M_signMany : Int32) (M_column : Nat → Int32) (M_loads : Nat → Int32) (M_many : Int32) (M_sums : Nat → Int32) (M_groups : Nat → Int32) (M_at : Int32) (M_told : Nat → Int32) (M_toldMany : Int32) (x1 : Int32) (sz : Nat) (r : Int32) (zM_code : Int32) (hf : f_X11_wage M_g M_code x1 = some (r, zM_code)) : Met l yX11_wage wsX11_wage ({ frames := 3, cells := 0, slots := 0, locals := 64 } : Room) (va_Pc [.ref (a 0), .int x1] (wk_E (dC, dI) Y (wX11 Y a M_g M_kept M_saved M_before M_isSaved M_changes M_isWithin M_code M_input M_length M_fault M_failed M_signs M_signMany M_column M_loads M_many M_sums M_groups M_at M_told M_toldMany) sz)) (va_Qi (fun r2 (_ : Unit) => r2 = r) (fun _ t => wk_X (dC, dI) Y (wX11 Y a M_g M_kept M_saved M_before M_isSaved M_changes M_isWithin zM_code M_input M_length M_fault M_failed M_signs M_signMany M_column M_loads M_many M_sums M_groups M_at M_told M_toldMany) (va_A (wX11 Y a M_g M_kept M_saved M_before M_isSaved M_changes M_isWithin M_code M_input M_length M_fault M_failed M_signs M_signMany M_column M_loads M_many M_sums M_groups M_at M_told M_toldMany) sz) t) (va_A (wX11 Y a M_g M_kept M_saved M_before M_isSaved M_changes M_isWithin M_code M_input M_length M_fault M_failed M_signs M_signMany M_column M_loads M_many M_sums M_groups M_at M_told M_toldMany) sz)) 0 0 (va_A (wX11 Y a M_g M_kept M_saved M_before M_isSaved M_changes M_isWithin M_code M_input M_length M_fault M_failed M_signs M_signMany M_column M_loads M_many M_sums M_groups M_at M_told M_toldMany) sz) := by
  refine Met.ofW (cc := cX11_wage) (maxL := 2) (ret := (some .int)) (by decide) rfl ?_
  intro p e s m args below meth c s₁ B hml hv
  obtain ⟨rfl, hsz, hP, hK, hD0⟩ := hv
  have hx := B.exec
  have hb := B.bytes
  have hr := B.returns
  have hts := atoms_spec (ws := wsX11_wage) B.pre
  have hown : s.vm.findClass RX11 = some m.cls := findClass_of_methodNamed B.named
  have hlocks := B.notSynchronized
  have C0 : wk_C p s m _ meth c cX11_wage 2 (some .int) wsX11_wage RX11 := ⟨hx, hb, hml, hr, hlocks, hown, hts⟩
  subst hsz
  have hD := hD0.self (sz := s.heap.size)
  generalize hAe : va_A (wX11 Y a M_g M_kept M_saved M_before M_isSaved M_changes M_isWithin M_code M_input M_length M_fault M_failed M_signs M_signMany M_column M_loads M_many M_sums M_groups M_at M_told M_toldMany) s.heap.size = A at hD ⊢
  have hA : ∀ q : Nat, s.heap.size ≤ q → A q := fun q h => by rw [← hAe]; exact Or.inr h
  have hS : va_S A s.heap s.heap [] := va_S.rf
  obtain ⟨H, hHe⟩ : ∃ H, H = s.heap := ⟨_, rfl⟩
  have hS : va_S A s.heap H [] := by rw [hHe]; exact hS
  have hP : va_P (dC, dI) vwCl [(a 0, .inr (11, [.ref (a 1), .ref (a 2), .ref (a 3), .ref (a 4), .int M_isSaved, .int M_changes, .int M_isWithin, .int M_code, .ref (a 5), .int M_length, .int M_fault, .int M_failed, .ref (a 6), .int M_signMany, .ref (a 7), .ref (a 8), .int M_many, .ref (a 9), .ref (a 10), .int M_at, .ref (a 11), .int M_toldMany])), (a 1, .inl (Y 0, 238, .inl M_g)), (a 2, .inl (Y 0, 1904, .inl M_kept)), (a 3, .inl (Y 0, 238, .inl M_saved)), (a 4, .inl (Y 0, 238, .inl M_before)), (a 5, .inl (Y 0, 60, .inl M_input)), (a 6, .inl (Y 2, 100, .inl M_signs)), (a 7, .inl (Y 0, 6, .inl M_column)), (a 8, .inl (Y 0, 6, .inl M_loads)), (a 9, .inl (Y 0, 2048, .inl M_sums)), (a 10, .inl (Y 0, 2048, .inl M_groups)), (a 11, .inl (Y 0, 155, .inl M_told))] H := by rw [hHe]; exact hP
  have hD : va_D A [(a 0, .inr (11, [.ref (a 1), .ref (a 2), .ref (a 3), .ref (a 4), .int M_isSaved, .int M_changes, .int M_isWithin, .int M_code, .ref (a 5), .int M_length, .int M_fault, .int M_failed, .ref (a 6), .int M_signMany, .ref (a 7), .ref (a 8), .int M_many, .ref (a 9), .ref (a 10), .int M_at, .ref (a 11), .int M_toldMany])), (a 1, .inl (Y 0, 238, .inl M_g)), (a 2, .inl (Y 0, 1904, .inl M_kept)), (a 3, .inl (Y 0, 238, .inl M_saved)), (a 4, .inl (Y 0, 238, .inl M_before)), (a 5, .inl (Y 0, 60, .inl M_input)), (a 6, .inl (Y 2, 100, .inl M_signs)), (a 7, .inl (Y 0, 6, .inl M_column)), (a 8, .inl (Y 0, 6, .inl M_loads)), (a 9, .inl (Y 0, 2048, .inl M_sums)), (a 10, .inl (Y 0, 2048, .inl M_groups)), (a 11, .inl (Y 0, 155, .inl M_told))] := hD
  obtain ⟨locs, hlo⟩ : ∃ locs : List Loc, locs = [] := ⟨_, rfl⟩
  have hS : va_S A s.heap H locs := by rw [hlo]; exact hS
  have hl := lv_entry ([.ref (a 0), .int x1]) (n := 2) (Nat.le_of_ble_eq_true rfl)
  rw [lg_entry_eq]
  generalize (lg_sl ([.ref (a 0), .int x1]) ++ List.replicate (2 - (lg_sl ([.ref (a 0), .int x1])).length) Slot.unset).toArray = ls at hl ⊢
  have hl : lv_has ls 2 [(0, .ref (a 0)), (1, .int x1)] := hl
  refine wk_start hHe hlo ?_
  rw [f_X11_wage] at hf
  refine lv_aload_n hx hb dX11_wage_0 rfl (lv_at hl 0 rfl) ?_
  refine lv_iload_n hx hb dX11_wage_1 rfl (lv_at hl 1 rfl) ?_
  obtain ⟨r1, w2, hr3, hf⟩ := wkb2_s hf
  refine wk_evi (As := [.int x1]) (rest := []) (wc := (wX11 Y a M_g M_kept M_saved M_before M_isSaved M_changes M_isWithin M_code M_input M_length M_fault M_failed M_signs M_signMany M_column M_loads M_many M_sums M_groups M_at M_told M_toldMany)) (w1 := (wX11 Y a M_g M_kept M_saved M_before M_isSaved M_changes M_isWithin w2 M_input M_length M_fault M_failed M_signs M_signMany M_column M_loads M_many M_sums M_groups M_at M_told M_toldMany)) (wr := []) ⟨hx, hb, hml, hown, hts⟩ (c_X11_isNone l dC dI Y a M_g M_kept M_saved M_before M_isSaved M_changes M_isWithin M_code M_input M_length M_fault M_failed M_signs M_signMany M_column M_loads M_many M_sums M_groups M_at M_told M_toldMany x1 H.size r1 w2 hr3) (cwV 1 hts gX11_wage_X11_isNone rfl rfl rfl (by decide +kernel) ⟨Nat.le_of_ble_eq_true rfl, Nat.le_of_ble_eq_true rfl⟩) hK hP hD hS hA [0, 1, 2, 3, 4, 5, 6, 7, 8, 9, 10, 11] [] rfl rfl (by decide) (by decide) (by decide) (va_recv hK hP (ci := 11) (q0 := 0) rfl rfl) rfl hl.1 rfl (Nat.le_of_ble_eq_true rfl) dX11_wage_2 ⟨Nat.le_of_ble_eq_true rfl, Nat.le_of_ble_eq_true rfl⟩ (fun H locs hP hD hS => ?_)
  have hP : va_P (dC, dI) vwCl [(a 0, .inr (11, [.ref (a 1), .ref (a 2), .ref (a 3), .ref (a 4), .int M_isSaved, .int M_changes, .int M_isWithin, .int w2, .ref (a 5), .int M_length, .int M_fault, .int M_failed, .ref (a 6), .int M_signMany, .ref (a 7), .ref (a 8), .int M_many, .ref (a 9), .ref (a 10), .int M_at, .ref (a 11), .int M_toldMany])), (a 1, .inl (Y 0, 238, .inl M_g)), (a 2, .inl (Y 0, 1904, .inl M_kept)), (a 3, .inl (Y 0, 238, .inl M_saved)), (a 4, .inl (Y 0, 238, .inl M_before)), (a 5, .inl (Y 0, 60, .inl M_input)), (a 6, .inl (Y 2, 100, .inl M_signs)), (a 7, .inl (Y 0, 6, .inl M_column)), (a 8, .inl (Y 0, 6, .inl M_loads)), (a 9, .inl (Y 0, 2048, .inl M_sums)), (a 10, .inl (Y 0, 2048, .inl M_groups)), (a 11, .inl (Y 0, 155, .inl M_told))] H := hP
  have hD : va_D A [(a 0, .inr (11, [.ref (a 1), .ref (a 2), .ref (a 3), .ref (a 4), .int M_isSaved, .int M_changes, .int M_isWithin, .int w2, .ref (a 5), .int M_length, .int M_fault, .int M_failed, .ref (a 6), .int M_signMany, .ref (a 7), .ref (a 8), .int M_many, .ref (a 9), .ref (a 10), .int M_at, .ref (a 11), .int M_toldMany])), (a 1, .inl (Y 0, 238, .inl M_g)), (a 2, .inl (Y 0, 1904, .inl M_kept)), (a 3, .inl (Y 0, 238, .inl M_saved)), (a 4, .inl (Y 0, 238, .inl M_before)), (a 5, .inl (Y 0, 60, .inl M_input)), (a 6, .inl (Y 2, 100, .inl M_signs)), (a 7, .inl (Y 0, 6, .inl M_column)), (a 8, .inl (Y 0, 6, .inl M_loads)), (a 9, .inl (Y 0, 2048, .inl M_sums)), (a 10, .inl (Y 0, 2048, .inl M_groups)), (a 11, .inl (Y 0, 155, .inl M_told))] := hD
  refine lv_if_eq (tgt := 12) hx hb dX11_wage_5 (by decide) (fun q4 => ?_) (fun q4 => ?_)
  · have hf := wk_t hf q4
    refine lv_aload_n hx hb dX11_wage_12 rfl (lv_at hl 0 rfl) ?_
    refine lv_iload_n hx hb dX11_wage_13 rfl (lv_at hl 1 rfl) ?_
    refine lv_iconst (v := 3) hx hb dX11_wage_14 (by decide) ?_
    obtain ⟨r5, hr6, hf⟩ := wkb1_s hf
    have hPc := hP.sub (ws' := (wX11 Y a M_g M_kept M_saved M_before M_isSaved M_changes M_isWithin w2 M_input M_length M_fault M_failed M_signs M_signMany M_column M_loads M_many M_sums M_groups M_at M_told M_toldMany)) [0, 1, 2, 3, 4, 5, 6, 7, 8, 9, 10, 11] rfl
    refine wk_vi (As := [.int x1, .int 3]) (rest := []) ⟨hx, hb, hml, hown, hts⟩ (c_X11_of l dC dI Y a M_g M_kept M_saved M_before M_isSaved M_changes M_isWithin w2 M_input M_length M_fault M_failed M_signs M_signMany M_column M_loads M_many M_sums M_groups M_at M_told M_toldMany x1 3 r5 hr6) (cwV 2 hts gX11_wage_X11_of rfl rfl rfl (by decide +kernel) ⟨Nat.le_of_ble_eq_true rfl, Nat.le_of_ble_eq_true rfl⟩) hK hPc (va_recv hK hP (ci := 11) (q0 := 0) rfl rfl) rfl hl.1 rfl (Nat.le_of_ble_eq_true rfl) dX11_wage_15 ⟨Nat.le_of_ble_eq_true rfl, Nat.le_of_ble_eq_true rfl⟩ ?_
    obtain ⟨e0, e1⟩ := wke2 hf
    subst e0
    subst e1
    have hP9 := hP.sub (ws' := (wX11 Y a M_g M_kept M_saved M_before M_isSaved M_changes M_isWithin w2 M_input M_length M_fault M_failed M_signs M_signMany M_column M_loads M_many M_sums M_groups M_at M_told M_toldMany)) [0, 1, 2, 3, 4, 5, 6, 7, 8, 9, 10, 11] rfl
    have hD9 := hD.sub (ws' := (wX11 Y a M_g M_kept M_saved M_before M_isSaved M_changes M_isWithin w2 M_input M_length M_fault M_failed M_signs M_signMany M_column M_loads M_many M_sums M_groups M_at M_told M_toldMany)) [0, 1, 2, 3, 4, 5, 6, 7, 8, 9, 10, 11] (by decide) rfl
    exact W.iret (v := r5) hx hb hr (fun t ht hW => ⟨⟨r5, (), rfl, rfl, by rw [ht]; exact hP9, va_K.moved hW.alike hK, hD9⟩, hS.F ht⟩) hS.2.2 dX11_wage_18
  · have hf := wk_f hf q4
    refine lv_iconst (v := 0) hx hb dX11_wage_8 (by decide) ?_
    refine lv_goto (tgt := 18) hx hb dX11_wage_9 (by decide) ?_
    obtain ⟨e0, e1⟩ := wke2 hf
    subst e0
    subst e1
    have hP9 := hP.sub (ws' := (wX11 Y a M_g M_kept M_saved M_before M_isSaved M_changes M_isWithin w2 M_input M_length M_fault M_failed M_signs M_signMany M_column M_loads M_many M_sums M_groups M_at M_told M_toldMany)) [0, 1, 2, 3, 4, 5, 6, 7, 8, 9, 10, 11] rfl
    have hD9 := hD.sub (ws' := (wX11 Y a M_g M_kept M_saved M_before M_isSaved M_changes M_isWithin w2 M_input M_length M_fault M_failed M_signs M_signMany M_column M_loads M_many M_sums M_groups M_at M_told M_toldMany)) [0, 1, 2, 3, 4, 5, 6, 7, 8, 9, 10, 11] (by decide) rfl
    exact W.iret (v := 0) hx hb hr (fun t ht hW => ⟨⟨0, (), rfl, rfl, by rw [ht]; exact hP9, va_K.moved hW.alike hK, hD9⟩, hS.F ht⟩) hS.2.2 dX11_wage_18
def f_X11_isInjured (M_g : Nat → Int32) (M_code : Int32) (x1 : Int32) : Option (Int32 × Int32) :=
  wkb2 (f_X11_isNone M_g M_code x1) (fun r1 w2 =>
  if r1 = 0 then
    (wkb1 (f_X11_of M_g x1 4) (fun r5 =>
    if r5 ≤ 0 then
      (some (0, w2))
    else
      (some (1, w2))))
  else
    (some (0, w2)))
set_option maxHeartbeats 4000000 in
set_option maxRecDepth 100000 in
theorem c_X11_isInjured (l : Launch) (dC : Nat → ClassId) (dI : Nat → Nat → Nat) (Y : Nat → ClassId) (a : Nat → Nat) (M_g : Nat → Int32) (M_kept : Nat → Int32) (M_saved : Nat → Int32) (M_before : Nat → Int32) (M_isSaved : Int32) (M_changes : Int32) (M_isWithin : Int32) (M_code : Int32) (M_input : Nat → Int32) (M_length : Int32) (M_fault : Int32) (M_failed : Int32) (M_signs : Nat → Int32) (M_signMany : Int32) (M_column : Nat → Int32) (M_loads : Nat → Int32) (M_many : Int32) (M_sums : Nat → Int32) (M_groups : Nat → Int32) (M_at : Int32) (M_told : Nat → Int32) (M_toldMany : Int32) (x1 : Int32) (sz : Nat) (r : Int32) (zM_code : Int32) (hf : f_X11_isInjured M_g M_code x1 = some (r, zM_code)) : Met l yX11_isInjured wsX11_isInjured ({ frames := 3, cells := 0, slots := 0, locals := 64 } : Room) (va_Pc [.ref (a 0), .int x1] (wk_E (dC, dI) Y (wX11 Y a M_g M_kept M_saved M_before M_isSaved M_changes M_isWithin M_code M_input M_length M_fault M_failed M_signs M_signMany M_column M_loads M_many M_sums M_groups M_at M_told M_toldMany) sz)) (va_Qi (fun r2 (_ : Unit) => r2 = r) (fun _ t => wk_X (dC, dI) Y (wX11 Y a M_g M_kept M_saved M_before M_isSaved M_changes M_isWithin zM_code M_input M_length M_fault M_failed M_signs M_signMany M_column M_loads M_many M_sums M_groups M_at M_told M_toldMany) (va_A (wX11 Y a M_g M_kept M_saved M_before M_isSaved M_changes M_isWithin M_code M_input M_length M_fault M_failed M_signs M_signMany M_column M_loads M_many M_sums M_groups M_at M_told M_toldMany) sz) t) (va_A (wX11 Y a M_g M_kept M_saved M_before M_isSaved M_changes M_isWithin M_code M_input M_length M_fault M_failed M_signs M_signMany M_column M_loads M_many M_sums M_groups M_at M_told M_toldMany) sz)) 0 0 (va_A (wX11 Y a M_g M_kept M_saved M_before M_isSaved M_changes M_isWithin M_code M_input M_length M_fault M_failed M_signs M_signMany M_column M_loads M_many M_sums M_groups M_at M_told M_toldMany) sz) := by
  refine Met.ofW (cc := cX11_isInjured) (maxL := 2) (ret := (some .boolean)) (by decide) rfl ?_
  intro p e s m args below meth c s₁ B hml hv
  obtain ⟨rfl, hsz, hP, hK, hD0⟩ := hv
  have hx := B.exec
  have hb := B.bytes
  have hr := B.returns
  have hts := atoms_spec (ws := wsX11_isInjured) B.pre
  have hown : s.vm.findClass RX11 = some m.cls := findClass_of_methodNamed B.named
  have hlocks := B.notSynchronized
  have C0 : wk_C p s m _ meth c cX11_isInjured 2 (some .boolean) wsX11_isInjured RX11 := ⟨hx, hb, hml, hr, hlocks, hown, hts⟩
  subst hsz
  have hD := hD0.self (sz := s.heap.size)
  generalize hAe : va_A (wX11 Y a M_g M_kept M_saved M_before M_isSaved M_changes M_isWithin M_code M_input M_length M_fault M_failed M_signs M_signMany M_column M_loads M_many M_sums M_groups M_at M_told M_toldMany) s.heap.size = A at hD ⊢
  have hA : ∀ q : Nat, s.heap.size ≤ q → A q := fun q h => by rw [← hAe]; exact Or.inr h
  have hS : va_S A s.heap s.heap [] := va_S.rf
  obtain ⟨H, hHe⟩ : ∃ H, H = s.heap := ⟨_, rfl⟩
  have hS : va_S A s.heap H [] := by rw [hHe]; exact hS
  have hP : va_P (dC, dI) vwCl [(a 0, .inr (11, [.ref (a 1), .ref (a 2), .ref (a 3), .ref (a 4), .int M_isSaved, .int M_changes, .int M_isWithin, .int M_code, .ref (a 5), .int M_length, .int M_fault, .int M_failed, .ref (a 6), .int M_signMany, .ref (a 7), .ref (a 8), .int M_many, .ref (a 9), .ref (a 10), .int M_at, .ref (a 11), .int M_toldMany])), (a 1, .inl (Y 0, 238, .inl M_g)), (a 2, .inl (Y 0, 1904, .inl M_kept)), (a 3, .inl (Y 0, 238, .inl M_saved)), (a 4, .inl (Y 0, 238, .inl M_before)), (a 5, .inl (Y 0, 60, .inl M_input)), (a 6, .inl (Y 2, 100, .inl M_signs)), (a 7, .inl (Y 0, 6, .inl M_column)), (a 8, .inl (Y 0, 6, .inl M_loads)), (a 9, .inl (Y 0, 2048, .inl M_sums)), (a 10, .inl (Y 0, 2048, .inl M_groups)), (a 11, .inl (Y 0, 155, .inl M_told))] H := by rw [hHe]; exact hP
  have hD : va_D A [(a 0, .inr (11, [.ref (a 1), .ref (a 2), .ref (a 3), .ref (a 4), .int M_isSaved, .int M_changes, .int M_isWithin, .int M_code, .ref (a 5), .int M_length, .int M_fault, .int M_failed, .ref (a 6), .int M_signMany, .ref (a 7), .ref (a 8), .int M_many, .ref (a 9), .ref (a 10), .int M_at, .ref (a 11), .int M_toldMany])), (a 1, .inl (Y 0, 238, .inl M_g)), (a 2, .inl (Y 0, 1904, .inl M_kept)), (a 3, .inl (Y 0, 238, .inl M_saved)), (a 4, .inl (Y 0, 238, .inl M_before)), (a 5, .inl (Y 0, 60, .inl M_input)), (a 6, .inl (Y 2, 100, .inl M_signs)), (a 7, .inl (Y 0, 6, .inl M_column)), (a 8, .inl (Y 0, 6, .inl M_loads)), (a 9, .inl (Y 0, 2048, .inl M_sums)), (a 10, .inl (Y 0, 2048, .inl M_groups)), (a 11, .inl (Y 0, 155, .inl M_told))] := hD
  obtain ⟨locs, hlo⟩ : ∃ locs : List Loc, locs = [] := ⟨_, rfl⟩
  have hS : va_S A s.heap H locs := by rw [hlo]; exact hS
  have hl := lv_entry ([.ref (a 0), .int x1]) (n := 2) (Nat.le_of_ble_eq_true rfl)
  rw [lg_entry_eq]
  generalize (lg_sl ([.ref (a 0), .int x1]) ++ List.replicate (2 - (lg_sl ([.ref (a 0), .int x1])).length) Slot.unset).toArray = ls at hl ⊢
  have hl : lv_has ls 2 [(0, .ref (a 0)), (1, .int x1)] := hl
  refine wk_start hHe hlo ?_
  rw [f_X11_isInjured] at hf
  refine lv_aload_n hx hb dX11_isInjured_0 rfl (lv_at hl 0 rfl) ?_
  refine lv_iload_n hx hb dX11_isInjured_1 rfl (lv_at hl 1 rfl) ?_
  obtain ⟨r1, w2, hr3, hf⟩ := wkb2_s hf
  refine wk_evi (As := [.int x1]) (rest := []) (wc := (wX11 Y a M_g M_kept M_saved M_before M_isSaved M_changes M_isWithin M_code M_input M_length M_fault M_failed M_signs M_signMany M_column M_loads M_many M_sums M_groups M_at M_told M_toldMany)) (w1 := (wX11 Y a M_g M_kept M_saved M_before M_isSaved M_changes M_isWithin w2 M_input M_length M_fault M_failed M_signs M_signMany M_column M_loads M_many M_sums M_groups M_at M_told M_toldMany)) (wr := []) ⟨hx, hb, hml, hown, hts⟩ (c_X11_isNone l dC dI Y a M_g M_kept M_saved M_before M_isSaved M_changes M_isWithin M_code M_input M_length M_fault M_failed M_signs M_signMany M_column M_loads M_many M_sums M_groups M_at M_told M_toldMany x1 H.size r1 w2 hr3) (cwV 1 hts gX11_isInjured_X11_isNone rfl rfl rfl (by decide +kernel) ⟨Nat.le_of_ble_eq_true rfl, Nat.le_of_ble_eq_true rfl⟩) hK hP hD hS hA [0, 1, 2, 3, 4, 5, 6, 7, 8, 9, 10, 11] [] rfl rfl (by decide) (by decide) (by decide) (va_recv hK hP (ci := 11) (q0 := 0) rfl rfl) rfl hl.1 rfl (Nat.le_of_ble_eq_true rfl) dX11_isInjured_2 ⟨Nat.le_of_ble_eq_true rfl, Nat.le_of_ble_eq_true rfl⟩ (fun H locs hP hD hS => ?_)
  have hP : va_P (dC, dI) vwCl [(a 0, .inr (11, [.ref (a 1), .ref (a 2), .ref (a 3), .ref (a 4), .int M_isSaved, .int M_changes, .int M_isWithin, .int w2, .ref (a 5), .int M_length, .int M_fault, .int M_failed, .ref (a 6), .int M_signMany, .ref (a 7), .ref (a 8), .int M_many, .ref (a 9), .ref (a 10), .int M_at, .ref (a 11), .int M_toldMany])), (a 1, .inl (Y 0, 238, .inl M_g)), (a 2, .inl (Y 0, 1904, .inl M_kept)), (a 3, .inl (Y 0, 238, .inl M_saved)), (a 4, .inl (Y 0, 238, .inl M_before)), (a 5, .inl (Y 0, 60, .inl M_input)), (a 6, .inl (Y 2, 100, .inl M_signs)), (a 7, .inl (Y 0, 6, .inl M_column)), (a 8, .inl (Y 0, 6, .inl M_loads)), (a 9, .inl (Y 0, 2048, .inl M_sums)), (a 10, .inl (Y 0, 2048, .inl M_groups)), (a 11, .inl (Y 0, 155, .inl M_told))] H := hP
  have hD : va_D A [(a 0, .inr (11, [.ref (a 1), .ref (a 2), .ref (a 3), .ref (a 4), .int M_isSaved, .int M_changes, .int M_isWithin, .int w2, .ref (a 5), .int M_length, .int M_fault, .int M_failed, .ref (a 6), .int M_signMany, .ref (a 7), .ref (a 8), .int M_many, .ref (a 9), .ref (a 10), .int M_at, .ref (a 11), .int M_toldMany])), (a 1, .inl (Y 0, 238, .inl M_g)), (a 2, .inl (Y 0, 1904, .inl M_kept)), (a 3, .inl (Y 0, 238, .inl M_saved)), (a 4, .inl (Y 0, 238, .inl M_before)), (a 5, .inl (Y 0, 60, .inl M_input)), (a 6, .inl (Y 2, 100, .inl M_signs)), (a 7, .inl (Y 0, 6, .inl M_column)), (a 8, .inl (Y 0, 6, .inl M_loads)), (a 9, .inl (Y 0, 2048, .inl M_sums)), (a 10, .inl (Y 0, 2048, .inl M_groups)), (a 11, .inl (Y 0, 155, .inl M_told))] := hD
  refine lv_if_ne (tgt := 21) hx hb dX11_isInjured_5 (by decide) (fun q4 => ?_) (fun q4 => ?_)
  · have hf := wk_f hf q4
    refine lv_iconst (v := 0) hx hb dX11_isInjured_21 (by decide) ?_
    obtain ⟨e0, e1⟩ := wke2 hf
    subst e0
    subst e1
    have hP9 := hP.sub (ws' := (wX11 Y a M_g M_kept M_saved M_before M_isSaved M_changes M_isWithin w2 M_input M_length M_fault M_failed M_signs M_signMany M_column M_loads M_many M_sums M_groups M_at M_told M_toldMany)) [0, 1, 2, 3, 4, 5, 6, 7, 8, 9, 10, 11] rfl
    have hD9 := hD.sub (ws' := (wX11 Y a M_g M_kept M_saved M_before M_isSaved M_changes M_isWithin w2 M_input M_length M_fault M_failed M_signs M_signMany M_column M_loads M_many M_sums M_groups M_at M_told M_toldMany)) [0, 1, 2, 3, 4, 5, 6, 7, 8, 9, 10, 11] (by decide) rfl
    exact W.zret (v := 0) (ty := .boolean) hx hb hr rfl (fun t ht hW => ⟨⟨0, (), rfl, rfl, by rw [ht]; exact hP9, va_K.moved hW.alike hK, hD9⟩, hS.F ht⟩) hS.2.2 dX11_isInjured_22
  · have hf := wk_t hf q4
    refine lv_aload_n hx hb dX11_isInjured_8 rfl (lv_at hl 0 rfl) ?_
    refine lv_iload_n hx hb dX11_isInjured_9 rfl (lv_at hl 1 rfl) ?_
    refine lv_iconst (v := 4) hx hb dX11_isInjured_10 (by decide) ?_
    obtain ⟨r5, hr6, hf⟩ := wkb1_s hf
    have hPc := hP.sub (ws' := (wX11 Y a M_g M_kept M_saved M_before M_isSaved M_changes M_isWithin w2 M_input M_length M_fault M_failed M_signs M_signMany M_column M_loads M_many M_sums M_groups M_at M_told M_toldMany)) [0, 1, 2, 3, 4, 5, 6, 7, 8, 9, 10, 11] rfl
    refine wk_vi (As := [.int x1, .int 4]) (rest := []) ⟨hx, hb, hml, hown, hts⟩ (c_X11_of l dC dI Y a M_g M_kept M_saved M_before M_isSaved M_changes M_isWithin w2 M_input M_length M_fault M_failed M_signs M_signMany M_column M_loads M_many M_sums M_groups M_at M_told M_toldMany x1 4 r5 hr6) (cwV 2 hts gX11_isInjured_X11_of rfl rfl rfl (by decide +kernel) ⟨Nat.le_of_ble_eq_true rfl, Nat.le_of_ble_eq_true rfl⟩) hK hPc (va_recv hK hP (ci := 11) (q0 := 0) rfl rfl) rfl hl.1 rfl (Nat.le_of_ble_eq_true rfl) dX11_isInjured_11 ⟨Nat.le_of_ble_eq_true rfl, Nat.le_of_ble_eq_true rfl⟩ ?_
    refine lv_if_le (tgt := 21) hx hb dX11_isInjured_14 (by decide) (fun q7 => ?_) (fun q7 => ?_)
    · have hf := wk_t hf q7
      refine lv_iconst (v := 0) hx hb dX11_isInjured_21 (by decide) ?_
      obtain ⟨e0, e1⟩ := wke2 hf
      subst e0
      subst e1
      have hP9 := hP.sub (ws' := (wX11 Y a M_g M_kept M_saved M_before M_isSaved M_changes M_isWithin w2 M_input M_length M_fault M_failed M_signs M_signMany M_column M_loads M_many M_sums M_groups M_at M_told M_toldMany)) [0, 1, 2, 3, 4, 5, 6, 7, 8, 9, 10, 11] rfl
      have hD9 := hD.sub (ws' := (wX11 Y a M_g M_kept M_saved M_before M_isSaved M_changes M_isWithin w2 M_input M_length M_fault M_failed M_signs M_signMany M_column M_loads M_many M_sums M_groups M_at M_told M_toldMany)) [0, 1, 2, 3, 4, 5, 6, 7, 8, 9, 10, 11] (by decide) rfl
      exact W.zret (v := 0) (ty := .boolean) hx hb hr rfl (fun t ht hW => ⟨⟨0, (), rfl, rfl, by rw [ht]; exact hP9, va_K.moved hW.alike hK, hD9⟩, hS.F ht⟩) hS.2.2 dX11_isInjured_22
    · have hf := wk_f hf q7
      refine lv_iconst (v := 1) hx hb dX11_isInjured_17 (by decide) ?_
      refine lv_goto (tgt := 22) hx hb dX11_isInjured_18 (by decide) ?_
      obtain ⟨e0, e1⟩ := wke2 hf
      subst e0
      subst e1
      have hP9 := hP.sub (ws' := (wX11 Y a M_g M_kept M_saved M_before M_isSaved M_changes M_isWithin w2 M_input M_length M_fault M_failed M_signs M_signMany M_column M_loads M_many M_sums M_groups M_at M_told M_toldMany)) [0, 1, 2, 3, 4, 5, 6, 7, 8, 9, 10, 11] rfl
      have hD9 := hD.sub (ws' := (wX11 Y a M_g M_kept M_saved M_before M_isSaved M_changes M_isWithin w2 M_input M_length M_fault M_failed M_signs M_signMany M_column M_loads M_many M_sums M_groups M_at M_told M_toldMany)) [0, 1, 2, 3, 4, 5, 6, 7, 8, 9, 10, 11] (by decide) rfl
      exact W.zret (v := 1) (ty := .boolean) hx hb hr rfl (fun t ht hW => ⟨⟨1, (), rfl, rfl, by rw [ht]; exact hP9, va_K.moved hW.alike hK, hD9⟩, hS.F ht⟩) hS.2.2 dX11_isInjured_22
def f_X11_nightsUntilFit (M_g : Nat → Int32) (M_code : Int32) (x1 : Int32) : Option (Int32 × Int32) :=
  wkb2 (f_X11_isNone M_g M_code x1) (fun r1 w2 =>
  if r1 = 0 then
    (wkb1 (f_X11_of M_g x1 4) (fun r5 =>
    some (r5, w2)))
  else
    (some (0, w2)))
set_option maxHeartbeats 4000000 in
set_option maxRecDepth 100000 in
theorem c_X11_nightsUntilFit (l : Launch) (dC : Nat → ClassId) (dI : Nat → Nat → Nat) (Y : Nat → ClassId) (a : Nat → Nat) (M_g : Nat → Int32) (M_kept : Nat → Int32) (M_saved : Nat → Int32) (M_before : Nat → Int32) (M_isSaved : Int32) (M_changes : Int32) (M_isWithin : Int32) (M_code : Int32) (M_input : Nat → Int32) (M_length : Int32) (M_fault : Int32) (M_failed : Int32) (M_signs : Nat → Int32) (M_signMany : Int32) (M_column : Nat → Int32) (M_loads : Nat → Int32) (M_many : Int32) (M_sums : Nat → Int32) (M_groups : Nat → Int32) (M_at : Int32) (M_told : Nat → Int32) (M_toldMany : Int32) (x1 : Int32) (sz : Nat) (r : Int32) (zM_code : Int32) (hf : f_X11_nightsUntilFit M_g M_code x1 = some (r, zM_code)) : Met l yX11_nightsUntilFit wsX11_nightsUntilFit ({ frames := 3, cells := 0, slots := 0, locals := 64 } : Room) (va_Pc [.ref (a 0), .int x1] (wk_E (dC, dI) Y (wX11 Y a M_g M_kept M_saved M_before M_isSaved M_changes M_isWithin M_code M_input M_length M_fault M_failed M_signs M_signMany M_column M_loads M_many M_sums M_groups M_at M_told M_toldMany) sz)) (va_Qi (fun r2 (_ : Unit) => r2 = r) (fun _ t => wk_X (dC, dI) Y (wX11 Y a M_g M_kept M_saved M_before M_isSaved M_changes M_isWithin zM_code M_input M_length M_fault M_failed M_signs M_signMany M_column M_loads M_many M_sums M_groups M_at M_told M_toldMany) (va_A (wX11 Y a M_g M_kept M_saved M_before M_isSaved M_changes M_isWithin M_code M_input M_length M_fault M_failed M_signs M_signMany M_column M_loads M_many M_sums M_groups M_at M_told M_toldMany) sz) t) (va_A (wX11 Y a M_g M_kept M_saved M_before M_isSaved M_changes M_isWithin M_code M_input M_length M_fault M_failed M_signs M_signMany M_column M_loads M_many M_sums M_groups M_at M_told M_toldMany) sz)) 0 0 (va_A (wX11 Y a M_g M_kept M_saved M_before M_isSaved M_changes M_isWithin M_code M_input M_length M_fault M_failed M_signs M_signMany M_column M_loads M_many M_sums M_groups M_at M_told M_toldMany) sz) := by
  refine Met.ofW (cc := cX11_nightsUntilFit) (maxL := 2) (ret := (some .int)) (by decide) rfl ?_
  intro p e s m args below meth c s₁ B hml hv
  obtain ⟨rfl, hsz, hP, hK, hD0⟩ := hv
  have hx := B.exec
  have hb := B.bytes
  have hr := B.returns
  have hts := atoms_spec (ws := wsX11_nightsUntilFit) B.pre
  have hown : s.vm.findClass RX11 = some m.cls := findClass_of_methodNamed B.named
  have hlocks := B.notSynchronized
  have C0 : wk_C p s m _ meth c cX11_nightsUntilFit 2 (some .int) wsX11_nightsUntilFit RX11 := ⟨hx, hb, hml, hr, hlocks, hown, hts⟩
  subst hsz
  have hD := hD0.self (sz := s.heap.size)
  generalize hAe : va_A (wX11 Y a M_g M_kept M_saved M_before M_isSaved M_changes M_isWithin M_code M_input M_length M_fault M_failed M_signs M_signMany M_column M_loads M_many M_sums M_groups M_at M_told M_toldMany) s.heap.size = A at hD ⊢
  have hA : ∀ q : Nat, s.heap.size ≤ q → A q := fun q h => by rw [← hAe]; exact Or.inr h
  have hS : va_S A s.heap s.heap [] := va_S.rf
  obtain ⟨H, hHe⟩ : ∃ H, H = s.heap := ⟨_, rfl⟩
  have hS : va_S A s.heap H [] := by rw [hHe]; exact hS
  have hP : va_P (dC, dI) vwCl [(a 0, .inr (11, [.ref (a 1), .ref (a 2), .ref (a 3), .ref (a 4), .int M_isSaved, .int M_changes, .int M_isWithin, .int M_code, .ref (a 5), .int M_length, .int M_fault, .int M_failed, .ref (a 6), .int M_signMany, .ref (a 7), .ref (a 8), .int M_many, .ref (a 9), .ref (a 10), .int M_at, .ref (a 11), .int M_toldMany])), (a 1, .inl (Y 0, 238, .inl M_g)), (a 2, .inl (Y 0, 1904, .inl M_kept)), (a 3, .inl (Y 0, 238, .inl M_saved)), (a 4, .inl (Y 0, 238, .inl M_before)), (a 5, .inl (Y 0, 60, .inl M_input)), (a 6, .inl (Y 2, 100, .inl M_signs)), (a 7, .inl (Y 0, 6, .inl M_column)), (a 8, .inl (Y 0, 6, .inl M_loads)), (a 9, .inl (Y 0, 2048, .inl M_sums)), (a 10, .inl (Y 0, 2048, .inl M_groups)), (a 11, .inl (Y 0, 155, .inl M_told))] H := by rw [hHe]; exact hP
  have hD : va_D A [(a 0, .inr (11, [.ref (a 1), .ref (a 2), .ref (a 3), .ref (a 4), .int M_isSaved, .int M_changes, .int M_isWithin, .int M_code, .ref (a 5), .int M_length, .int M_fault, .int M_failed, .ref (a 6), .int M_signMany, .ref (a 7), .ref (a 8), .int M_many, .ref (a 9), .ref (a 10), .int M_at, .ref (a 11), .int M_toldMany])), (a 1, .inl (Y 0, 238, .inl M_g)), (a 2, .inl (Y 0, 1904, .inl M_kept)), (a 3, .inl (Y 0, 238, .inl M_saved)), (a 4, .inl (Y 0, 238, .inl M_before)), (a 5, .inl (Y 0, 60, .inl M_input)), (a 6, .inl (Y 2, 100, .inl M_signs)), (a 7, .inl (Y 0, 6, .inl M_column)), (a 8, .inl (Y 0, 6, .inl M_loads)), (a 9, .inl (Y 0, 2048, .inl M_sums)), (a 10, .inl (Y 0, 2048, .inl M_groups)), (a 11, .inl (Y 0, 155, .inl M_told))] := hD
  obtain ⟨locs, hlo⟩ : ∃ locs : List Loc, locs = [] := ⟨_, rfl⟩
  have hS : va_S A s.heap H locs := by rw [hlo]; exact hS
  have hl := lv_entry ([.ref (a 0), .int x1]) (n := 2) (Nat.le_of_ble_eq_true rfl)
  rw [lg_entry_eq]
  generalize (lg_sl ([.ref (a 0), .int x1]) ++ List.replicate (2 - (lg_sl ([.ref (a 0), .int x1])).length) Slot.unset).toArray = ls at hl ⊢
  have hl : lv_has ls 2 [(0, .ref (a 0)), (1, .int x1)] := hl
  refine wk_start hHe hlo ?_
  rw [f_X11_nightsUntilFit] at hf
  refine lv_aload_n hx hb dX11_nightsUntilFit_0 rfl (lv_at hl 0 rfl) ?_
  refine lv_iload_n hx hb dX11_nightsUntilFit_1 rfl (lv_at hl 1 rfl) ?_
  obtain ⟨r1, w2, hr3, hf⟩ := wkb2_s hf
  refine wk_evi (As := [.int x1]) (rest := []) (wc := (wX11 Y a M_g M_kept M_saved M_before M_isSaved M_changes M_isWithin M_code M_input M_length M_fault M_failed M_signs M_signMany M_column M_loads M_many M_sums M_groups M_at M_told M_toldMany)) (w1 := (wX11 Y a M_g M_kept M_saved M_before M_isSaved M_changes M_isWithin w2 M_input M_length M_fault M_failed M_signs M_signMany M_column M_loads M_many M_sums M_groups M_at M_told M_toldMany)) (wr := []) ⟨hx, hb, hml, hown, hts⟩ (c_X11_isNone l dC dI Y a M_g M_kept M_saved M_before M_isSaved M_changes M_isWithin M_code M_input M_length M_fault M_failed M_signs M_signMany M_column M_loads M_many M_sums M_groups M_at M_told M_toldMany x1 H.size r1 w2 hr3) (cwV 1 hts gX11_nightsUntilFit_X11_isNone rfl rfl rfl (by decide +kernel) ⟨Nat.le_of_ble_eq_true rfl, Nat.le_of_ble_eq_true rfl⟩) hK hP hD hS hA [0, 1, 2, 3, 4, 5, 6, 7, 8, 9, 10, 11] [] rfl rfl (by decide) (by decide) (by decide) (va_recv hK hP (ci := 11) (q0 := 0) rfl rfl) rfl hl.1 rfl (Nat.le_of_ble_eq_true rfl) dX11_nightsUntilFit_2 ⟨Nat.le_of_ble_eq_true rfl, Nat.le_of_ble_eq_true rfl⟩ (fun H locs hP hD hS => ?_)
  have hP : va_P (dC, dI) vwCl [(a 0, .inr (11, [.ref (a 1), .ref (a 2), .ref (a 3), .ref (a 4), .int M_isSaved, .int M_changes, .int M_isWithin, .int w2, .ref (a 5), .int M_length, .int M_fault, .int M_failed, .ref (a 6), .int M_signMany, .ref (a 7), .ref (a 8), .int M_many, .ref (a 9), .ref (a 10), .int M_at, .ref (a 11), .int M_toldMany])), (a 1, .inl (Y 0, 238, .inl M_g)), (a 2, .inl (Y 0, 1904, .inl M_kept)), (a 3, .inl (Y 0, 238, .inl M_saved)), (a 4, .inl (Y 0, 238, .inl M_before)), (a 5, .inl (Y 0, 60, .inl M_input)), (a 6, .inl (Y 2, 100, .inl M_signs)), (a 7, .inl (Y 0, 6, .inl M_column)), (a 8, .inl (Y 0, 6, .inl M_loads)), (a 9, .inl (Y 0, 2048, .inl M_sums)), (a 10, .inl (Y 0, 2048, .inl M_groups)), (a 11, .inl (Y 0, 155, .inl M_told))] H := hP
  have hD : va_D A [(a 0, .inr (11, [.ref (a 1), .ref (a 2), .ref (a 3), .ref (a 4), .int M_isSaved, .int M_changes, .int M_isWithin, .int w2, .ref (a 5), .int M_length, .int M_fault, .int M_failed, .ref (a 6), .int M_signMany, .ref (a 7), .ref (a 8), .int M_many, .ref (a 9), .ref (a 10), .int M_at, .ref (a 11), .int M_toldMany])), (a 1, .inl (Y 0, 238, .inl M_g)), (a 2, .inl (Y 0, 1904, .inl M_kept)), (a 3, .inl (Y 0, 238, .inl M_saved)), (a 4, .inl (Y 0, 238, .inl M_before)), (a 5, .inl (Y 0, 60, .inl M_input)), (a 6, .inl (Y 2, 100, .inl M_signs)), (a 7, .inl (Y 0, 6, .inl M_column)), (a 8, .inl (Y 0, 6, .inl M_loads)), (a 9, .inl (Y 0, 2048, .inl M_sums)), (a 10, .inl (Y 0, 2048, .inl M_groups)), (a 11, .inl (Y 0, 155, .inl M_told))] := hD
  refine lv_if_eq (tgt := 12) hx hb dX11_nightsUntilFit_5 (by decide) (fun q4 => ?_) (fun q4 => ?_)
  · have hf := wk_t hf q4
    refine lv_aload_n hx hb dX11_nightsUntilFit_12 rfl (lv_at hl 0 rfl) ?_
    refine lv_iload_n hx hb dX11_nightsUntilFit_13 rfl (lv_at hl 1 rfl) ?_
    refine lv_iconst (v := 4) hx hb dX11_nightsUntilFit_14 (by decide) ?_
    obtain ⟨r5, hr6, hf⟩ := wkb1_s hf
    have hPc := hP.sub (ws' := (wX11 Y a M_g M_kept M_saved M_before M_isSaved M_changes M_isWithin w2 M_input M_length M_fault M_failed M_signs M_signMany M_column M_loads M_many M_sums M_groups M_at M_told M_toldMany)) [0, 1, 2, 3, 4, 5, 6, 7, 8, 9, 10, 11] rfl
    refine wk_vi (As := [.int x1, .int 4]) (rest := []) ⟨hx, hb, hml, hown, hts⟩ (c_X11_of l dC dI Y a M_g M_kept M_saved M_before M_isSaved M_changes M_isWithin w2 M_input M_length M_fault M_failed M_signs M_signMany M_column M_loads M_many M_sums M_groups M_at M_told M_toldMany x1 4 r5 hr6) (cwV 2 hts gX11_nightsUntilFit_X11_of rfl rfl rfl (by decide +kernel) ⟨Nat.le_of_ble_eq_true rfl, Nat.le_of_ble_eq_true rfl⟩) hK hPc (va_recv hK hP (ci := 11) (q0 := 0) rfl rfl) rfl hl.1 rfl (Nat.le_of_ble_eq_true rfl) dX11_nightsUntilFit_15 ⟨Nat.le_of_ble_eq_true rfl, Nat.le_of_ble_eq_true rfl⟩ ?_
    obtain ⟨e0, e1⟩ := wke2 hf
    subst e0
    subst e1
    have hP9 := hP.sub (ws' := (wX11 Y a M_g M_kept M_saved M_before M_isSaved M_changes M_isWithin w2 M_input M_length M_fault M_failed M_signs M_signMany M_column M_loads M_many M_sums M_groups M_at M_told M_toldMany)) [0, 1, 2, 3, 4, 5, 6, 7, 8, 9, 10, 11] rfl
    have hD9 := hD.sub (ws' := (wX11 Y a M_g M_kept M_saved M_before M_isSaved M_changes M_isWithin w2 M_input M_length M_fault M_failed M_signs M_signMany M_column M_loads M_many M_sums M_groups M_at M_told M_toldMany)) [0, 1, 2, 3, 4, 5, 6, 7, 8, 9, 10, 11] (by decide) rfl
    exact W.iret (v := r5) hx hb hr (fun t ht hW => ⟨⟨r5, (), rfl, rfl, by rw [ht]; exact hP9, va_K.moved hW.alike hK, hD9⟩, hS.F ht⟩) hS.2.2 dX11_nightsUntilFit_18
  · have hf := wk_f hf q4
    refine lv_iconst (v := 0) hx hb dX11_nightsUntilFit_8 (by decide) ?_
    refine lv_goto (tgt := 18) hx hb dX11_nightsUntilFit_9 (by decide) ?_
    obtain ⟨e0, e1⟩ := wke2 hf
    subst e0
    subst e1
    have hP9 := hP.sub (ws' := (wX11 Y a M_g M_kept M_saved M_before M_isSaved M_changes M_isWithin w2 M_input M_length M_fault M_failed M_signs M_signMany M_column M_loads M_many M_sums M_groups M_at M_told M_toldMany)) [0, 1, 2, 3, 4, 5, 6, 7, 8, 9, 10, 11] rfl
    have hD9 := hD.sub (ws' := (wX11 Y a M_g M_kept M_saved M_before M_isSaved M_changes M_isWithin w2 M_input M_length M_fault M_failed M_signs M_signMany M_column M_loads M_many M_sums M_groups M_at M_told M_toldMany)) [0, 1, 2, 3, 4, 5, 6, 7, 8, 9, 10, 11] (by decide) rfl
    exact W.iret (v := 0) hx hb hr (fun t ht hW => ⟨⟨0, (), rfl, rfl, by rw [ht]; exact hP9, va_K.moved hW.alike hK, hD9⟩, hS.F ht⟩) hS.2.2 dX11_nightsUntilFit_18
def f_X11_canStand (M_g : Nat → Int32) (M_code : Int32) (M_column : Nat → Int32) (M_loads : Nat → Int32) (M_many : Int32) (x1 : Int32) : Option (Int32 × Int32 × (Nat → Int32) × (Nat → Int32) × Int32) :=
  wkb5 (f_X11_isWrong M_g M_code M_column M_loads M_many x1) (fun r1 w2 w3 w4 w5 =>
  if r1 = 0 then
    (wkb1 (f_X11_breaks M_g w3 w4 w5) (fun r8 =>
    if (0 : Int32) ≤ r8 then
      (some (0, w2, w3, w4, w5))
    else
      (some (1, w2, w3, w4, w5))))
  else
    (some (0, w2, w3, w4, w5)))
set_option maxHeartbeats 4000000 in
set_option maxRecDepth 100000 in
theorem c_X11_canStand (l : Launch) (dC : Nat → ClassId) (dI : Nat → Nat → Nat) (Y : Nat → ClassId) (a : Nat → Nat) (M_g : Nat → Int32) (M_kept : Nat → Int32) (M_saved : Nat → Int32) (M_before : Nat → Int32) (M_isSaved : Int32) (M_changes : Int32) (M_isWithin : Int32) (M_code : Int32) (M_input : Nat → Int32) (M_length : Int32) (M_fault : Int32) (M_failed : Int32) (M_signs : Nat → Int32) (M_signMany : Int32) (M_column : Nat → Int32) (M_loads : Nat → Int32) (M_many : Int32) (M_sums : Nat → Int32) (M_groups : Nat → Int32) (M_at : Int32) (M_told : Nat → Int32) (M_toldMany : Int32) (x1 : Int32) (sz : Nat) (r : Int32) (zM_code : Int32) (zM_column : Nat → Int32) (zM_loads : Nat → Int32) (zM_many : Int32) (hf : f_X11_canStand M_g M_code M_column M_loads M_many x1 = some (r, zM_code, zM_column, zM_loads, zM_many)) : Met l yX11_canStand wsX11_canStand ({ frames := 4, cells := 0, slots := 0, locals := 89 } : Room) (va_Pc [.ref (a 0), .int x1] (wk_E (dC, dI) Y (wX11 Y a M_g M_kept M_saved M_before M_isSaved M_changes M_isWithin M_code M_input M_length M_fault M_failed M_signs M_signMany M_column M_loads M_many M_sums M_groups M_at M_told M_toldMany) sz)) (va_Qi (fun r2 (_ : Unit) => r2 = r) (fun _ t => wk_X (dC, dI) Y (wX11 Y a M_g M_kept M_saved M_before M_isSaved M_changes M_isWithin zM_code M_input M_length M_fault M_failed M_signs M_signMany zM_column zM_loads zM_many M_sums M_groups M_at M_told M_toldMany) (va_A (wX11 Y a M_g M_kept M_saved M_before M_isSaved M_changes M_isWithin M_code M_input M_length M_fault M_failed M_signs M_signMany M_column M_loads M_many M_sums M_groups M_at M_told M_toldMany) sz) t) (va_A (wX11 Y a M_g M_kept M_saved M_before M_isSaved M_changes M_isWithin M_code M_input M_length M_fault M_failed M_signs M_signMany M_column M_loads M_many M_sums M_groups M_at M_told M_toldMany) sz)) 0 0 (va_A (wX11 Y a M_g M_kept M_saved M_before M_isSaved M_changes M_isWithin M_code M_input M_length M_fault M_failed M_signs M_signMany M_column M_loads M_many M_sums M_groups M_at M_told M_toldMany) sz) := by
  refine Met.ofW (cc := cX11_canStand) (maxL := 2) (ret := (some .boolean)) (by decide) rfl ?_
  intro p e s m args below meth c s₁ B hml hv
  obtain ⟨rfl, hsz, hP, hK, hD0⟩ := hv
  have hx := B.exec
  have hb := B.bytes
  have hr := B.returns
  have hts := atoms_spec (ws := wsX11_canStand) B.pre
  have hown : s.vm.findClass RX11 = some m.cls := findClass_of_methodNamed B.named
  have hlocks := B.notSynchronized
  have C0 : wk_C p s m _ meth c cX11_canStand 2 (some .boolean) wsX11_canStand RX11 := ⟨hx, hb, hml, hr, hlocks, hown, hts⟩
  subst hsz
  have hD := hD0.self (sz := s.heap.size)
  generalize hAe : va_A (wX11 Y a M_g M_kept M_saved M_before M_isSaved M_changes M_isWithin M_code M_input M_length M_fault M_failed M_signs M_signMany M_column M_loads M_many M_sums M_groups M_at M_told M_toldMany) s.heap.size = A at hD ⊢
  have hA : ∀ q : Nat, s.heap.size ≤ q → A q := fun q h => by rw [← hAe]; exact Or.inr h
  have hS : va_S A s.heap s.heap [] := va_S.rf
  obtain ⟨H, hHe⟩ : ∃ H, H = s.heap := ⟨_, rfl⟩
  have hS : va_S A s.heap H [] := by rw [hHe]; exact hS
  have hP : va_P (dC, dI) vwCl [(a 0, .inr (11, [.ref (a 1), .ref (a 2), .ref (a 3), .ref (a 4), .int M_isSaved, .int M_changes, .int M_isWithin, .int M_code, .ref (a 5), .int M_length, .int M_fault, .int M_failed, .ref (a 6), .int M_signMany, .ref (a 7), .ref (a 8), .int M_many, .ref (a 9), .ref (a 10), .int M_at, .ref (a 11), .int M_toldMany])), (a 1, .inl (Y 0, 238, .inl M_g)), (a 2, .inl (Y 0, 1904, .inl M_kept)), (a 3, .inl (Y 0, 238, .inl M_saved)), (a 4, .inl (Y 0, 238, .inl M_before)), (a 5, .inl (Y 0, 60, .inl M_input)), (a 6, .inl (Y 2, 100, .inl M_signs)), (a 7, .inl (Y 0, 6, .inl M_column)), (a 8, .inl (Y 0, 6, .inl M_loads)), (a 9, .inl (Y 0, 2048, .inl M_sums)), (a 10, .inl (Y 0, 2048, .inl M_groups)), (a 11, .inl (Y 0, 155, .inl M_told))] H := by rw [hHe]; exact hP
  have hD : va_D A [(a 0, .inr (11, [.ref (a 1), .ref (a 2), .ref (a 3), .ref (a 4), .int M_isSaved, .int M_changes, .int M_isWithin, .int M_code, .ref (a 5), .int M_length, .int M_fault, .int M_failed, .ref (a 6), .int M_signMany, .ref (a 7), .ref (a 8), .int M_many, .ref (a 9), .ref (a 10), .int M_at, .ref (a 11), .int M_toldMany])), (a 1, .inl (Y 0, 238, .inl M_g)), (a 2, .inl (Y 0, 1904, .inl M_kept)), (a 3, .inl (Y 0, 238, .inl M_saved)), (a 4, .inl (Y 0, 238, .inl M_before)), (a 5, .inl (Y 0, 60, .inl M_input)), (a 6, .inl (Y 2, 100, .inl M_signs)), (a 7, .inl (Y 0, 6, .inl M_column)), (a 8, .inl (Y 0, 6, .inl M_loads)), (a 9, .inl (Y 0, 2048, .inl M_sums)), (a 10, .inl (Y 0, 2048, .inl M_groups)), (a 11, .inl (Y 0, 155, .inl M_told))] := hD
  obtain ⟨locs, hlo⟩ : ∃ locs : List Loc, locs = [] := ⟨_, rfl⟩
  have hS : va_S A s.heap H locs := by rw [hlo]; exact hS
  have hl := lv_entry ([.ref (a 0), .int x1]) (n := 2) (Nat.le_of_ble_eq_true rfl)
  rw [lg_entry_eq]
  generalize (lg_sl ([.ref (a 0), .int x1]) ++ List.replicate (2 - (lg_sl ([.ref (a 0), .int x1])).length) Slot.unset).toArray = ls at hl ⊢
  have hl : lv_has ls 2 [(0, .ref (a 0)), (1, .int x1)] := hl
  refine wk_start hHe hlo ?_
  rw [f_X11_canStand] at hf
  refine lv_aload_n hx hb dX11_canStand_0 rfl (lv_at hl 0 rfl) ?_
  refine lv_iload_n hx hb dX11_canStand_1 rfl (lv_at hl 1 rfl) ?_
  obtain ⟨r1, w2, w3, w4, w5, hr6, hf⟩ := wkb5_s hf
  refine wk_evi (As := [.int x1]) (rest := []) (wc := (wX11 Y a M_g M_kept M_saved M_before M_isSaved M_changes M_isWithin M_code M_input M_length M_fault M_failed M_signs M_signMany M_column M_loads M_many M_sums M_groups M_at M_told M_toldMany)) (w1 := (wX11 Y a M_g M_kept M_saved M_before M_isSaved M_changes M_isWithin w2 M_input M_length M_fault M_failed M_signs M_signMany w3 w4 w5 M_sums M_groups M_at M_told M_toldMany)) (wr := []) ⟨hx, hb, hml, hown, hts⟩ (c_X11_isWrong l dC dI Y a M_g M_kept M_saved M_before M_isSaved M_changes M_isWithin M_code M_input M_length M_fault M_failed M_signs M_signMany M_column M_loads M_many M_sums M_groups M_at M_told M_toldMany x1 H.size r1 w2 w3 w4 w5 hr6) (cwV 1 hts gX11_canStand_X11_isWrong rfl rfl rfl (by decide +kernel) ⟨Nat.le_of_ble_eq_true rfl, Nat.le_of_ble_eq_true rfl⟩) hK hP hD hS hA [0, 1, 2, 3, 4, 5, 6, 7, 8, 9, 10, 11] [] rfl rfl (by decide) (by decide) (by decide) (va_recv hK hP (ci := 11) (q0 := 0) rfl rfl) rfl hl.1 rfl (Nat.le_of_ble_eq_true rfl) dX11_canStand_2 ⟨Nat.le_of_ble_eq_true rfl, Nat.le_of_ble_eq_true rfl⟩ (fun H locs hP hD hS => ?_)
  have hP : va_P (dC, dI) vwCl [(a 0, .inr (11, [.ref (a 1), .ref (a 2), .ref (a 3), .ref (a 4), .int M_isSaved, .int M_changes, .int M_isWithin, .int w2, .ref (a 5), .int M_length, .int M_fault, .int M_failed, .ref (a 6), .int M_signMany, .ref (a 7), .ref (a 8), .int w5, .ref (a 9), .ref (a 10), .int M_at, .ref (a 11), .int M_toldMany])), (a 1, .inl (Y 0, 238, .inl M_g)), (a 2, .inl (Y 0, 1904, .inl M_kept)), (a 3, .inl (Y 0, 238, .inl M_saved)), (a 4, .inl (Y 0, 238, .inl M_before)), (a 5, .inl (Y 0, 60, .inl M_input)), (a 6, .inl (Y 2, 100, .inl M_signs)), (a 7, .inl (Y 0, 6, .inl w3)), (a 8, .inl (Y 0, 6, .inl w4)), (a 9, .inl (Y 0, 2048, .inl M_sums)), (a 10, .inl (Y 0, 2048, .inl M_groups)), (a 11, .inl (Y 0, 155, .inl M_told))] H := hP
  have hD : va_D A [(a 0, .inr (11, [.ref (a 1), .ref (a 2), .ref (a 3), .ref (a 4), .int M_isSaved, .int M_changes, .int M_isWithin, .int w2, .ref (a 5), .int M_length, .int M_fault, .int M_failed, .ref (a 6), .int M_signMany, .ref (a 7), .ref (a 8), .int w5, .ref (a 9), .ref (a 10), .int M_at, .ref (a 11), .int M_toldMany])), (a 1, .inl (Y 0, 238, .inl M_g)), (a 2, .inl (Y 0, 1904, .inl M_kept)), (a 3, .inl (Y 0, 238, .inl M_saved)), (a 4, .inl (Y 0, 238, .inl M_before)), (a 5, .inl (Y 0, 60, .inl M_input)), (a 6, .inl (Y 2, 100, .inl M_signs)), (a 7, .inl (Y 0, 6, .inl w3)), (a 8, .inl (Y 0, 6, .inl w4)), (a 9, .inl (Y 0, 2048, .inl M_sums)), (a 10, .inl (Y 0, 2048, .inl M_groups)), (a 11, .inl (Y 0, 155, .inl M_told))] := hD
  refine lv_if_ne (tgt := 19) hx hb dX11_canStand_5 (by decide) (fun q7 => ?_) (fun q7 => ?_)
  · have hf := wk_f hf q7
    refine lv_iconst (v := 0) hx hb dX11_canStand_19 (by decide) ?_
    obtain ⟨e0, e1, e2, e3, e4⟩ := wke5 hf
    subst e0
    subst e1
    subst e2
    subst e3
    subst e4
    have hP9 := hP.sub (ws' := (wX11 Y a M_g M_kept M_saved M_before M_isSaved M_changes M_isWithin w2 M_input M_length M_fault M_failed M_signs M_signMany w3 w4 w5 M_sums M_groups M_at M_told M_toldMany)) [0, 1, 2, 3, 4, 5, 6, 7, 8, 9, 10, 11] rfl
    have hD9 := hD.sub (ws' := (wX11 Y a M_g M_kept M_saved M_before M_isSaved M_changes M_isWithin w2 M_input M_length M_fault M_failed M_signs M_signMany w3 w4 w5 M_sums M_groups M_at M_told M_toldMany)) [0, 1, 2, 3, 4, 5, 6, 7, 8, 9, 10, 11] (by decide) rfl
    exact W.zret (v := 0) (ty := .boolean) hx hb hr rfl (fun t ht hW => ⟨⟨0, (), rfl, rfl, by rw [ht]; exact hP9, va_K.moved hW.alike hK, hD9⟩, hS.F ht⟩) hS.2.2 dX11_canStand_20
  · have hf := wk_t hf q7
    refine lv_aload_n hx hb dX11_canStand_8 rfl (lv_at hl 0 rfl) ?_
    obtain ⟨r8, hr9, hf⟩ := wkb1_s hf
    have hPc := hP.sub (ws' := (wX11 Y a M_g M_kept M_saved M_before M_isSaved M_changes M_isWithin w2 M_input M_length M_fault M_failed M_signs M_signMany w3 w4 w5 M_sums M_groups M_at M_told M_toldMany)) [0, 1, 2, 3, 4, 5, 6, 7, 8, 9, 10, 11] rfl
    refine wk_vi (As := []) (rest := []) ⟨hx, hb, hml, hown, hts⟩ (c_X11_breaks l dC dI Y a M_g M_kept M_saved M_before M_isSaved M_changes M_isWithin w2 M_input M_length M_fault M_failed M_signs M_signMany w3 w4 w5 M_sums M_groups M_at M_told M_toldMany r8 hr9) (cwV 0 hts gX11_canStand_X11_breaks rfl rfl rfl (by decide +kernel) ⟨Nat.le_of_ble_eq_true rfl, Nat.le_of_ble_eq_true rfl⟩) hK hPc (va_recv hK hP (ci := 11) (q0 := 0) rfl rfl) rfl hl.1 rfl (Nat.le_of_ble_eq_true rfl) dX11_canStand_9 ⟨Nat.le_of_ble_eq_true rfl, Nat.le_of_ble_eq_true rfl⟩ ?_
    refine lv_if_ge (tgt := 19) hx hb dX11_canStand_12 (by decide) (fun q10 => ?_) (fun q10 => ?_)
    · have hf := wk_t hf q10
      refine lv_iconst (v := 0) hx hb dX11_canStand_19 (by decide) ?_
      obtain ⟨e0, e1, e2, e3, e4⟩ := wke5 hf
      subst e0
      subst e1
      subst e2
      subst e3
      subst e4
      have hP9 := hP.sub (ws' := (wX11 Y a M_g M_kept M_saved M_before M_isSaved M_changes M_isWithin w2 M_input M_length M_fault M_failed M_signs M_signMany w3 w4 w5 M_sums M_groups M_at M_told M_toldMany)) [0, 1, 2, 3, 4, 5, 6, 7, 8, 9, 10, 11] rfl
      have hD9 := hD.sub (ws' := (wX11 Y a M_g M_kept M_saved M_before M_isSaved M_changes M_isWithin w2 M_input M_length M_fault M_failed M_signs M_signMany w3 w4 w5 M_sums M_groups M_at M_told M_toldMany)) [0, 1, 2, 3, 4, 5, 6, 7, 8, 9, 10, 11] (by decide) rfl
      exact W.zret (v := 0) (ty := .boolean) hx hb hr rfl (fun t ht hW => ⟨⟨0, (), rfl, rfl, by rw [ht]; exact hP9, va_K.moved hW.alike hK, hD9⟩, hS.F ht⟩) hS.2.2 dX11_canStand_20
    · have hf := wk_f hf q10
      refine lv_iconst (v := 1) hx hb dX11_canStand_15 (by decide) ?_
      refine lv_goto (tgt := 20) hx hb dX11_canStand_16 (by decide) ?_
      obtain ⟨e0, e1, e2, e3, e4⟩ := wke5 hf
      subst e0
      subst e1
      subst e2
      subst e3
      subst e4
      have hP9 := hP.sub (ws' := (wX11 Y a M_g M_kept M_saved M_before M_isSaved M_changes M_isWithin w2 M_input M_length M_fault M_failed M_signs M_signMany w3 w4 w5 M_sums M_groups M_at M_told M_toldMany)) [0, 1, 2, 3, 4, 5, 6, 7, 8, 9, 10, 11] rfl
      have hD9 := hD.sub (ws' := (wX11 Y a M_g M_kept M_saved M_before M_isSaved M_changes M_isWithin w2 M_input M_length M_fault M_failed M_signs M_signMany w3 w4 w5 M_sums M_groups M_at M_told M_toldMany)) [0, 1, 2, 3, 4, 5, 6, 7, 8, 9, 10, 11] (by decide) rfl
      exact W.zret (v := 1) (ty := .boolean) hx hb hr rfl (fun t ht hW => ⟨⟨1, (), rfl, rfl, by rw [ht]; exact hP9, va_K.moved hW.alike hK, hD9⟩, hS.F ht⟩) hS.2.2 dX11_canStand_20
theorem lk_X11_acrobatAt_RX11_36 : Cond.fieldLink RX11 36 "CircusLedgerModel" "column" "[I" ∈ wsX11_acrobatAt := by decide +kernel
theorem lk_X11_acrobatAt_RX11_95 : Cond.fieldLink RX11 95 "CircusLedgerModel" "many" "I" ∈ wsX11_acrobatAt := by decide +kernel
theorem in_X11_acrobatAt_X11 : ∀ w ∈ u_ws RX11 TX11 22, w ∈ wsX11_acrobatAt := by decide +kernel
def f_X11_acrobatAt (M_g : Nat → Int32) (M_code : Int32) (M_column : Nat → Int32) (M_loads : Nat → Int32) (M_many : Int32) (x1 : Int32) (x2 : Int32) : Option (Int32 × Int32 × (Nat → Int32) × (Nat → Int32) × Int32) :=
  wkb5 (f_X11_isWrong M_g M_code M_column M_loads M_many x1) (fun r1 w2 w3 w4 w5 =>
  if r1 = 0 then
    (wkb1 (f_X11_in x2 0 (w5 - 1)) (fun r8 =>
    if r8 = 0 then
      (wkb2 (f_X11_fails w2 2) (fun r11 w12 =>
      if r11 = 0 then
        (gin x2 6 (some ((w3 x2.toNatClampNeg), w12, w3, w4, w5)))
      else
        (some (0, w12, w3, w4, w5))))
    else
      (wkb2 (f_X11_fails w2 0) (fun r16 w17 =>
      if r16 = 0 then
        (gin x2 6 (some ((w3 x2.toNatClampNeg), w17, w3, w4, w5)))
      else
        (some (0, w17, w3, w4, w5))))))
  else
    (some (0, w2, w3, w4, w5)))
set_option maxHeartbeats 4000000 in
set_option maxRecDepth 100000 in
theorem c_X11_acrobatAt (l : Launch) (dC : Nat → ClassId) (dI : Nat → Nat → Nat) (Y : Nat → ClassId) (a : Nat → Nat) (M_g : Nat → Int32) (M_kept : Nat → Int32) (M_saved : Nat → Int32) (M_before : Nat → Int32) (M_isSaved : Int32) (M_changes : Int32) (M_isWithin : Int32) (M_code : Int32) (M_input : Nat → Int32) (M_length : Int32) (M_fault : Int32) (M_failed : Int32) (M_signs : Nat → Int32) (M_signMany : Int32) (M_column : Nat → Int32) (M_loads : Nat → Int32) (M_many : Int32) (M_sums : Nat → Int32) (M_groups : Nat → Int32) (M_at : Int32) (M_told : Nat → Int32) (M_toldMany : Int32) (x1 : Int32) (x2 : Int32) (sz : Nat) (r : Int32) (zM_code : Int32) (zM_column : Nat → Int32) (zM_loads : Nat → Int32) (zM_many : Int32) (hf : f_X11_acrobatAt M_g M_code M_column M_loads M_many x1 x2 = some (r, zM_code, zM_column, zM_loads, zM_many)) : Met l yX11_acrobatAt wsX11_acrobatAt ({ frames := 4, cells := 0, slots := 0, locals := 89 } : Room) (va_Pc [.ref (a 0), .int x1, .int x2] (wk_E (dC, dI) Y (wX11 Y a M_g M_kept M_saved M_before M_isSaved M_changes M_isWithin M_code M_input M_length M_fault M_failed M_signs M_signMany M_column M_loads M_many M_sums M_groups M_at M_told M_toldMany) sz)) (va_Qi (fun r2 (_ : Unit) => r2 = r) (fun _ t => wk_X (dC, dI) Y (wX11 Y a M_g M_kept M_saved M_before M_isSaved M_changes M_isWithin zM_code M_input M_length M_fault M_failed M_signs M_signMany zM_column zM_loads zM_many M_sums M_groups M_at M_told M_toldMany) (va_A (wX11 Y a M_g M_kept M_saved M_before M_isSaved M_changes M_isWithin M_code M_input M_length M_fault M_failed M_signs M_signMany M_column M_loads M_many M_sums M_groups M_at M_told M_toldMany) sz) t) (va_A (wX11 Y a M_g M_kept M_saved M_before M_isSaved M_changes M_isWithin M_code M_input M_length M_fault M_failed M_signs M_signMany M_column M_loads M_many M_sums M_groups M_at M_told M_toldMany) sz)) 0 0 (va_A (wX11 Y a M_g M_kept M_saved M_before M_isSaved M_changes M_isWithin M_code M_input M_length M_fault M_failed M_signs M_signMany M_column M_loads M_many M_sums M_groups M_at M_told M_toldMany) sz) := by
  refine Met.ofW (cc := cX11_acrobatAt) (maxL := 3) (ret := (some .int)) (by decide) rfl ?_
  intro p e s m args below meth c s₁ B hml hv
  obtain ⟨rfl, hsz, hP, hK, hD0⟩ := hv
  have hx := B.exec
  have hb := B.bytes
  have hr := B.returns
  have hts := atoms_spec (ws := wsX11_acrobatAt) B.pre
  have hown : s.vm.findClass RX11 = some m.cls := findClass_of_methodNamed B.named
  have hlocks := B.notSynchronized
  have C0 : wk_C p s m _ meth c cX11_acrobatAt 3 (some .int) wsX11_acrobatAt RX11 := ⟨hx, hb, hml, hr, hlocks, hown, hts⟩
  subst hsz
  have hD := hD0.self (sz := s.heap.size)
  generalize hAe : va_A (wX11 Y a M_g M_kept M_saved M_before M_isSaved M_changes M_isWithin M_code M_input M_length M_fault M_failed M_signs M_signMany M_column M_loads M_many M_sums M_groups M_at M_told M_toldMany) s.heap.size = A at hD ⊢
  have hA : ∀ q : Nat, s.heap.size ≤ q → A q := fun q h => by rw [← hAe]; exact Or.inr h
  have hS : va_S A s.heap s.heap [] := va_S.rf
  obtain ⟨H, hHe⟩ : ∃ H, H = s.heap := ⟨_, rfl⟩
  have hS : va_S A s.heap H [] := by rw [hHe]; exact hS
  have hP : va_P (dC, dI) vwCl [(a 0, .inr (11, [.ref (a 1), .ref (a 2), .ref (a 3), .ref (a 4), .int M_isSaved, .int M_changes, .int M_isWithin, .int M_code, .ref (a 5), .int M_length, .int M_fault, .int M_failed, .ref (a 6), .int M_signMany, .ref (a 7), .ref (a 8), .int M_many, .ref (a 9), .ref (a 10), .int M_at, .ref (a 11), .int M_toldMany])), (a 1, .inl (Y 0, 238, .inl M_g)), (a 2, .inl (Y 0, 1904, .inl M_kept)), (a 3, .inl (Y 0, 238, .inl M_saved)), (a 4, .inl (Y 0, 238, .inl M_before)), (a 5, .inl (Y 0, 60, .inl M_input)), (a 6, .inl (Y 2, 100, .inl M_signs)), (a 7, .inl (Y 0, 6, .inl M_column)), (a 8, .inl (Y 0, 6, .inl M_loads)), (a 9, .inl (Y 0, 2048, .inl M_sums)), (a 10, .inl (Y 0, 2048, .inl M_groups)), (a 11, .inl (Y 0, 155, .inl M_told))] H := by rw [hHe]; exact hP
  have hD : va_D A [(a 0, .inr (11, [.ref (a 1), .ref (a 2), .ref (a 3), .ref (a 4), .int M_isSaved, .int M_changes, .int M_isWithin, .int M_code, .ref (a 5), .int M_length, .int M_fault, .int M_failed, .ref (a 6), .int M_signMany, .ref (a 7), .ref (a 8), .int M_many, .ref (a 9), .ref (a 10), .int M_at, .ref (a 11), .int M_toldMany])), (a 1, .inl (Y 0, 238, .inl M_g)), (a 2, .inl (Y 0, 1904, .inl M_kept)), (a 3, .inl (Y 0, 238, .inl M_saved)), (a 4, .inl (Y 0, 238, .inl M_before)), (a 5, .inl (Y 0, 60, .inl M_input)), (a 6, .inl (Y 2, 100, .inl M_signs)), (a 7, .inl (Y 0, 6, .inl M_column)), (a 8, .inl (Y 0, 6, .inl M_loads)), (a 9, .inl (Y 0, 2048, .inl M_sums)), (a 10, .inl (Y 0, 2048, .inl M_groups)), (a 11, .inl (Y 0, 155, .inl M_told))] := hD
  obtain ⟨locs, hlo⟩ : ∃ locs : List Loc, locs = [] := ⟨_, rfl⟩
  have hS : va_S A s.heap H locs := by rw [hlo]; exact hS
  have hl := lv_entry ([.ref (a 0), .int x1, .int x2]) (n := 3) (Nat.le_of_ble_eq_true rfl)
  rw [lg_entry_eq]
  generalize (lg_sl ([.ref (a 0), .int x1, .int x2]) ++ List.replicate (3 - (lg_sl ([.ref (a 0), .int x1, .int x2])).length) Slot.unset).toArray = ls at hl ⊢
  have hl : lv_has ls 3 [(0, .ref (a 0)), (1, .int x1), (2, .int x2)] := hl
  refine wk_start hHe hlo ?_
  rw [f_X11_acrobatAt] at hf
  refine lv_aload_n hx hb dX11_acrobatAt_0 rfl (lv_at hl 0 rfl) ?_
  refine lv_iload_n hx hb dX11_acrobatAt_1 rfl (lv_at hl 1 rfl) ?_
  obtain ⟨r1, w2, w3, w4, w5, hr6, hf⟩ := wkb5_s hf
  refine wk_evi (As := [.int x1]) (rest := []) (wc := (wX11 Y a M_g M_kept M_saved M_before M_isSaved M_changes M_isWithin M_code M_input M_length M_fault M_failed M_signs M_signMany M_column M_loads M_many M_sums M_groups M_at M_told M_toldMany)) (w1 := (wX11 Y a M_g M_kept M_saved M_before M_isSaved M_changes M_isWithin w2 M_input M_length M_fault M_failed M_signs M_signMany w3 w4 w5 M_sums M_groups M_at M_told M_toldMany)) (wr := []) ⟨hx, hb, hml, hown, hts⟩ (c_X11_isWrong l dC dI Y a M_g M_kept M_saved M_before M_isSaved M_changes M_isWithin M_code M_input M_length M_fault M_failed M_signs M_signMany M_column M_loads M_many M_sums M_groups M_at M_told M_toldMany x1 H.size r1 w2 w3 w4 w5 hr6) (cwV 1 hts gX11_acrobatAt_X11_isWrong rfl rfl rfl (by decide +kernel) ⟨Nat.le_of_ble_eq_true rfl, Nat.le_of_ble_eq_true rfl⟩) hK hP hD hS hA [0, 1, 2, 3, 4, 5, 6, 7, 8, 9, 10, 11] [] rfl rfl (by decide) (by decide) (by decide) (va_recv hK hP (ci := 11) (q0 := 0) rfl rfl) rfl hl.1 rfl (Nat.le_of_ble_eq_true rfl) dX11_acrobatAt_2 ⟨Nat.le_of_ble_eq_true rfl, Nat.le_of_ble_eq_true rfl⟩ (fun H locs hP hD hS => ?_)
  have hP : va_P (dC, dI) vwCl [(a 0, .inr (11, [.ref (a 1), .ref (a 2), .ref (a 3), .ref (a 4), .int M_isSaved, .int M_changes, .int M_isWithin, .int w2, .ref (a 5), .int M_length, .int M_fault, .int M_failed, .ref (a 6), .int M_signMany, .ref (a 7), .ref (a 8), .int w5, .ref (a 9), .ref (a 10), .int M_at, .ref (a 11), .int M_toldMany])), (a 1, .inl (Y 0, 238, .inl M_g)), (a 2, .inl (Y 0, 1904, .inl M_kept)), (a 3, .inl (Y 0, 238, .inl M_saved)), (a 4, .inl (Y 0, 238, .inl M_before)), (a 5, .inl (Y 0, 60, .inl M_input)), (a 6, .inl (Y 2, 100, .inl M_signs)), (a 7, .inl (Y 0, 6, .inl w3)), (a 8, .inl (Y 0, 6, .inl w4)), (a 9, .inl (Y 0, 2048, .inl M_sums)), (a 10, .inl (Y 0, 2048, .inl M_groups)), (a 11, .inl (Y 0, 155, .inl M_told))] H := hP
  have hD : va_D A [(a 0, .inr (11, [.ref (a 1), .ref (a 2), .ref (a 3), .ref (a 4), .int M_isSaved, .int M_changes, .int M_isWithin, .int w2, .ref (a 5), .int M_length, .int M_fault, .int M_failed, .ref (a 6), .int M_signMany, .ref (a 7), .ref (a 8), .int w5, .ref (a 9), .ref (a 10), .int M_at, .ref (a 11), .int M_toldMany])), (a 1, .inl (Y 0, 238, .inl M_g)), (a 2, .inl (Y 0, 1904, .inl M_kept)), (a 3, .inl (Y 0, 238, .inl M_saved)), (a 4, .inl (Y 0, 238, .inl M_before)), (a 5, .inl (Y 0, 60, .inl M_input)), (a 6, .inl (Y 2, 100, .inl M_signs)), (a 7, .inl (Y 0, 6, .inl w3)), (a 8, .inl (Y 0, 6, .inl w4)), (a 9, .inl (Y 0, 2048, .inl M_sums)), (a 10, .inl (Y 0, 2048, .inl M_groups)), (a 11, .inl (Y 0, 155, .inl M_told))] := hD
  refine lv_if_ne (tgt := 34) hx hb dX11_acrobatAt_5 (by decide) (fun q7 => ?_) (fun q7 => ?_)
  · have hf := wk_f hf q7
    refine lv_iconst (v := 0) hx hb dX11_acrobatAt_34 (by decide) ?_
    refine lv_goto (tgt := 44) hx hb dX11_acrobatAt_35 (by decide) ?_
    obtain ⟨e0, e1, e2, e3, e4⟩ := wke5 hf
    subst e0
    subst e1
    subst e2
    subst e3
    subst e4
    have hP9 := hP.sub (ws' := (wX11 Y a M_g M_kept M_saved M_before M_isSaved M_changes M_isWithin w2 M_input M_length M_fault M_failed M_signs M_signMany w3 w4 w5 M_sums M_groups M_at M_told M_toldMany)) [0, 1, 2, 3, 4, 5, 6, 7, 8, 9, 10, 11] rfl
    have hD9 := hD.sub (ws' := (wX11 Y a M_g M_kept M_saved M_before M_isSaved M_changes M_isWithin w2 M_input M_length M_fault M_failed M_signs M_signMany w3 w4 w5 M_sums M_groups M_at M_told M_toldMany)) [0, 1, 2, 3, 4, 5, 6, 7, 8, 9, 10, 11] (by decide) rfl
    exact W.iret (v := 0) hx hb hr (fun t ht hW => ⟨⟨0, (), rfl, rfl, by rw [ht]; exact hP9, va_K.moved hW.alike hK, hD9⟩, hS.F ht⟩) hS.2.2 dX11_acrobatAt_44
  · have hf := wk_t hf q7
    refine lv_aload_n hx hb dX11_acrobatAt_8 rfl (lv_at hl 0 rfl) ?_
    refine lv_iload_n hx hb dX11_acrobatAt_9 rfl (lv_at hl 2 rfl) ?_
    refine lv_iconst (v := 0) hx hb dX11_acrobatAt_10 (by decide) ?_
    refine lv_aload_n hx hb dX11_acrobatAt_11 rfl (lv_at hl 0 rfl) ?_
    refine va_get (D := (dC, dI)) (ci := 11) (v := .int w5) (C := RX11) (T := TX11) (N := 22) hx hb hts in_X11_acrobatAt_X11 hown hK hP 0 rfl rfl 16 (by decide) (hts _ lk_X11_acrobatAt_RX11_95) (fun _ h9 => h9) rfl dX11_acrobatAt_12 ?_
    refine lv_iconst (v := 1) hx hb dX11_acrobatAt_15 (by decide) ?_
    refine lv_isub hx hb dX11_acrobatAt_16 ?_
    obtain ⟨r8, hr9, hf⟩ := wkb1_s hf
    have hPc := hP.sub (ws' := ([] : va_W)) [] rfl
    refine wk_si (As := [.int x2, .int 0, .int (w5 - 1)]) (rest := [.ref (a 0)]) ⟨hx, hb, hml, hown, hts⟩ (c_X11_in l dC dI Y x2 0 (w5 - 1) r8 hr9) (va_cwS 3 hts gX11_acrobatAt_X11_in rfl rfl rfl (by decide +kernel) ⟨Nat.le_of_ble_eq_true rfl, Nat.le_of_ble_eq_true rfl⟩) hK hPc rfl hl.1 rfl (Nat.le_of_ble_eq_true rfl) dX11_acrobatAt_17 ⟨Nat.le_of_ble_eq_true rfl, Nat.le_of_ble_eq_true rfl⟩ ?_
    refine lv_if_eq (tgt := 27) hx hb dX11_acrobatAt_20 (by decide) (fun q10 => ?_) (fun q10 => ?_)
    · have hf := wk_t hf q10
      refine lv_iconst (v := 2) hx hb dX11_acrobatAt_27 (by decide) ?_
      obtain ⟨r11, w12, hr13, hf⟩ := wkb2_s hf
      refine wk_evi (As := [.int 2]) (rest := []) (wc := (wX11 Y a M_g M_kept M_saved M_before M_isSaved M_changes M_isWithin w2 M_input M_length M_fault M_failed M_signs M_signMany w3 w4 w5 M_sums M_groups M_at M_told M_toldMany)) (w1 := (wX11 Y a M_g M_kept M_saved M_before M_isSaved M_changes M_isWithin w12 M_input M_length M_fault M_failed M_signs M_signMany w3 w4 w5 M_sums M_groups M_at M_told M_toldMany)) (wr := []) ⟨hx, hb, hml, hown, hts⟩ (c_X11_fails l dC dI Y a M_g M_kept M_saved M_before M_isSaved M_changes M_isWithin w2 M_input M_length M_fault M_failed M_signs M_signMany w3 w4 w5 M_sums M_groups M_at M_told M_toldMany 2 H.size r11 w12 hr13) (cwV 1 hts gX11_acrobatAt_X11_fails rfl rfl rfl (by decide +kernel) ⟨Nat.le_of_ble_eq_true rfl, Nat.le_of_ble_eq_true rfl⟩) hK hP hD hS hA [0, 1, 2, 3, 4, 5, 6, 7, 8, 9, 10, 11] [] rfl rfl (by decide) (by decide) (by decide) (va_recv hK hP (ci := 11) (q0 := 0) rfl rfl) rfl hl.1 rfl (Nat.le_of_ble_eq_true rfl) dX11_acrobatAt_28 ⟨Nat.le_of_ble_eq_true rfl, Nat.le_of_ble_eq_true rfl⟩ (fun H locs hP hD hS => ?_)
      have hP : va_P (dC, dI) vwCl [(a 0, .inr (11, [.ref (a 1), .ref (a 2), .ref (a 3), .ref (a 4), .int M_isSaved, .int M_changes, .int M_isWithin, .int w12, .ref (a 5), .int M_length, .int M_fault, .int M_failed, .ref (a 6), .int M_signMany, .ref (a 7), .ref (a 8), .int w5, .ref (a 9), .ref (a 10), .int M_at, .ref (a 11), .int M_toldMany])), (a 1, .inl (Y 0, 238, .inl M_g)), (a 2, .inl (Y 0, 1904, .inl M_kept)), (a 3, .inl (Y 0, 238, .inl M_saved)), (a 4, .inl (Y 0, 238, .inl M_before)), (a 5, .inl (Y 0, 60, .inl M_input)), (a 6, .inl (Y 2, 100, .inl M_signs)), (a 7, .inl (Y 0, 6, .inl w3)), (a 8, .inl (Y 0, 6, .inl w4)), (a 9, .inl (Y 0, 2048, .inl M_sums)), (a 10, .inl (Y 0, 2048, .inl M_groups)), (a 11, .inl (Y 0, 155, .inl M_told))] H := hP
      have hD : va_D A [(a 0, .inr (11, [.ref (a 1), .ref (a 2), .ref (a 3), .ref (a 4), .int M_isSaved, .int M_changes, .int M_isWithin, .int w12, .ref (a 5), .int M_length, .int M_fault, .int M_failed, .ref (a 6), .int M_signMany, .ref (a 7), .ref (a 8), .int w5, .ref (a 9), .ref (a 10), .int M_at, .ref (a 11), .int M_toldMany])), (a 1, .inl (Y 0, 238, .inl M_g)), (a 2, .inl (Y 0, 1904, .inl M_kept)), (a 3, .inl (Y 0, 238, .inl M_saved)), (a 4, .inl (Y 0, 238, .inl M_before)), (a 5, .inl (Y 0, 60, .inl M_input)), (a 6, .inl (Y 2, 100, .inl M_signs)), (a 7, .inl (Y 0, 6, .inl w3)), (a 8, .inl (Y 0, 6, .inl w4)), (a 9, .inl (Y 0, 2048, .inl M_sums)), (a 10, .inl (Y 0, 2048, .inl M_groups)), (a 11, .inl (Y 0, 155, .inl M_told))] := hD
      refine lv_if_eq (tgt := 38) hx hb dX11_acrobatAt_31 (by decide) (fun q14 => ?_) (fun q14 => ?_)
      · have hf := wk_t hf q14
        refine lv_aload_n hx hb dX11_acrobatAt_38 rfl (lv_at hl 0 rfl) ?_
        refine va_get (D := (dC, dI)) (ci := 11) (v := .ref (a 7)) (C := RX11) (T := TX11) (N := 22) hx hb hts in_X11_acrobatAt_X11 hown hK hP 0 rfl rfl 14 (by decide) (hts _ lk_X11_acrobatAt_RX11_36) (fun _ h9 => h9) rfl dX11_acrobatAt_39 ?_
        refine lv_iload_n hx hb dX11_acrobatAt_42 rfl (lv_at hl 2 rfl) ?_
        obtain ⟨h15, hf⟩ := gin_s hf
        refine wk_iald hx hb hK hP 7 0 rfl rfl h15 rfl dX11_acrobatAt_43 ?_
        obtain ⟨e0, e1, e2, e3, e4⟩ := wke5 hf
        subst e0
        subst e1
        subst e2
        subst e3
        subst e4
        have hP9 := hP.sub (ws' := (wX11 Y a M_g M_kept M_saved M_before M_isSaved M_changes M_isWithin w12 M_input M_length M_fault M_failed M_signs M_signMany w3 w4 w5 M_sums M_groups M_at M_told M_toldMany)) [0, 1, 2, 3, 4, 5, 6, 7, 8, 9, 10, 11] rfl
        have hD9 := hD.sub (ws' := (wX11 Y a M_g M_kept M_saved M_before M_isSaved M_changes M_isWithin w12 M_input M_length M_fault M_failed M_signs M_signMany w3 w4 w5 M_sums M_groups M_at M_told M_toldMany)) [0, 1, 2, 3, 4, 5, 6, 7, 8, 9, 10, 11] (by decide) rfl
        exact W.iret (v := (w3 x2.toNatClampNeg)) hx hb hr (fun t ht hW => ⟨⟨(w3 x2.toNatClampNeg), (), rfl, rfl, by rw [ht]; exact hP9, va_K.moved hW.alike hK, hD9⟩, hS.F ht⟩) hS.2.2 dX11_acrobatAt_44
      · have hf := wk_f hf q14
        refine lv_iconst (v := 0) hx hb dX11_acrobatAt_34 (by decide) ?_
        refine lv_goto (tgt := 44) hx hb dX11_acrobatAt_35 (by decide) ?_
        obtain ⟨e0, e1, e2, e3, e4⟩ := wke5 hf
        subst e0
        subst e1
        subst e2
        subst e3
        subst e4
        have hP9 := hP.sub (ws' := (wX11 Y a M_g M_kept M_saved M_before M_isSaved M_changes M_isWithin w12 M_input M_length M_fault M_failed M_signs M_signMany w3 w4 w5 M_sums M_groups M_at M_told M_toldMany)) [0, 1, 2, 3, 4, 5, 6, 7, 8, 9, 10, 11] rfl
        have hD9 := hD.sub (ws' := (wX11 Y a M_g M_kept M_saved M_before M_isSaved M_changes M_isWithin w12 M_input M_length M_fault M_failed M_signs M_signMany w3 w4 w5 M_sums M_groups M_at M_told M_toldMany)) [0, 1, 2, 3, 4, 5, 6, 7, 8, 9, 10, 11] (by decide) rfl
        exact W.iret (v := 0) hx hb hr (fun t ht hW => ⟨⟨0, (), rfl, rfl, by rw [ht]; exact hP9, va_K.moved hW.alike hK, hD9⟩, hS.F ht⟩) hS.2.2 dX11_acrobatAt_44
    · have hf := wk_f hf q10
      refine lv_iconst (v := 0) hx hb dX11_acrobatAt_23 (by decide) ?_
      refine lv_goto (tgt := 28) hx hb dX11_acrobatAt_24 (by decide) ?_
      obtain ⟨r16, w17, hr18, hf⟩ := wkb2_s hf
      refine wk_evi (As := [.int 0]) (rest := []) (wc := (wX11 Y a M_g M_kept M_saved M_before M_isSaved M_changes M_isWithin w2 M_input M_length M_fault M_failed M_signs M_signMany w3 w4 w5 M_sums M_groups M_at M_told M_toldMany)) (w1 := (wX11 Y a M_g M_kept M_saved M_before M_isSaved M_changes M_isWithin w17 M_input M_length M_fault M_failed M_signs M_signMany w3 w4 w5 M_sums M_groups M_at M_told M_toldMany)) (wr := []) ⟨hx, hb, hml, hown, hts⟩ (c_X11_fails l dC dI Y a M_g M_kept M_saved M_before M_isSaved M_changes M_isWithin w2 M_input M_length M_fault M_failed M_signs M_signMany w3 w4 w5 M_sums M_groups M_at M_told M_toldMany 0 H.size r16 w17 hr18) (cwV 1 hts gX11_acrobatAt_X11_fails rfl rfl rfl (by decide +kernel) ⟨Nat.le_of_ble_eq_true rfl, Nat.le_of_ble_eq_true rfl⟩) hK hP hD hS hA [0, 1, 2, 3, 4, 5, 6, 7, 8, 9, 10, 11] [] rfl rfl (by decide) (by decide) (by decide) (va_recv hK hP (ci := 11) (q0 := 0) rfl rfl) rfl hl.1 rfl (Nat.le_of_ble_eq_true rfl) dX11_acrobatAt_28 ⟨Nat.le_of_ble_eq_true rfl, Nat.le_of_ble_eq_true rfl⟩ (fun H locs hP hD hS => ?_)
      have hP : va_P (dC, dI) vwCl [(a 0, .inr (11, [.ref (a 1), .ref (a 2), .ref (a 3), .ref (a 4), .int M_isSaved, .int M_changes, .int M_isWithin, .int w17, .ref (a 5), .int M_length, .int M_fault, .int M_failed, .ref (a 6), .int M_signMany, .ref (a 7), .ref (a 8), .int w5, .ref (a 9), .ref (a 10), .int M_at, .ref (a 11), .int M_toldMany])), (a 1, .inl (Y 0, 238, .inl M_g)), (a 2, .inl (Y 0, 1904, .inl M_kept)), (a 3, .inl (Y 0, 238, .inl M_saved)), (a 4, .inl (Y 0, 238, .inl M_before)), (a 5, .inl (Y 0, 60, .inl M_input)), (a 6, .inl (Y 2, 100, .inl M_signs)), (a 7, .inl (Y 0, 6, .inl w3)), (a 8, .inl (Y 0, 6, .inl w4)), (a 9, .inl (Y 0, 2048, .inl M_sums)), (a 10, .inl (Y 0, 2048, .inl M_groups)), (a 11, .inl (Y 0, 155, .inl M_told))] H := hP
      have hD : va_D A [(a 0, .inr (11, [.ref (a 1), .ref (a 2), .ref (a 3), .ref (a 4), .int M_isSaved, .int M_changes, .int M_isWithin, .int w17, .ref (a 5), .int M_length, .int M_fault, .int M_failed, .ref (a 6), .int M_signMany, .ref (a 7), .ref (a 8), .int w5, .ref (a 9), .ref (a 10), .int M_at, .ref (a 11), .int M_toldMany])), (a 1, .inl (Y 0, 238, .inl M_g)), (a 2, .inl (Y 0, 1904, .inl M_kept)), (a 3, .inl (Y 0, 238, .inl M_saved)), (a 4, .inl (Y 0, 238, .inl M_before)), (a 5, .inl (Y 0, 60, .inl M_input)), (a 6, .inl (Y 2, 100, .inl M_signs)), (a 7, .inl (Y 0, 6, .inl w3)), (a 8, .inl (Y 0, 6, .inl w4)), (a 9, .inl (Y 0, 2048, .inl M_sums)), (a 10, .inl (Y 0, 2048, .inl M_groups)), (a 11, .inl (Y 0, 155, .inl M_told))] := hD
      refine lv_if_eq (tgt := 38) hx hb dX11_acrobatAt_31 (by decide) (fun q19 => ?_) (fun q19 => ?_)
      · have hf := wk_t hf q19
        refine lv_aload_n hx hb dX11_acrobatAt_38 rfl (lv_at hl 0 rfl) ?_
        refine va_get (D := (dC, dI)) (ci := 11) (v := .ref (a 7)) (C := RX11) (T := TX11) (N := 22) hx hb hts in_X11_acrobatAt_X11 hown hK hP 0 rfl rfl 14 (by decide) (hts _ lk_X11_acrobatAt_RX11_36) (fun _ h9 => h9) rfl dX11_acrobatAt_39 ?_
        refine lv_iload_n hx hb dX11_acrobatAt_42 rfl (lv_at hl 2 rfl) ?_
        obtain ⟨h20, hf⟩ := gin_s hf
        refine wk_iald hx hb hK hP 7 0 rfl rfl h20 rfl dX11_acrobatAt_43 ?_
        obtain ⟨e0, e1, e2, e3, e4⟩ := wke5 hf
        subst e0
        subst e1
        subst e2
        subst e3
        subst e4
        have hP9 := hP.sub (ws' := (wX11 Y a M_g M_kept M_saved M_before M_isSaved M_changes M_isWithin w17 M_input M_length M_fault M_failed M_signs M_signMany w3 w4 w5 M_sums M_groups M_at M_told M_toldMany)) [0, 1, 2, 3, 4, 5, 6, 7, 8, 9, 10, 11] rfl
        have hD9 := hD.sub (ws' := (wX11 Y a M_g M_kept M_saved M_before M_isSaved M_changes M_isWithin w17 M_input M_length M_fault M_failed M_signs M_signMany w3 w4 w5 M_sums M_groups M_at M_told M_toldMany)) [0, 1, 2, 3, 4, 5, 6, 7, 8, 9, 10, 11] (by decide) rfl
        exact W.iret (v := (w3 x2.toNatClampNeg)) hx hb hr (fun t ht hW => ⟨⟨(w3 x2.toNatClampNeg), (), rfl, rfl, by rw [ht]; exact hP9, va_K.moved hW.alike hK, hD9⟩, hS.F ht⟩) hS.2.2 dX11_acrobatAt_44
      · have hf := wk_f hf q19
        refine lv_iconst (v := 0) hx hb dX11_acrobatAt_34 (by decide) ?_
        refine lv_goto (tgt := 44) hx hb dX11_acrobatAt_35 (by decide) ?_
        obtain ⟨e0, e1, e2, e3, e4⟩ := wke5 hf
        subst e0
        subst e1
        subst e2
        subst e3
        subst e4
        have hP9 := hP.sub (ws' := (wX11 Y a M_g M_kept M_saved M_before M_isSaved M_changes M_isWithin w17 M_input M_length M_fault M_failed M_signs M_signMany w3 w4 w5 M_sums M_groups M_at M_told M_toldMany)) [0, 1, 2, 3, 4, 5, 6, 7, 8, 9, 10, 11] rfl
        have hD9 := hD.sub (ws' := (wX11 Y a M_g M_kept M_saved M_before M_isSaved M_changes M_isWithin w17 M_input M_length M_fault M_failed M_signs M_signMany w3 w4 w5 M_sums M_groups M_at M_told M_toldMany)) [0, 1, 2, 3, 4, 5, 6, 7, 8, 9, 10, 11] (by decide) rfl
        exact W.iret (v := 0) hx hb hr (fun t ht hW => ⟨⟨0, (), rfl, rfl, by rw [ht]; exact hP9, va_K.moved hW.alike hK, hD9⟩, hS.F ht⟩) hS.2.2 dX11_acrobatAt_44
theorem lk_X11_placeOf_RX11_36 : Cond.fieldLink RX11 36 "CircusLedgerModel" "column" "[I" ∈ wsX11_placeOf := by decide +kernel
theorem lk_X11_placeOf_RX11_95 : Cond.fieldLink RX11 95 "CircusLedgerModel" "many" "I" ∈ wsX11_placeOf := by decide +kernel
theorem in_X11_placeOf_X11 : ∀ w ∈ u_ws RX11 TX11 22, w ∈ wsX11_placeOf := by decide +kernel
def f_X11_placeOf_L2 (M_column : Nat → Int32) (M_many : Int32) (x1 : Int32) : Nat → Int32 → Option (Int32)
  | 0, _ => none
  | nn + 1, x2 =>
    if M_many ≤ x2 then
      (some ((-1)))
    else
      (gin x2 6 (if (M_column x2.toNatClampNeg) = x1 then
        (some (x2))
      else
        (f_X11_placeOf_L2 M_column M_many x1 nn (x2 + 1))))
def f_X11_placeOf (M_column : Nat → Int32) (M_many : Int32) (x1 : Int32) : Option (Int32) :=
  f_X11_placeOf_L2 M_column M_many x1 FU 0
set_option maxHeartbeats 4000000 in
set_option maxRecDepth 100000 in
theorem wl_X11_placeOf_L2 {p : Program} {l : Launch} {e : Env} {s : State} {m : MethodId} {args : Array Value} {below : List Frame} {meth : Method} {c : Code} {dC : Nat → ClassId} {dI : Nat → Nat → Nat} {Y : Nat → ClassId} {a : Nat → Nat} {M_g : Nat → Int32} {M_kept : Nat → Int32} {M_saved : Nat → Int32} {M_before : Nat → Int32} {M_isSaved : Int32} {M_changes : Int32} {M_isWithin : Int32} {M_code : Int32} {M_input : Nat → Int32} {M_length : Int32} {M_fault : Int32} {M_failed : Int32} {M_signs : Nat → Int32} {M_signMany : Int32} {M_column : Nat → Int32} {M_loads : Nat → Int32} {M_many : Int32} {M_sums : Nat → Int32} {M_groups : Nat → Int32} {M_at : Int32} {M_told : Nat → Int32} {M_toldMany : Int32} {x1 : Int32} {r : Int32}  (C0 : wk_C p s m args meth c cX11_placeOf 3 (some .int) wsX11_placeOf RX11) (hK : va_K (dC, dI) vwCl (vTy Y) s) (hP : va_P (dC, dI) vwCl (wX11 Y a M_g M_kept M_saved M_before M_isSaved M_changes M_isWithin M_code M_input M_length M_fault M_failed M_signs M_signMany M_column M_loads M_many M_sums M_groups M_at M_told M_toldMany) s.heap) : ∀ (nn : Nat) (x2 : Int32)  , f_X11_placeOf_L2 M_column M_many x1 nn x2 = some (r) → ∀ (ls : Array Slot), lv_has ls 3 [(0, .ref (a 0)), (1, .int x1), (2, .int x2)] → W p l e (headSpec wsX11_placeOf ({ frames := 0, cells := 0, slots := 0, locals := 0 } : Room)).room s m args below meth c s.heap [] 0 0 (MQ below (vp_Si (fun r2 => r2 = r)) args s 0 0 (fun _ => False)) (F0 m 2 ls []) := by
  have C0 := C0
  obtain ⟨hx, hb, hml, hr, hlocks, hown, hts⟩ := id C0
  intro nn
  induction nn with
  | zero =>
    intro x2 hf
    rw [f_X11_placeOf_L2] at hf
    cases hf
  | succ nn ih =>
    intro x2 hf ls hl
    rw [f_X11_placeOf_L2] at hf
    have hP : va_P (dC, dI) vwCl [(a 0, .inr (11, [.ref (a 1), .ref (a 2), .ref (a 3), .ref (a 4), .int M_isSaved, .int M_changes, .int M_isWithin, .int M_code, .ref (a 5), .int M_length, .int M_fault, .int M_failed, .ref (a 6), .int M_signMany, .ref (a 7), .ref (a 8), .int M_many, .ref (a 9), .ref (a 10), .int M_at, .ref (a 11), .int M_toldMany])), (a 1, .inl (Y 0, 238, .inl M_g)), (a 2, .inl (Y 0, 1904, .inl M_kept)), (a 3, .inl (Y 0, 238, .inl M_saved)), (a 4, .inl (Y 0, 238, .inl M_before)), (a 5, .inl (Y 0, 60, .inl M_input)), (a 6, .inl (Y 2, 100, .inl M_signs)), (a 7, .inl (Y 0, 6, .inl M_column)), (a 8, .inl (Y 0, 6, .inl M_loads)), (a 9, .inl (Y 0, 2048, .inl M_sums)), (a 10, .inl (Y 0, 2048, .inl M_groups)), (a 11, .inl (Y 0, 155, .inl M_told))] s.heap := hP
    refine lv_iload_n hx hb dX11_placeOf_2 rfl (lv_at hl 2 rfl) ?_
    refine lv_aload_n hx hb dX11_placeOf_3 rfl (lv_at hl 0 rfl) ?_
    refine va_get (D := (dC, dI)) (ci := 11) (v := .int M_many) (C := RX11) (T := TX11) (N := 22) hx hb hts in_X11_placeOf_X11 hown hK hP 0 rfl rfl 16 (by decide) (hts _ lk_X11_placeOf_RX11_95) (fun _ h9 => h9) rfl dX11_placeOf_4 ?_
    refine lv_icmp_ge (tgt := 28) hx hb dX11_placeOf_7 (by decide) (fun q1 => ?_) (fun q1 => ?_)
    · have hf := wk_t hf q1
      refine lv_iconst (v := (-1)) hx hb dX11_placeOf_28 (by decide) ?_
      have e0 := wke1 hf
      subst e0
      exact W.iret (v := (-1)) hx hb hr (fun t ht hW => ⟨(-1), rfl, rfl, ht⟩) (fun q h => absurd h List.not_mem_nil) dX11_placeOf_29
    · have hf := wk_f hf q1
      refine lv_aload_n hx hb dX11_placeOf_10 rfl (lv_at hl 0 rfl) ?_
      refine va_get (D := (dC, dI)) (ci := 11) (v := .ref (a 7)) (C := RX11) (T := TX11) (N := 22) hx hb hts in_X11_placeOf_X11 hown hK hP 0 rfl rfl 14 (by decide) (hts _ lk_X11_placeOf_RX11_36) (fun _ h9 => h9) rfl dX11_placeOf_11 ?_
      refine lv_iload_n hx hb dX11_placeOf_14 rfl (lv_at hl 2 rfl) ?_
      obtain ⟨h2, hf⟩ := gin_s hf
      refine wk_iald hx hb hK hP 7 0 rfl rfl h2 rfl dX11_placeOf_15 ?_
      refine lv_iload_n hx hb dX11_placeOf_16 rfl (lv_at hl 1 rfl) ?_
      refine lv_icmp_ne (tgt := 22) hx hb dX11_placeOf_17 (by decide) (fun q3 => ?_) (fun q3 => ?_)
      · have hf := wk_f hf q3
        refine lv_iinc (v := (x2 + 1)) (lv' := [(2, .int (x2 + 1)), (0, .ref (a 0)), (1, .int x1)]) hx hb dX11_placeOf_22 hl (k := 2) rfl rfl (by decide) rfl (fun ls hl => ?_)
        refine lv_goto (tgt := 2) hx hb dX11_placeOf_25 (by decide) ?_
        exact ih (x2 + 1) hf ls (lv_sub hl [1, 2, 0] rfl)
      · have hf := wk_t hf q3
        refine lv_iload_n hx hb dX11_placeOf_20 rfl (lv_at hl 2 rfl) ?_
        have e0 := wke1 hf
        subst e0
        exact W.iret (v := x2) hx hb hr (fun t ht hW => ⟨x2, rfl, rfl, ht⟩) (fun q h => absurd h List.not_mem_nil) dX11_placeOf_21
set_option maxHeartbeats 4000000 in
set_option maxRecDepth 100000 in
theorem c_X11_placeOf (l : Launch) (dC : Nat → ClassId) (dI : Nat → Nat → Nat) (Y : Nat → ClassId) (a : Nat → Nat) (M_g : Nat → Int32) (M_kept : Nat → Int32) (M_saved : Nat → Int32) (M_before : Nat → Int32) (M_isSaved : Int32) (M_changes : Int32) (M_isWithin : Int32) (M_code : Int32) (M_input : Nat → Int32) (M_length : Int32) (M_fault : Int32) (M_failed : Int32) (M_signs : Nat → Int32) (M_signMany : Int32) (M_column : Nat → Int32) (M_loads : Nat → Int32) (M_many : Int32) (M_sums : Nat → Int32) (M_groups : Nat → Int32) (M_at : Int32) (M_told : Nat → Int32) (M_toldMany : Int32) (x1 : Int32) (r : Int32) (hf : f_X11_placeOf M_column M_many x1 = some (r)) : Met l yX11_placeOf wsX11_placeOf ({ frames := 0, cells := 0, slots := 0, locals := 0 } : Room) (va_Pc [.ref (a 0), .int x1] (wk_B (dC, dI) Y (wX11 Y a M_g M_kept M_saved M_before M_isSaved M_changes M_isWithin M_code M_input M_length M_fault M_failed M_signs M_signMany M_column M_loads M_many M_sums M_groups M_at M_told M_toldMany))) (vp_Si (fun r2 => r2 = r)) 0 0 (fun _ => False) := by
  refine Met.ofW (cc := cX11_placeOf) (maxL := 3) (ret := (some .int)) (by decide) rfl ?_
  intro p e s m args below meth c s₁ B hml hv
  obtain ⟨rfl, hP, hK⟩ := hv
  have hx := B.exec
  have hb := B.bytes
  have hr := B.returns
  have hts := atoms_spec (ws := wsX11_placeOf) B.pre
  have hown : s.vm.findClass RX11 = some m.cls := findClass_of_methodNamed B.named
  have hlocks := B.notSynchronized
  have C0 : wk_C p s m _ meth c cX11_placeOf 3 (some .int) wsX11_placeOf RX11 := ⟨hx, hb, hml, hr, hlocks, hown, hts⟩
  have hP : va_P (dC, dI) vwCl [(a 0, .inr (11, [.ref (a 1), .ref (a 2), .ref (a 3), .ref (a 4), .int M_isSaved, .int M_changes, .int M_isWithin, .int M_code, .ref (a 5), .int M_length, .int M_fault, .int M_failed, .ref (a 6), .int M_signMany, .ref (a 7), .ref (a 8), .int M_many, .ref (a 9), .ref (a 10), .int M_at, .ref (a 11), .int M_toldMany])), (a 1, .inl (Y 0, 238, .inl M_g)), (a 2, .inl (Y 0, 1904, .inl M_kept)), (a 3, .inl (Y 0, 238, .inl M_saved)), (a 4, .inl (Y 0, 238, .inl M_before)), (a 5, .inl (Y 0, 60, .inl M_input)), (a 6, .inl (Y 2, 100, .inl M_signs)), (a 7, .inl (Y 0, 6, .inl M_column)), (a 8, .inl (Y 0, 6, .inl M_loads)), (a 9, .inl (Y 0, 2048, .inl M_sums)), (a 10, .inl (Y 0, 2048, .inl M_groups)), (a 11, .inl (Y 0, 155, .inl M_told))] s.heap := hP
  have hl := lv_entry ([.ref (a 0), .int x1]) (n := 3) (Nat.le_of_ble_eq_true rfl)
  rw [lg_entry_eq]
  generalize (lg_sl ([.ref (a 0), .int x1]) ++ List.replicate (3 - (lg_sl ([.ref (a 0), .int x1])).length) Slot.unset).toArray = ls at hl ⊢
  have hl : lv_has ls 3 [(0, .ref (a 0)), (1, .int x1)] := hl
  rw [f_X11_placeOf] at hf
  refine lv_iconst (v := 0) hx hb dX11_placeOf_0 (by decide) ?_
  refine lv_istore_n (lv' := [(2, .int 0), (0, .ref (a 0)), (1, .int x1)]) hx hb dX11_placeOf_1 rfl hl (by decide) rfl (fun ls hl => ?_)
  exact wl_X11_placeOf_L2 C0 hK hP FU 0 hf ls (lv_sub hl [1, 2, 0] rfl)
theorem lk_X11_loadOn_RX11_39 : Cond.fieldLink RX11 39 "CircusLedgerModel" "loads" "[I" ∈ wsX11_loadOn := by decide +kernel
theorem in_X11_loadOn_X11 : ∀ w ∈ u_ws RX11 TX11 22, w ∈ wsX11_loadOn := by decide +kernel
def f_X11_loadOn (M_g : Nat → Int32) (M_code : Int32) (M_column : Nat → Int32) (M_loads : Nat → Int32) (M_many : Int32) (x1 : Int32) (x2 : Int32) : Option (Int32 × Int32 × (Nat → Int32) × (Nat → Int32) × Int32) :=
  wkb5 (f_X11_isWrong M_g M_code M_column M_loads M_many x1) (fun r1 w2 w3 w4 w5 =>
  if r1 = 0 then
    (wkb1 (f_X11_placeOf w3 w5 x2) (fun r8 =>
    if (0 : Int32) ≤ r8 then
      (wkb2 (f_X11_fails w2 0) (fun r11 w12 =>
      if r11 = 0 then
        (wkb1 (f_X11_placeOf w3 w5 x2) (fun r15 =>
        gin r15 6 (some ((w4 r15.toNatClampNeg), w12, w3, w4, w5))))
      else
        (some (0, w12, w3, w4, w5))))
    else
      (wkb2 (f_X11_fails w2 2) (fun r18 w19 =>
      if r18 = 0 then
        (wkb1 (f_X11_placeOf w3 w5 x2) (fun r22 =>
        gin r22 6 (some ((w4 r22.toNatClampNeg), w19, w3, w4, w5))))
      else
        (some (0, w19, w3, w4, w5))))))
  else
    (some (0, w2, w3, w4, w5)))
set_option maxHeartbeats 4000000 in
set_option maxRecDepth 100000 in
theorem c_X11_loadOn (l : Launch) (dC : Nat → ClassId) (dI : Nat → Nat → Nat) (Y : Nat → ClassId) (a : Nat → Nat) (M_g : Nat → Int32) (M_kept : Nat → Int32) (M_saved : Nat → Int32) (M_before : Nat → Int32) (M_isSaved : Int32) (M_changes : Int32) (M_isWithin : Int32) (M_code : Int32) (M_input : Nat → Int32) (M_length : Int32) (M_fault : Int32) (M_failed : Int32) (M_signs : Nat → Int32) (M_signMany : Int32) (M_column : Nat → Int32) (M_loads : Nat → Int32) (M_many : Int32) (M_sums : Nat → Int32) (M_groups : Nat → Int32) (M_at : Int32) (M_told : Nat → Int32) (M_toldMany : Int32) (x1 : Int32) (x2 : Int32) (sz : Nat) (r : Int32) (zM_code : Int32) (zM_column : Nat → Int32) (zM_loads : Nat → Int32) (zM_many : Int32) (hf : f_X11_loadOn M_g M_code M_column M_loads M_many x1 x2 = some (r, zM_code, zM_column, zM_loads, zM_many)) : Met l yX11_loadOn wsX11_loadOn ({ frames := 4, cells := 0, slots := 0, locals := 89 } : Room) (va_Pc [.ref (a 0), .int x1, .int x2] (wk_E (dC, dI) Y (wX11 Y a M_g M_kept M_saved M_before M_isSaved M_changes M_isWithin M_code M_input M_length M_fault M_failed M_signs M_signMany M_column M_loads M_many M_sums M_groups M_at M_told M_toldMany) sz)) (va_Qi (fun r2 (_ : Unit) => r2 = r) (fun _ t => wk_X (dC, dI) Y (wX11 Y a M_g M_kept M_saved M_before M_isSaved M_changes M_isWithin zM_code M_input M_length M_fault M_failed M_signs M_signMany zM_column zM_loads zM_many M_sums M_groups M_at M_told M_toldMany) (va_A (wX11 Y a M_g M_kept M_saved M_before M_isSaved M_changes M_isWithin M_code M_input M_length M_fault M_failed M_signs M_signMany M_column M_loads M_many M_sums M_groups M_at M_told M_toldMany) sz) t) (va_A (wX11 Y a M_g M_kept M_saved M_before M_isSaved M_changes M_isWithin M_code M_input M_length M_fault M_failed M_signs M_signMany M_column M_loads M_many M_sums M_groups M_at M_told M_toldMany) sz)) 0 0 (va_A (wX11 Y a M_g M_kept M_saved M_before M_isSaved M_changes M_isWithin M_code M_input M_length M_fault M_failed M_signs M_signMany M_column M_loads M_many M_sums M_groups M_at M_told M_toldMany) sz) := by
  refine Met.ofW (cc := cX11_loadOn) (maxL := 3) (ret := (some .int)) (by decide) rfl ?_
  intro p e s m args below meth c s₁ B hml hv
  obtain ⟨rfl, hsz, hP, hK, hD0⟩ := hv
  have hx := B.exec
  have hb := B.bytes
  have hr := B.returns
  have hts := atoms_spec (ws := wsX11_loadOn) B.pre
  have hown : s.vm.findClass RX11 = some m.cls := findClass_of_methodNamed B.named
  have hlocks := B.notSynchronized
  have C0 : wk_C p s m _ meth c cX11_loadOn 3 (some .int) wsX11_loadOn RX11 := ⟨hx, hb, hml, hr, hlocks, hown, hts⟩
  subst hsz
  have hD := hD0.self (sz := s.heap.size)
  generalize hAe : va_A (wX11 Y a M_g M_kept M_saved M_before M_isSaved M_changes M_isWithin M_code M_input M_length M_fault M_failed M_signs M_signMany M_column M_loads M_many M_sums M_groups M_at M_told M_toldMany) s.heap.size = A at hD ⊢
  have hA : ∀ q : Nat, s.heap.size ≤ q → A q := fun q h => by rw [← hAe]; exact Or.inr h
  have hS : va_S A s.heap s.heap [] := va_S.rf
  obtain ⟨H, hHe⟩ : ∃ H, H = s.heap := ⟨_, rfl⟩
  have hS : va_S A s.heap H [] := by rw [hHe]; exact hS
  have hP : va_P (dC, dI) vwCl [(a 0, .inr (11, [.ref (a 1), .ref (a 2), .ref (a 3), .ref (a 4), .int M_isSaved, .int M_changes, .int M_isWithin, .int M_code, .ref (a 5), .int M_length, .int M_fault, .int M_failed, .ref (a 6), .int M_signMany, .ref (a 7), .ref (a 8), .int M_many, .ref (a 9), .ref (a 10), .int M_at, .ref (a 11), .int M_toldMany])), (a 1, .inl (Y 0, 238, .inl M_g)), (a 2, .inl (Y 0, 1904, .inl M_kept)), (a 3, .inl (Y 0, 238, .inl M_saved)), (a 4, .inl (Y 0, 238, .inl M_before)), (a 5, .inl (Y 0, 60, .inl M_input)), (a 6, .inl (Y 2, 100, .inl M_signs)), (a 7, .inl (Y 0, 6, .inl M_column)), (a 8, .inl (Y 0, 6, .inl M_loads)), (a 9, .inl (Y 0, 2048, .inl M_sums)), (a 10, .inl (Y 0, 2048, .inl M_groups)), (a 11, .inl (Y 0, 155, .inl M_told))] H := by rw [hHe]; exact hP
  have hD : va_D A [(a 0, .inr (11, [.ref (a 1), .ref (a 2), .ref (a 3), .ref (a 4), .int M_isSaved, .int M_changes, .int M_isWithin, .int M_code, .ref (a 5), .int M_length, .int M_fault, .int M_failed, .ref (a 6), .int M_signMany, .ref (a 7), .ref (a 8), .int M_many, .ref (a 9), .ref (a 10), .int M_at, .ref (a 11), .int M_toldMany])), (a 1, .inl (Y 0, 238, .inl M_g)), (a 2, .inl (Y 0, 1904, .inl M_kept)), (a 3, .inl (Y 0, 238, .inl M_saved)), (a 4, .inl (Y 0, 238, .inl M_before)), (a 5, .inl (Y 0, 60, .inl M_input)), (a 6, .inl (Y 2, 100, .inl M_signs)), (a 7, .inl (Y 0, 6, .inl M_column)), (a 8, .inl (Y 0, 6, .inl M_loads)), (a 9, .inl (Y 0, 2048, .inl M_sums)), (a 10, .inl (Y 0, 2048, .inl M_groups)), (a 11, .inl (Y 0, 155, .inl M_told))] := hD
  obtain ⟨locs, hlo⟩ : ∃ locs : List Loc, locs = [] := ⟨_, rfl⟩
  have hS : va_S A s.heap H locs := by rw [hlo]; exact hS
  have hl := lv_entry ([.ref (a 0), .int x1, .int x2]) (n := 3) (Nat.le_of_ble_eq_true rfl)
  rw [lg_entry_eq]
  generalize (lg_sl ([.ref (a 0), .int x1, .int x2]) ++ List.replicate (3 - (lg_sl ([.ref (a 0), .int x1, .int x2])).length) Slot.unset).toArray = ls at hl ⊢
  have hl : lv_has ls 3 [(0, .ref (a 0)), (1, .int x1), (2, .int x2)] := hl
  refine wk_start hHe hlo ?_
  rw [f_X11_loadOn] at hf
  refine lv_aload_n hx hb dX11_loadOn_0 rfl (lv_at hl 0 rfl) ?_
  refine lv_iload_n hx hb dX11_loadOn_1 rfl (lv_at hl 1 rfl) ?_
  obtain ⟨r1, w2, w3, w4, w5, hr6, hf⟩ := wkb5_s hf
  refine wk_evi (As := [.int x1]) (rest := []) (wc := (wX11 Y a M_g M_kept M_saved M_before M_isSaved M_changes M_isWithin M_code M_input M_length M_fault M_failed M_signs M_signMany M_column M_loads M_many M_sums M_groups M_at M_told M_toldMany)) (w1 := (wX11 Y a M_g M_kept M_saved M_before M_isSaved M_changes M_isWithin w2 M_input M_length M_fault M_failed M_signs M_signMany w3 w4 w5 M_sums M_groups M_at M_told M_toldMany)) (wr := []) ⟨hx, hb, hml, hown, hts⟩ (c_X11_isWrong l dC dI Y a M_g M_kept M_saved M_before M_isSaved M_changes M_isWithin M_code M_input M_length M_fault M_failed M_signs M_signMany M_column M_loads M_many M_sums M_groups M_at M_told M_toldMany x1 H.size r1 w2 w3 w4 w5 hr6) (cwV 1 hts gX11_loadOn_X11_isWrong rfl rfl rfl (by decide +kernel) ⟨Nat.le_of_ble_eq_true rfl, Nat.le_of_ble_eq_true rfl⟩) hK hP hD hS hA [0, 1, 2, 3, 4, 5, 6, 7, 8, 9, 10, 11] [] rfl rfl (by decide) (by decide) (by decide) (va_recv hK hP (ci := 11) (q0 := 0) rfl rfl) rfl hl.1 rfl (Nat.le_of_ble_eq_true rfl) dX11_loadOn_2 ⟨Nat.le_of_ble_eq_true rfl, Nat.le_of_ble_eq_true rfl⟩ (fun H locs hP hD hS => ?_)
  have hP : va_P (dC, dI) vwCl [(a 0, .inr (11, [.ref (a 1), .ref (a 2), .ref (a 3), .ref (a 4), .int M_isSaved, .int M_changes, .int M_isWithin, .int w2, .ref (a 5), .int M_length, .int M_fault, .int M_failed, .ref (a 6), .int M_signMany, .ref (a 7), .ref (a 8), .int w5, .ref (a 9), .ref (a 10), .int M_at, .ref (a 11), .int M_toldMany])), (a 1, .inl (Y 0, 238, .inl M_g)), (a 2, .inl (Y 0, 1904, .inl M_kept)), (a 3, .inl (Y 0, 238, .inl M_saved)), (a 4, .inl (Y 0, 238, .inl M_before)), (a 5, .inl (Y 0, 60, .inl M_input)), (a 6, .inl (Y 2, 100, .inl M_signs)), (a 7, .inl (Y 0, 6, .inl w3)), (a 8, .inl (Y 0, 6, .inl w4)), (a 9, .inl (Y 0, 2048, .inl M_sums)), (a 10, .inl (Y 0, 2048, .inl M_groups)), (a 11, .inl (Y 0, 155, .inl M_told))] H := hP
  have hD : va_D A [(a 0, .inr (11, [.ref (a 1), .ref (a 2), .ref (a 3), .ref (a 4), .int M_isSaved, .int M_changes, .int M_isWithin, .int w2, .ref (a 5), .int M_length, .int M_fault, .int M_failed, .ref (a 6), .int M_signMany, .ref (a 7), .ref (a 8), .int w5, .ref (a 9), .ref (a 10), .int M_at, .ref (a 11), .int M_toldMany])), (a 1, .inl (Y 0, 238, .inl M_g)), (a 2, .inl (Y 0, 1904, .inl M_kept)), (a 3, .inl (Y 0, 238, .inl M_saved)), (a 4, .inl (Y 0, 238, .inl M_before)), (a 5, .inl (Y 0, 60, .inl M_input)), (a 6, .inl (Y 2, 100, .inl M_signs)), (a 7, .inl (Y 0, 6, .inl w3)), (a 8, .inl (Y 0, 6, .inl w4)), (a 9, .inl (Y 0, 2048, .inl M_sums)), (a 10, .inl (Y 0, 2048, .inl M_groups)), (a 11, .inl (Y 0, 155, .inl M_told))] := hD
  refine lv_if_ne (tgt := 28) hx hb dX11_loadOn_5 (by decide) (fun q7 => ?_) (fun q7 => ?_)
  · have hf := wk_f hf q7
    refine lv_iconst (v := 0) hx hb dX11_loadOn_28 (by decide) ?_
    refine lv_goto (tgt := 42) hx hb dX11_loadOn_29 (by decide) ?_
    obtain ⟨e0, e1, e2, e3, e4⟩ := wke5 hf
    subst e0
    subst e1
    subst e2
    subst e3
    subst e4
    have hP9 := hP.sub (ws' := (wX11 Y a M_g M_kept M_saved M_before M_isSaved M_changes M_isWithin w2 M_input M_length M_fault M_failed M_signs M_signMany w3 w4 w5 M_sums M_groups M_at M_told M_toldMany)) [0, 1, 2, 3, 4, 5, 6, 7, 8, 9, 10, 11] rfl
    have hD9 := hD.sub (ws' := (wX11 Y a M_g M_kept M_saved M_before M_isSaved M_changes M_isWithin w2 M_input M_length M_fault M_failed M_signs M_signMany w3 w4 w5 M_sums M_groups M_at M_told M_toldMany)) [0, 1, 2, 3, 4, 5, 6, 7, 8, 9, 10, 11] (by decide) rfl
    exact W.iret (v := 0) hx hb hr (fun t ht hW => ⟨⟨0, (), rfl, rfl, by rw [ht]; exact hP9, va_K.moved hW.alike hK, hD9⟩, hS.F ht⟩) hS.2.2 dX11_loadOn_42
  · have hf := wk_t hf q7
    refine lv_aload_n hx hb dX11_loadOn_8 rfl (lv_at hl 0 rfl) ?_
    refine lv_aload_n hx hb dX11_loadOn_9 rfl (lv_at hl 0 rfl) ?_
    refine lv_iload_n hx hb dX11_loadOn_10 rfl (lv_at hl 2 rfl) ?_
    obtain ⟨r8, hr9, hf⟩ := wkb1_s hf
    have hPc := hP.sub (ws' := (wX11 Y a M_g M_kept M_saved M_before M_isSaved M_changes M_isWithin w2 M_input M_length M_fault M_failed M_signs M_signMany w3 w4 w5 M_sums M_groups M_at M_told M_toldMany)) [0, 1, 2, 3, 4, 5, 6, 7, 8, 9, 10, 11] rfl
    refine wk_vi (As := [.int x2]) (rest := [.ref (a 0)]) ⟨hx, hb, hml, hown, hts⟩ (c_X11_placeOf l dC dI Y a M_g M_kept M_saved M_before M_isSaved M_changes M_isWithin w2 M_input M_length M_fault M_failed M_signs M_signMany w3 w4 w5 M_sums M_groups M_at M_told M_toldMany x2 r8 hr9) (cwV 1 hts gX11_loadOn_X11_placeOf rfl rfl rfl (by decide +kernel) ⟨Nat.le_of_ble_eq_true rfl, Nat.le_of_ble_eq_true rfl⟩) hK hPc (va_recv hK hP (ci := 11) (q0 := 0) rfl rfl) rfl hl.1 rfl (Nat.le_of_ble_eq_true rfl) dX11_loadOn_11 ⟨Nat.le_of_ble_eq_true rfl, Nat.le_of_ble_eq_true rfl⟩ ?_
    refine lv_if_ge (tgt := 21) hx hb dX11_loadOn_14 (by decide) (fun q10 => ?_) (fun q10 => ?_)
    · have hf := wk_t hf q10
      refine lv_iconst (v := 0) hx hb dX11_loadOn_21 (by decide) ?_
      obtain ⟨r11, w12, hr13, hf⟩ := wkb2_s hf
      refine wk_evi (As := [.int 0]) (rest := []) (wc := (wX11 Y a M_g M_kept M_saved M_before M_isSaved M_changes M_isWithin w2 M_input M_length M_fault M_failed M_signs M_signMany w3 w4 w5 M_sums M_groups M_at M_told M_toldMany)) (w1 := (wX11 Y a M_g M_kept M_saved M_before M_isSaved M_changes M_isWithin w12 M_input M_length M_fault M_failed M_signs M_signMany w3 w4 w5 M_sums M_groups M_at M_told M_toldMany)) (wr := []) ⟨hx, hb, hml, hown, hts⟩ (c_X11_fails l dC dI Y a M_g M_kept M_saved M_before M_isSaved M_changes M_isWithin w2 M_input M_length M_fault M_failed M_signs M_signMany w3 w4 w5 M_sums M_groups M_at M_told M_toldMany 0 H.size r11 w12 hr13) (cwV 1 hts gX11_loadOn_X11_fails rfl rfl rfl (by decide +kernel) ⟨Nat.le_of_ble_eq_true rfl, Nat.le_of_ble_eq_true rfl⟩) hK hP hD hS hA [0, 1, 2, 3, 4, 5, 6, 7, 8, 9, 10, 11] [] rfl rfl (by decide) (by decide) (by decide) (va_recv hK hP (ci := 11) (q0 := 0) rfl rfl) rfl hl.1 rfl (Nat.le_of_ble_eq_true rfl) dX11_loadOn_22 ⟨Nat.le_of_ble_eq_true rfl, Nat.le_of_ble_eq_true rfl⟩ (fun H locs hP hD hS => ?_)
      have hP : va_P (dC, dI) vwCl [(a 0, .inr (11, [.ref (a 1), .ref (a 2), .ref (a 3), .ref (a 4), .int M_isSaved, .int M_changes, .int M_isWithin, .int w12, .ref (a 5), .int M_length, .int M_fault, .int M_failed, .ref (a 6), .int M_signMany, .ref (a 7), .ref (a 8), .int w5, .ref (a 9), .ref (a 10), .int M_at, .ref (a 11), .int M_toldMany])), (a 1, .inl (Y 0, 238, .inl M_g)), (a 2, .inl (Y 0, 1904, .inl M_kept)), (a 3, .inl (Y 0, 238, .inl M_saved)), (a 4, .inl (Y 0, 238, .inl M_before)), (a 5, .inl (Y 0, 60, .inl M_input)), (a 6, .inl (Y 2, 100, .inl M_signs)), (a 7, .inl (Y 0, 6, .inl w3)), (a 8, .inl (Y 0, 6, .inl w4)), (a 9, .inl (Y 0, 2048, .inl M_sums)), (a 10, .inl (Y 0, 2048, .inl M_groups)), (a 11, .inl (Y 0, 155, .inl M_told))] H := hP
      have hD : va_D A [(a 0, .inr (11, [.ref (a 1), .ref (a 2), .ref (a 3), .ref (a 4), .int M_isSaved, .int M_changes, .int M_isWithin, .int w12, .ref (a 5), .int M_length, .int M_fault, .int M_failed, .ref (a 6), .int M_signMany, .ref (a 7), .ref (a 8), .int w5, .ref (a 9), .ref (a 10), .int M_at, .ref (a 11), .int M_toldMany])), (a 1, .inl (Y 0, 238, .inl M_g)), (a 2, .inl (Y 0, 1904, .inl M_kept)), (a 3, .inl (Y 0, 238, .inl M_saved)), (a 4, .inl (Y 0, 238, .inl M_before)), (a 5, .inl (Y 0, 60, .inl M_input)), (a 6, .inl (Y 2, 100, .inl M_signs)), (a 7, .inl (Y 0, 6, .inl w3)), (a 8, .inl (Y 0, 6, .inl w4)), (a 9, .inl (Y 0, 2048, .inl M_sums)), (a 10, .inl (Y 0, 2048, .inl M_groups)), (a 11, .inl (Y 0, 155, .inl M_told))] := hD
      refine lv_if_eq (tgt := 32) hx hb dX11_loadOn_25 (by decide) (fun q14 => ?_) (fun q14 => ?_)
      · have hf := wk_t hf q14
        refine lv_aload_n hx hb dX11_loadOn_32 rfl (lv_at hl 0 rfl) ?_
        refine va_get (D := (dC, dI)) (ci := 11) (v := .ref (a 8)) (C := RX11) (T := TX11) (N := 22) hx hb hts in_X11_loadOn_X11 hown hK hP 0 rfl rfl 15 (by decide) (hts _ lk_X11_loadOn_RX11_39) (fun _ h9 => h9) rfl dX11_loadOn_33 ?_
        refine lv_aload_n hx hb dX11_loadOn_36 rfl (lv_at hl 0 rfl) ?_
        refine lv_iload_n hx hb dX11_loadOn_37 rfl (lv_at hl 2 rfl) ?_
        obtain ⟨r15, hr16, hf⟩ := wkb1_s hf
        have hPc := hP.sub (ws' := (wX11 Y a M_g M_kept M_saved M_before M_isSaved M_changes M_isWithin w12 M_input M_length M_fault M_failed M_signs M_signMany w3 w4 w5 M_sums M_groups M_at M_told M_toldMany)) [0, 1, 2, 3, 4, 5, 6, 7, 8, 9, 10, 11] rfl
        refine wk_vi (As := [.int x2]) (rest := [.ref (a 8)]) ⟨hx, hb, hml, hown, hts⟩ (c_X11_placeOf l dC dI Y a M_g M_kept M_saved M_before M_isSaved M_changes M_isWithin w12 M_input M_length M_fault M_failed M_signs M_signMany w3 w4 w5 M_sums M_groups M_at M_told M_toldMany x2 r15 hr16) (cwV 1 hts gX11_loadOn_X11_placeOf rfl rfl rfl (by decide +kernel) ⟨Nat.le_of_ble_eq_true rfl, Nat.le_of_ble_eq_true rfl⟩) hK hPc (va_recv hK hP (ci := 11) (q0 := 0) rfl rfl) rfl hl.1 rfl (Nat.le_of_ble_eq_true rfl) dX11_loadOn_38 ⟨Nat.le_of_ble_eq_true rfl, Nat.le_of_ble_eq_true rfl⟩ ?_
        obtain ⟨h17, hf⟩ := gin_s hf
        refine wk_iald hx hb hK hP 8 0 rfl rfl h17 rfl dX11_loadOn_41 ?_
        obtain ⟨e0, e1, e2, e3, e4⟩ := wke5 hf
        subst e0
        subst e1
        subst e2
        subst e3
        subst e4
        have hP9 := hP.sub (ws' := (wX11 Y a M_g M_kept M_saved M_before M_isSaved M_changes M_isWithin w12 M_input M_length M_fault M_failed M_signs M_signMany w3 w4 w5 M_sums M_groups M_at M_told M_toldMany)) [0, 1, 2, 3, 4, 5, 6, 7, 8, 9, 10, 11] rfl
        have hD9 := hD.sub (ws' := (wX11 Y a M_g M_kept M_saved M_before M_isSaved M_changes M_isWithin w12 M_input M_length M_fault M_failed M_signs M_signMany w3 w4 w5 M_sums M_groups M_at M_told M_toldMany)) [0, 1, 2, 3, 4, 5, 6, 7, 8, 9, 10, 11] (by decide) rfl
        exact W.iret (v := (w4 r15.toNatClampNeg)) hx hb hr (fun t ht hW => ⟨⟨(w4 r15.toNatClampNeg), (), rfl, rfl, by rw [ht]; exact hP9, va_K.moved hW.alike hK, hD9⟩, hS.F ht⟩) hS.2.2 dX11_loadOn_42
      · have hf := wk_f hf q14
        refine lv_iconst (v := 0) hx hb dX11_loadOn_28 (by decide) ?_
        refine lv_goto (tgt := 42) hx hb dX11_loadOn_29 (by decide) ?_
        obtain ⟨e0, e1, e2, e3, e4⟩ := wke5 hf
        subst e0
        subst e1
        subst e2
        subst e3
        subst e4
        have hP9 := hP.sub (ws' := (wX11 Y a M_g M_kept M_saved M_before M_isSaved M_changes M_isWithin w12 M_input M_length M_fault M_failed M_signs M_signMany w3 w4 w5 M_sums M_groups M_at M_told M_toldMany)) [0, 1, 2, 3, 4, 5, 6, 7, 8, 9, 10, 11] rfl
        have hD9 := hD.sub (ws' := (wX11 Y a M_g M_kept M_saved M_before M_isSaved M_changes M_isWithin w12 M_input M_length M_fault M_failed M_signs M_signMany w3 w4 w5 M_sums M_groups M_at M_told M_toldMany)) [0, 1, 2, 3, 4, 5, 6, 7, 8, 9, 10, 11] (by decide) rfl
        exact W.iret (v := 0) hx hb hr (fun t ht hW => ⟨⟨0, (), rfl, rfl, by rw [ht]; exact hP9, va_K.moved hW.alike hK, hD9⟩, hS.F ht⟩) hS.2.2 dX11_loadOn_42
    · have hf := wk_f hf q10
      refine lv_iconst (v := 2) hx hb dX11_loadOn_17 (by decide) ?_
      refine lv_goto (tgt := 22) hx hb dX11_loadOn_18 (by decide) ?_
      obtain ⟨r18, w19, hr20, hf⟩ := wkb2_s hf
      refine wk_evi (As := [.int 2]) (rest := []) (wc := (wX11 Y a M_g M_kept M_saved M_before M_isSaved M_changes M_isWithin w2 M_input M_length M_fault M_failed M_signs M_signMany w3 w4 w5 M_sums M_groups M_at M_told M_toldMany)) (w1 := (wX11 Y a M_g M_kept M_saved M_before M_isSaved M_changes M_isWithin w19 M_input M_length M_fault M_failed M_signs M_signMany w3 w4 w5 M_sums M_groups M_at M_told M_toldMany)) (wr := []) ⟨hx, hb, hml, hown, hts⟩ (c_X11_fails l dC dI Y a M_g M_kept M_saved M_before M_isSaved M_changes M_isWithin w2 M_input M_length M_fault M_failed M_signs M_signMany w3 w4 w5 M_sums M_groups M_at M_told M_toldMany 2 H.size r18 w19 hr20) (cwV 1 hts gX11_loadOn_X11_fails rfl rfl rfl (by decide +kernel) ⟨Nat.le_of_ble_eq_true rfl, Nat.le_of_ble_eq_true rfl⟩) hK hP hD hS hA [0, 1, 2, 3, 4, 5, 6, 7, 8, 9, 10, 11] [] rfl rfl (by decide) (by decide) (by decide) (va_recv hK hP (ci := 11) (q0 := 0) rfl rfl) rfl hl.1 rfl (Nat.le_of_ble_eq_true rfl) dX11_loadOn_22 ⟨Nat.le_of_ble_eq_true rfl, Nat.le_of_ble_eq_true rfl⟩ (fun H locs hP hD hS => ?_)
      have hP : va_P (dC, dI) vwCl [(a 0, .inr (11, [.ref (a 1), .ref (a 2), .ref (a 3), .ref (a 4), .int M_isSaved, .int M_changes, .int M_isWithin, .int w19, .ref (a 5), .int M_length, .int M_fault, .int M_failed, .ref (a 6), .int M_signMany, .ref (a 7), .ref (a 8), .int w5, .ref (a 9), .ref (a 10), .int M_at, .ref (a 11), .int M_toldMany])), (a 1, .inl (Y 0, 238, .inl M_g)), (a 2, .inl (Y 0, 1904, .inl M_kept)), (a 3, .inl (Y 0, 238, .inl M_saved)), (a 4, .inl (Y 0, 238, .inl M_before)), (a 5, .inl (Y 0, 60, .inl M_input)), (a 6, .inl (Y 2, 100, .inl M_signs)), (a 7, .inl (Y 0, 6, .inl w3)), (a 8, .inl (Y 0, 6, .inl w4)), (a 9, .inl (Y 0, 2048, .inl M_sums)), (a 10, .inl (Y 0, 2048, .inl M_groups)), (a 11, .inl (Y 0, 155, .inl M_told))] H := hP
      have hD : va_D A [(a 0, .inr (11, [.ref (a 1), .ref (a 2), .ref (a 3), .ref (a 4), .int M_isSaved, .int M_changes, .int M_isWithin, .int w19, .ref (a 5), .int M_length, .int M_fault, .int M_failed, .ref (a 6), .int M_signMany, .ref (a 7), .ref (a 8), .int w5, .ref (a 9), .ref (a 10), .int M_at, .ref (a 11), .int M_toldMany])), (a 1, .inl (Y 0, 238, .inl M_g)), (a 2, .inl (Y 0, 1904, .inl M_kept)), (a 3, .inl (Y 0, 238, .inl M_saved)), (a 4, .inl (Y 0, 238, .inl M_before)), (a 5, .inl (Y 0, 60, .inl M_input)), (a 6, .inl (Y 2, 100, .inl M_signs)), (a 7, .inl (Y 0, 6, .inl w3)), (a 8, .inl (Y 0, 6, .inl w4)), (a 9, .inl (Y 0, 2048, .inl M_sums)), (a 10, .inl (Y 0, 2048, .inl M_groups)), (a 11, .inl (Y 0, 155, .inl M_told))] := hD
      refine lv_if_eq (tgt := 32) hx hb dX11_loadOn_25 (by decide) (fun q21 => ?_) (fun q21 => ?_)
      · have hf := wk_t hf q21
        refine lv_aload_n hx hb dX11_loadOn_32 rfl (lv_at hl 0 rfl) ?_
        refine va_get (D := (dC, dI)) (ci := 11) (v := .ref (a 8)) (C := RX11) (T := TX11) (N := 22) hx hb hts in_X11_loadOn_X11 hown hK hP 0 rfl rfl 15 (by decide) (hts _ lk_X11_loadOn_RX11_39) (fun _ h9 => h9) rfl dX11_loadOn_33 ?_
        refine lv_aload_n hx hb dX11_loadOn_36 rfl (lv_at hl 0 rfl) ?_
        refine lv_iload_n hx hb dX11_loadOn_37 rfl (lv_at hl 2 rfl) ?_
        obtain ⟨r22, hr23, hf⟩ := wkb1_s hf
        have hPc := hP.sub (ws' := (wX11 Y a M_g M_kept M_saved M_before M_isSaved M_changes M_isWithin w19 M_input M_length M_fault M_failed M_signs M_signMany w3 w4 w5 M_sums M_groups M_at M_told M_toldMany)) [0, 1, 2, 3, 4, 5, 6, 7, 8, 9, 10, 11] rfl
        refine wk_vi (As := [.int x2]) (rest := [.ref (a 8)]) ⟨hx, hb, hml, hown, hts⟩ (c_X11_placeOf l dC dI Y a M_g M_kept M_saved M_before M_isSaved M_changes M_isWithin w19 M_input M_length M_fault M_failed M_signs M_signMany w3 w4 w5 M_sums M_groups M_at M_told M_toldMany x2 r22 hr23) (cwV 1 hts gX11_loadOn_X11_placeOf rfl rfl rfl (by decide +kernel) ⟨Nat.le_of_ble_eq_true rfl, Nat.le_of_ble_eq_true rfl⟩) hK hPc (va_recv hK hP (ci := 11) (q0 := 0) rfl rfl) rfl hl.1 rfl (Nat.le_of_ble_eq_true rfl) dX11_loadOn_38 ⟨Nat.le_of_ble_eq_true rfl, Nat.le_of_ble_eq_true rfl⟩ ?_
        obtain ⟨h24, hf⟩ := gin_s hf
        refine wk_iald hx hb hK hP 8 0 rfl rfl h24 rfl dX11_loadOn_41 ?_
        obtain ⟨e0, e1, e2, e3, e4⟩ := wke5 hf
        subst e0
        subst e1
        subst e2
        subst e3
        subst e4
        have hP9 := hP.sub (ws' := (wX11 Y a M_g M_kept M_saved M_before M_isSaved M_changes M_isWithin w19 M_input M_length M_fault M_failed M_signs M_signMany w3 w4 w5 M_sums M_groups M_at M_told M_toldMany)) [0, 1, 2, 3, 4, 5, 6, 7, 8, 9, 10, 11] rfl
        have hD9 := hD.sub (ws' := (wX11 Y a M_g M_kept M_saved M_before M_isSaved M_changes M_isWithin w19 M_input M_length M_fault M_failed M_signs M_signMany w3 w4 w5 M_sums M_groups M_at M_told M_toldMany)) [0, 1, 2, 3, 4, 5, 6, 7, 8, 9, 10, 11] (by decide) rfl
        exact W.iret (v := (w4 r22.toNatClampNeg)) hx hb hr (fun t ht hW => ⟨⟨(w4 r22.toNatClampNeg), (), rfl, rfl, by rw [ht]; exact hP9, va_K.moved hW.alike hK, hD9⟩, hS.F ht⟩) hS.2.2 dX11_loadOn_42
      · have hf := wk_f hf q21
        refine lv_iconst (v := 0) hx hb dX11_loadOn_28 (by decide) ?_
        refine lv_goto (tgt := 42) hx hb dX11_loadOn_29 (by decide) ?_
        obtain ⟨e0, e1, e2, e3, e4⟩ := wke5 hf
        subst e0
        subst e1
        subst e2
        subst e3
        subst e4
        have hP9 := hP.sub (ws' := (wX11 Y a M_g M_kept M_saved M_before M_isSaved M_changes M_isWithin w19 M_input M_length M_fault M_failed M_signs M_signMany w3 w4 w5 M_sums M_groups M_at M_told M_toldMany)) [0, 1, 2, 3, 4, 5, 6, 7, 8, 9, 10, 11] rfl
        have hD9 := hD.sub (ws' := (wX11 Y a M_g M_kept M_saved M_before M_isSaved M_changes M_isWithin w19 M_input M_length M_fault M_failed M_signs M_signMany w3 w4 w5 M_sums M_groups M_at M_told M_toldMany)) [0, 1, 2, 3, 4, 5, 6, 7, 8, 9, 10, 11] (by decide) rfl
        exact W.iret (v := 0) hx hb hr (fun t ht hW => ⟨⟨0, (), rfl, rfl, by rw [ht]; exact hP9, va_K.moved hW.alike hK, hD9⟩, hS.F ht⟩) hS.2.2 dX11_loadOn_42
def f_X11_columnHeight (M_g : Nat → Int32) (M_code : Int32) (M_column : Nat → Int32) (M_loads : Nat → Int32) (M_many : Int32) (x1 : Int32) : Option (Int32 × Int32 × (Nat → Int32) × (Nat → Int32) × Int32) :=
  wkb5 (f_X11_isWrong M_g M_code M_column M_loads M_many x1) (fun r1 w2 w3 w4 w5 =>
  if r1 = 0 then
    (wkb1 (f_X11_tall M_g x1) (fun r8 =>
    some (r8, w2, w3, w4, w5)))
  else
    (some (0, w2, w3, w4, w5)))
set_option maxHeartbeats 4000000 in
set_option maxRecDepth 100000 in
theorem c_X11_columnHeight (l : Launch) (dC : Nat → ClassId) (dI : Nat → Nat → Nat) (Y : Nat → ClassId) (a : Nat → Nat) (M_g : Nat → Int32) (M_kept : Nat → Int32) (M_saved : Nat → Int32) (M_before : Nat → Int32) (M_isSaved : Int32) (M_changes : Int32) (M_isWithin : Int32) (M_code : Int32) (M_input : Nat → Int32) (M_length : Int32) (M_fault : Int32) (M_failed : Int32) (M_signs : Nat → Int32) (M_signMany : Int32) (M_column : Nat → Int32) (M_loads : Nat → Int32) (M_many : Int32) (M_sums : Nat → Int32) (M_groups : Nat → Int32) (M_at : Int32) (M_told : Nat → Int32) (M_toldMany : Int32) (x1 : Int32) (sz : Nat) (r : Int32) (zM_code : Int32) (zM_column : Nat → Int32) (zM_loads : Nat → Int32) (zM_many : Int32) (hf : f_X11_columnHeight M_g M_code M_column M_loads M_many x1 = some (r, zM_code, zM_column, zM_loads, zM_many)) : Met l yX11_columnHeight wsX11_columnHeight ({ frames := 4, cells := 0, slots := 0, locals := 89 } : Room) (va_Pc [.ref (a 0), .int x1] (wk_E (dC, dI) Y (wX11 Y a M_g M_kept M_saved M_before M_isSaved M_changes M_isWithin M_code M_input M_length M_fault M_failed M_signs M_signMany M_column M_loads M_many M_sums M_groups M_at M_told M_toldMany) sz)) (va_Qi (fun r2 (_ : Unit) => r2 = r) (fun _ t => wk_X (dC, dI) Y (wX11 Y a M_g M_kept M_saved M_before M_isSaved M_changes M_isWithin zM_code M_input M_length M_fault M_failed M_signs M_signMany zM_column zM_loads zM_many M_sums M_groups M_at M_told M_toldMany) (va_A (wX11 Y a M_g M_kept M_saved M_before M_isSaved M_changes M_isWithin M_code M_input M_length M_fault M_failed M_signs M_signMany M_column M_loads M_many M_sums M_groups M_at M_told M_toldMany) sz) t) (va_A (wX11 Y a M_g M_kept M_saved M_before M_isSaved M_changes M_isWithin M_code M_input M_length M_fault M_failed M_signs M_signMany M_column M_loads M_many M_sums M_groups M_at M_told M_toldMany) sz)) 0 0 (va_A (wX11 Y a M_g M_kept M_saved M_before M_isSaved M_changes M_isWithin M_code M_input M_length M_fault M_failed M_signs M_signMany M_column M_loads M_many M_sums M_groups M_at M_told M_toldMany) sz) := by
  refine Met.ofW (cc := cX11_columnHeight) (maxL := 2) (ret := (some .int)) (by decide) rfl ?_
  intro p e s m args below meth c s₁ B hml hv
  obtain ⟨rfl, hsz, hP, hK, hD0⟩ := hv
  have hx := B.exec
  have hb := B.bytes
  have hr := B.returns
  have hts := atoms_spec (ws := wsX11_columnHeight) B.pre
  have hown : s.vm.findClass RX11 = some m.cls := findClass_of_methodNamed B.named
  have hlocks := B.notSynchronized
  have C0 : wk_C p s m _ meth c cX11_columnHeight 2 (some .int) wsX11_columnHeight RX11 := ⟨hx, hb, hml, hr, hlocks, hown, hts⟩
  subst hsz
  have hD := hD0.self (sz := s.heap.size)
  generalize hAe : va_A (wX11 Y a M_g M_kept M_saved M_before M_isSaved M_changes M_isWithin M_code M_input M_length M_fault M_failed M_signs M_signMany M_column M_loads M_many M_sums M_groups M_at M_told M_toldMany) s.heap.size = A at hD ⊢
  have hA : ∀ q : Nat, s.heap.size ≤ q → A q := fun q h => by rw [← hAe]; exact Or.inr h
  have hS : va_S A s.heap s.heap [] := va_S.rf
  obtain ⟨H, hHe⟩ : ∃ H, H = s.heap := ⟨_, rfl⟩
  have hS : va_S A s.heap H [] := by rw [hHe]; exact hS
  have hP : va_P (dC, dI) vwCl [(a 0, .inr (11, [.ref (a 1), .ref (a 2), .ref (a 3), .ref (a 4), .int M_isSaved, .int M_changes, .int M_isWithin, .int M_code, .ref (a 5), .int M_length, .int M_fault, .int M_failed, .ref (a 6), .int M_signMany, .ref (a 7), .ref (a 8), .int M_many, .ref (a 9), .ref (a 10), .int M_at, .ref (a 11), .int M_toldMany])), (a 1, .inl (Y 0, 238, .inl M_g)), (a 2, .inl (Y 0, 1904, .inl M_kept)), (a 3, .inl (Y 0, 238, .inl M_saved)), (a 4, .inl (Y 0, 238, .inl M_before)), (a 5, .inl (Y 0, 60, .inl M_input)), (a 6, .inl (Y 2, 100, .inl M_signs)), (a 7, .inl (Y 0, 6, .inl M_column)), (a 8, .inl (Y 0, 6, .inl M_loads)), (a 9, .inl (Y 0, 2048, .inl M_sums)), (a 10, .inl (Y 0, 2048, .inl M_groups)), (a 11, .inl (Y 0, 155, .inl M_told))] H := by rw [hHe]; exact hP
  have hD : va_D A [(a 0, .inr (11, [.ref (a 1), .ref (a 2), .ref (a 3), .ref (a 4), .int M_isSaved, .int M_changes, .int M_isWithin, .int M_code, .ref (a 5), .int M_length, .int M_fault, .int M_failed, .ref (a 6), .int M_signMany, .ref (a 7), .ref (a 8), .int M_many, .ref (a 9), .ref (a 10), .int M_at, .ref (a 11), .int M_toldMany])), (a 1, .inl (Y 0, 238, .inl M_g)), (a 2, .inl (Y 0, 1904, .inl M_kept)), (a 3, .inl (Y 0, 238, .inl M_saved)), (a 4, .inl (Y 0, 238, .inl M_before)), (a 5, .inl (Y 0, 60, .inl M_input)), (a 6, .inl (Y 2, 100, .inl M_signs)), (a 7, .inl (Y 0, 6, .inl M_column)), (a 8, .inl (Y 0, 6, .inl M_loads)), (a 9, .inl (Y 0, 2048, .inl M_sums)), (a 10, .inl (Y 0, 2048, .inl M_groups)), (a 11, .inl (Y 0, 155, .inl M_told))] := hD
  obtain ⟨locs, hlo⟩ : ∃ locs : List Loc, locs = [] := ⟨_, rfl⟩
  have hS : va_S A s.heap H locs := by rw [hlo]; exact hS
  have hl := lv_entry ([.ref (a 0), .int x1]) (n := 2) (Nat.le_of_ble_eq_true rfl)
  rw [lg_entry_eq]
  generalize (lg_sl ([.ref (a 0), .int x1]) ++ List.replicate (2 - (lg_sl ([.ref (a 0), .int x1])).length) Slot.unset).toArray = ls at hl ⊢
  have hl : lv_has ls 2 [(0, .ref (a 0)), (1, .int x1)] := hl
  refine wk_start hHe hlo ?_
  rw [f_X11_columnHeight] at hf
  refine lv_aload_n hx hb dX11_columnHeight_0 rfl (lv_at hl 0 rfl) ?_
  refine lv_iload_n hx hb dX11_columnHeight_1 rfl (lv_at hl 1 rfl) ?_
  obtain ⟨r1, w2, w3, w4, w5, hr6, hf⟩ := wkb5_s hf
  refine wk_evi (As := [.int x1]) (rest := []) (wc := (wX11 Y a M_g M_kept M_saved M_before M_isSaved M_changes M_isWithin M_code M_input M_length M_fault M_failed M_signs M_signMany M_column M_loads M_many M_sums M_groups M_at M_told M_toldMany)) (w1 := (wX11 Y a M_g M_kept M_saved M_before M_isSaved M_changes M_isWithin w2 M_input M_length M_fault M_failed M_signs M_signMany w3 w4 w5 M_sums M_groups M_at M_told M_toldMany)) (wr := []) ⟨hx, hb, hml, hown, hts⟩ (c_X11_isWrong l dC dI Y a M_g M_kept M_saved M_before M_isSaved M_changes M_isWithin M_code M_input M_length M_fault M_failed M_signs M_signMany M_column M_loads M_many M_sums M_groups M_at M_told M_toldMany x1 H.size r1 w2 w3 w4 w5 hr6) (cwV 1 hts gX11_columnHeight_X11_isWrong rfl rfl rfl (by decide +kernel) ⟨Nat.le_of_ble_eq_true rfl, Nat.le_of_ble_eq_true rfl⟩) hK hP hD hS hA [0, 1, 2, 3, 4, 5, 6, 7, 8, 9, 10, 11] [] rfl rfl (by decide) (by decide) (by decide) (va_recv hK hP (ci := 11) (q0 := 0) rfl rfl) rfl hl.1 rfl (Nat.le_of_ble_eq_true rfl) dX11_columnHeight_2 ⟨Nat.le_of_ble_eq_true rfl, Nat.le_of_ble_eq_true rfl⟩ (fun H locs hP hD hS => ?_)
  have hP : va_P (dC, dI) vwCl [(a 0, .inr (11, [.ref (a 1), .ref (a 2), .ref (a 3), .ref (a 4), .int M_isSaved, .int M_changes, .int M_isWithin, .int w2, .ref (a 5), .int M_length, .int M_fault, .int M_failed, .ref (a 6), .int M_signMany, .ref (a 7), .ref (a 8), .int w5, .ref (a 9), .ref (a 10), .int M_at, .ref (a 11), .int M_toldMany])), (a 1, .inl (Y 0, 238, .inl M_g)), (a 2, .inl (Y 0, 1904, .inl M_kept)), (a 3, .inl (Y 0, 238, .inl M_saved)), (a 4, .inl (Y 0, 238, .inl M_before)), (a 5, .inl (Y 0, 60, .inl M_input)), (a 6, .inl (Y 2, 100, .inl M_signs)), (a 7, .inl (Y 0, 6, .inl w3)), (a 8, .inl (Y 0, 6, .inl w4)), (a 9, .inl (Y 0, 2048, .inl M_sums)), (a 10, .inl (Y 0, 2048, .inl M_groups)), (a 11, .inl (Y 0, 155, .inl M_told))] H := hP
  have hD : va_D A [(a 0, .inr (11, [.ref (a 1), .ref (a 2), .ref (a 3), .ref (a 4), .int M_isSaved, .int M_changes, .int M_isWithin, .int w2, .ref (a 5), .int M_length, .int M_fault, .int M_failed, .ref (a 6), .int M_signMany, .ref (a 7), .ref (a 8), .int w5, .ref (a 9), .ref (a 10), .int M_at, .ref (a 11), .int M_toldMany])), (a 1, .inl (Y 0, 238, .inl M_g)), (a 2, .inl (Y 0, 1904, .inl M_kept)), (a 3, .inl (Y 0, 238, .inl M_saved)), (a 4, .inl (Y 0, 238, .inl M_before)), (a 5, .inl (Y 0, 60, .inl M_input)), (a 6, .inl (Y 2, 100, .inl M_signs)), (a 7, .inl (Y 0, 6, .inl w3)), (a 8, .inl (Y 0, 6, .inl w4)), (a 9, .inl (Y 0, 2048, .inl M_sums)), (a 10, .inl (Y 0, 2048, .inl M_groups)), (a 11, .inl (Y 0, 155, .inl M_told))] := hD
  refine lv_if_eq (tgt := 12) hx hb dX11_columnHeight_5 (by decide) (fun q7 => ?_) (fun q7 => ?_)
  · have hf := wk_t hf q7
    refine lv_aload_n hx hb dX11_columnHeight_12 rfl (lv_at hl 0 rfl) ?_
    refine lv_iload_n hx hb dX11_columnHeight_13 rfl (lv_at hl 1 rfl) ?_
    obtain ⟨r8, hr9, hf⟩ := wkb1_s hf
    have hPc := hP.sub (ws' := (wX11 Y a M_g M_kept M_saved M_before M_isSaved M_changes M_isWithin w2 M_input M_length M_fault M_failed M_signs M_signMany w3 w4 w5 M_sums M_groups M_at M_told M_toldMany)) [0, 1, 2, 3, 4, 5, 6, 7, 8, 9, 10, 11] rfl
    refine wk_vi (As := [.int x1]) (rest := []) ⟨hx, hb, hml, hown, hts⟩ (c_X11_tall l dC dI Y a M_g M_kept M_saved M_before M_isSaved M_changes M_isWithin w2 M_input M_length M_fault M_failed M_signs M_signMany w3 w4 w5 M_sums M_groups M_at M_told M_toldMany x1 r8 hr9) (cwV 1 hts gX11_columnHeight_X11_tall rfl rfl rfl (by decide +kernel) ⟨Nat.le_of_ble_eq_true rfl, Nat.le_of_ble_eq_true rfl⟩) hK hPc (va_recv hK hP (ci := 11) (q0 := 0) rfl rfl) rfl hl.1 rfl (Nat.le_of_ble_eq_true rfl) dX11_columnHeight_14 ⟨Nat.le_of_ble_eq_true rfl, Nat.le_of_ble_eq_true rfl⟩ ?_
    obtain ⟨e0, e1, e2, e3, e4⟩ := wke5 hf
    subst e0
    subst e1
    subst e2
    subst e3
    subst e4
    have hP9 := hP.sub (ws' := (wX11 Y a M_g M_kept M_saved M_before M_isSaved M_changes M_isWithin w2 M_input M_length M_fault M_failed M_signs M_signMany w3 w4 w5 M_sums M_groups M_at M_told M_toldMany)) [0, 1, 2, 3, 4, 5, 6, 7, 8, 9, 10, 11] rfl
    have hD9 := hD.sub (ws' := (wX11 Y a M_g M_kept M_saved M_before M_isSaved M_changes M_isWithin w2 M_input M_length M_fault M_failed M_signs M_signMany w3 w4 w5 M_sums M_groups M_at M_told M_toldMany)) [0, 1, 2, 3, 4, 5, 6, 7, 8, 9, 10, 11] (by decide) rfl
    exact W.iret (v := r8) hx hb hr (fun t ht hW => ⟨⟨r8, (), rfl, rfl, by rw [ht]; exact hP9, va_K.moved hW.alike hK, hD9⟩, hS.F ht⟩) hS.2.2 dX11_columnHeight_17
  · have hf := wk_f hf q7
    refine lv_iconst (v := 0) hx hb dX11_columnHeight_8 (by decide) ?_
    refine lv_goto (tgt := 17) hx hb dX11_columnHeight_9 (by decide) ?_
    obtain ⟨e0, e1, e2, e3, e4⟩ := wke5 hf
    subst e0
    subst e1
    subst e2
    subst e3
    subst e4
    have hP9 := hP.sub (ws' := (wX11 Y a M_g M_kept M_saved M_before M_isSaved M_changes M_isWithin w2 M_input M_length M_fault M_failed M_signs M_signMany w3 w4 w5 M_sums M_groups M_at M_told M_toldMany)) [0, 1, 2, 3, 4, 5, 6, 7, 8, 9, 10, 11] rfl
    have hD9 := hD.sub (ws' := (wX11 Y a M_g M_kept M_saved M_before M_isSaved M_changes M_isWithin w2 M_input M_length M_fault M_failed M_signs M_signMany w3 w4 w5 M_sums M_groups M_at M_told M_toldMany)) [0, 1, 2, 3, 4, 5, 6, 7, 8, 9, 10, 11] (by decide) rfl
    exact W.iret (v := 0) hx hb hr (fun t ht hW => ⟨⟨0, (), rfl, rfl, by rw [ht]; exact hP9, va_K.moved hW.alike hK, hD9⟩, hS.F ht⟩) hS.2.2 dX11_columnHeight_17
theorem lk_X11_overloaded_RX11_36 : Cond.fieldLink RX11 36 "CircusLedgerModel" "column" "[I" ∈ wsX11_overloaded := by decide +kernel
theorem in_X11_overloaded_X11 : ∀ w ∈ u_ws RX11 TX11 22, w ∈ wsX11_overloaded := by decide +kernel
def f_X11_overloaded (M_g : Nat → Int32) (M_code : Int32) (M_column : Nat → Int32) (M_loads : Nat → Int32) (M_many : Int32) (x1 : Int32) : Option (Int32 × Int32 × (Nat → Int32) × (Nat → Int32) × Int32) :=
  wkb5 (f_X11_isWrong M_g M_code M_column M_loads M_many x1) (fun r1 w2 w3 w4 w5 =>
  if r1 = 0 then
    (wkb1 (f_X11_breaks M_g w3 w4 w5) (fun r8 =>
    if (0 : Int32) ≤ r8 then
      (wkb2 (f_X11_fails w2 0) (fun r11 w12 =>
      if r11 = 0 then
        (wkb1 (f_X11_breaks M_g w3 w4 w5) (fun r15 =>
        gin r15 6 (some ((w3 r15.toNatClampNeg), w12, w3, w4, w5))))
      else
        (some (0, w12, w3, w4, w5))))
    else
      (wkb2 (f_X11_fails w2 2) (fun r18 w19 =>
      if r18 = 0 then
        (wkb1 (f_X11_breaks M_g w3 w4 w5) (fun r22 =>
        gin r22 6 (some ((w3 r22.toNatClampNeg), w19, w3, w4, w5))))
      else
        (some (0, w19, w3, w4, w5))))))
  else
    (some (0, w2, w3, w4, w5)))
set_option maxHeartbeats 4000000 in
set_option maxRecDepth 100000 in
theorem c_X11_overloaded (l : Launch) (dC : Nat → ClassId) (dI : Nat → Nat → Nat) (Y : Nat → ClassId) (a : Nat → Nat) (M_g : Nat → Int32) (M_kept : Nat → Int32) (M_saved : Nat → Int32) (M_before : Nat → Int32) (M_isSaved : Int32) (M_changes : Int32) (M_isWithin : Int32) (M_code : Int32) (M_input : Nat → Int32) (M_length : Int32) (M_fault : Int32) (M_failed : Int32) (M_signs : Nat → Int32) (M_signMany : Int32) (M_column : Nat → Int32) (M_loads : Nat → Int32) (M_many : Int32) (M_sums : Nat → Int32) (M_groups : Nat → Int32) (M_at : Int32) (M_told : Nat → Int32) (M_toldMany : Int32) (x1 : Int32) (sz : Nat) (r : Int32) (zM_code : Int32) (zM_column : Nat → Int32) (zM_loads : Nat → Int32) (zM_many : Int32) (hf : f_X11_overloaded M_g M_code M_column M_loads M_many x1 = some (r, zM_code, zM_column, zM_loads, zM_many)) : Met l yX11_overloaded wsX11_overloaded ({ frames := 4, cells := 0, slots := 0, locals := 89 } : Room) (va_Pc [.ref (a 0), .int x1] (wk_E (dC, dI) Y (wX11 Y a M_g M_kept M_saved M_before M_isSaved M_changes M_isWithin M_code M_input M_length M_fault M_failed M_signs M_signMany M_column M_loads M_many M_sums M_groups M_at M_told M_toldMany) sz)) (va_Qi (fun r2 (_ : Unit) => r2 = r) (fun _ t => wk_X (dC, dI) Y (wX11 Y a M_g M_kept M_saved M_before M_isSaved M_changes M_isWithin zM_code M_input M_length M_fault M_failed M_signs M_signMany zM_column zM_loads zM_many M_sums M_groups M_at M_told M_toldMany) (va_A (wX11 Y a M_g M_kept M_saved M_before M_isSaved M_changes M_isWithin M_code M_input M_length M_fault M_failed M_signs M_signMany M_column M_loads M_many M_sums M_groups M_at M_told M_toldMany) sz) t) (va_A (wX11 Y a M_g M_kept M_saved M_before M_isSaved M_changes M_isWithin M_code M_input M_length M_fault M_failed M_signs M_signMany M_column M_loads M_many M_sums M_groups M_at M_told M_toldMany) sz)) 0 0 (va_A (wX11 Y a M_g M_kept M_saved M_before M_isSaved M_changes M_isWithin M_code M_input M_length M_fault M_failed M_signs M_signMany M_column M_loads M_many M_sums M_groups M_at M_told M_toldMany) sz) := by
  refine Met.ofW (cc := cX11_overloaded) (maxL := 2) (ret := (some .int)) (by decide) rfl ?_
  intro p e s m args below meth c s₁ B hml hv
  obtain ⟨rfl, hsz, hP, hK, hD0⟩ := hv
  have hx := B.exec
  have hb := B.bytes
  have hr := B.returns
  have hts := atoms_spec (ws := wsX11_overloaded) B.pre
  have hown : s.vm.findClass RX11 = some m.cls := findClass_of_methodNamed B.named
  have hlocks := B.notSynchronized
  have C0 : wk_C p s m _ meth c cX11_overloaded 2 (some .int) wsX11_overloaded RX11 := ⟨hx, hb, hml, hr, hlocks, hown, hts⟩
  subst hsz
  have hD := hD0.self (sz := s.heap.size)
  generalize hAe : va_A (wX11 Y a M_g M_kept M_saved M_before M_isSaved M_changes M_isWithin M_code M_input M_length M_fault M_failed M_signs M_signMany M_column M_loads M_many M_sums M_groups M_at M_told M_toldMany) s.heap.size = A at hD ⊢
  have hA : ∀ q : Nat, s.heap.size ≤ q → A q := fun q h => by rw [← hAe]; exact Or.inr h
  have hS : va_S A s.heap s.heap [] := va_S.rf
  obtain ⟨H, hHe⟩ : ∃ H, H = s.heap := ⟨_, rfl⟩
  have hS : va_S A s.heap H [] := by rw [hHe]; exact hS
  have hP : va_P (dC, dI) vwCl [(a 0, .inr (11, [.ref (a 1), .ref (a 2), .ref (a 3), .ref (a 4), .int M_isSaved, .int M_changes, .int M_isWithin, .int M_code, .ref (a 5), .int M_length, .int M_fault, .int M_failed, .ref (a 6), .int M_signMany, .ref (a 7), .ref (a 8), .int M_many, .ref (a 9), .ref (a 10), .int M_at, .ref (a 11), .int M_toldMany])), (a 1, .inl (Y 0, 238, .inl M_g)), (a 2, .inl (Y 0, 1904, .inl M_kept)), (a 3, .inl (Y 0, 238, .inl M_saved)), (a 4, .inl (Y 0, 238, .inl M_before)), (a 5, .inl (Y 0, 60, .inl M_input)), (a 6, .inl (Y 2, 100, .inl M_signs)), (a 7, .inl (Y 0, 6, .inl M_column)), (a 8, .inl (Y 0, 6, .inl M_loads)), (a 9, .inl (Y 0, 2048, .inl M_sums)), (a 10, .inl (Y 0, 2048, .inl M_groups)), (a 11, .inl (Y 0, 155, .inl M_told))] H := by rw [hHe]; exact hP
  have hD : va_D A [(a 0, .inr (11, [.ref (a 1), .ref (a 2), .ref (a 3), .ref (a 4), .int M_isSaved, .int M_changes, .int M_isWithin, .int M_code, .ref (a 5), .int M_length, .int M_fault, .int M_failed, .ref (a 6), .int M_signMany, .ref (a 7), .ref (a 8), .int M_many, .ref (a 9), .ref (a 10), .int M_at, .ref (a 11), .int M_toldMany])), (a 1, .inl (Y 0, 238, .inl M_g)), (a 2, .inl (Y 0, 1904, .inl M_kept)), (a 3, .inl (Y 0, 238, .inl M_saved)), (a 4, .inl (Y 0, 238, .inl M_before)), (a 5, .inl (Y 0, 60, .inl M_input)), (a 6, .inl (Y 2, 100, .inl M_signs)), (a 7, .inl (Y 0, 6, .inl M_column)), (a 8, .inl (Y 0, 6, .inl M_loads)), (a 9, .inl (Y 0, 2048, .inl M_sums)), (a 10, .inl (Y 0, 2048, .inl M_groups)), (a 11, .inl (Y 0, 155, .inl M_told))] := hD
  obtain ⟨locs, hlo⟩ : ∃ locs : List Loc, locs = [] := ⟨_, rfl⟩
  have hS : va_S A s.heap H locs := by rw [hlo]; exact hS
  have hl := lv_entry ([.ref (a 0), .int x1]) (n := 2) (Nat.le_of_ble_eq_true rfl)
  rw [lg_entry_eq]
  generalize (lg_sl ([.ref (a 0), .int x1]) ++ List.replicate (2 - (lg_sl ([.ref (a 0), .int x1])).length) Slot.unset).toArray = ls at hl ⊢
  have hl : lv_has ls 2 [(0, .ref (a 0)), (1, .int x1)] := hl
  refine wk_start hHe hlo ?_
  rw [f_X11_overloaded] at hf
  refine lv_aload_n hx hb dX11_overloaded_0 rfl (lv_at hl 0 rfl) ?_
  refine lv_iload_n hx hb dX11_overloaded_1 rfl (lv_at hl 1 rfl) ?_
  obtain ⟨r1, w2, w3, w4, w5, hr6, hf⟩ := wkb5_s hf
  refine wk_evi (As := [.int x1]) (rest := []) (wc := (wX11 Y a M_g M_kept M_saved M_before M_isSaved M_changes M_isWithin M_code M_input M_length M_fault M_failed M_signs M_signMany M_column M_loads M_many M_sums M_groups M_at M_told M_toldMany)) (w1 := (wX11 Y a M_g M_kept M_saved M_before M_isSaved M_changes M_isWithin w2 M_input M_length M_fault M_failed M_signs M_signMany w3 w4 w5 M_sums M_groups M_at M_told M_toldMany)) (wr := []) ⟨hx, hb, hml, hown, hts⟩ (c_X11_isWrong l dC dI Y a M_g M_kept M_saved M_before M_isSaved M_changes M_isWithin M_code M_input M_length M_fault M_failed M_signs M_signMany M_column M_loads M_many M_sums M_groups M_at M_told M_toldMany x1 H.size r1 w2 w3 w4 w5 hr6) (cwV 1 hts gX11_overloaded_X11_isWrong rfl rfl rfl (by decide +kernel) ⟨Nat.le_of_ble_eq_true rfl, Nat.le_of_ble_eq_true rfl⟩) hK hP hD hS hA [0, 1, 2, 3, 4, 5, 6, 7, 8, 9, 10, 11] [] rfl rfl (by decide) (by decide) (by decide) (va_recv hK hP (ci := 11) (q0 := 0) rfl rfl) rfl hl.1 rfl (Nat.le_of_ble_eq_true rfl) dX11_overloaded_2 ⟨Nat.le_of_ble_eq_true rfl, Nat.le_of_ble_eq_true rfl⟩ (fun H locs hP hD hS => ?_)
  have hP : va_P (dC, dI) vwCl [(a 0, .inr (11, [.ref (a 1), .ref (a 2), .ref (a 3), .ref (a 4), .int M_isSaved, .int M_changes, .int M_isWithin, .int w2, .ref (a 5), .int M_length, .int M_fault, .int M_failed, .ref (a 6), .int M_signMany, .ref (a 7), .ref (a 8), .int w5, .ref (a 9), .ref (a 10), .int M_at, .ref (a 11), .int M_toldMany])), (a 1, .inl (Y 0, 238, .inl M_g)), (a 2, .inl (Y 0, 1904, .inl M_kept)), (a 3, .inl (Y 0, 238, .inl M_saved)), (a 4, .inl (Y 0, 238, .inl M_before)), (a 5, .inl (Y 0, 60, .inl M_input)), (a 6, .inl (Y 2, 100, .inl M_signs)), (a 7, .inl (Y 0, 6, .inl w3)), (a 8, .inl (Y 0, 6, .inl w4)), (a 9, .inl (Y 0, 2048, .inl M_sums)), (a 10, .inl (Y 0, 2048, .inl M_groups)), (a 11, .inl (Y 0, 155, .inl M_told))] H := hP
  have hD : va_D A [(a 0, .inr (11, [.ref (a 1), .ref (a 2), .ref (a 3), .ref (a 4), .int M_isSaved, .int M_changes, .int M_isWithin, .int w2, .ref (a 5), .int M_length, .int M_fault, .int M_failed, .ref (a 6), .int M_signMany, .ref (a 7), .ref (a 8), .int w5, .ref (a 9), .ref (a 10), .int M_at, .ref (a 11), .int M_toldMany])), (a 1, .inl (Y 0, 238, .inl M_g)), (a 2, .inl (Y 0, 1904, .inl M_kept)), (a 3, .inl (Y 0, 238, .inl M_saved)), (a 4, .inl (Y 0, 238, .inl M_before)), (a 5, .inl (Y 0, 60, .inl M_input)), (a 6, .inl (Y 2, 100, .inl M_signs)), (a 7, .inl (Y 0, 6, .inl w3)), (a 8, .inl (Y 0, 6, .inl w4)), (a 9, .inl (Y 0, 2048, .inl M_sums)), (a 10, .inl (Y 0, 2048, .inl M_groups)), (a 11, .inl (Y 0, 155, .inl M_told))] := hD
  refine lv_if_ne (tgt := 27) hx hb dX11_overloaded_5 (by decide) (fun q7 => ?_) (fun q7 => ?_)
  · have hf := wk_f hf q7
    refine lv_iconst (v := 0) hx hb dX11_overloaded_27 (by decide) ?_
    refine lv_goto (tgt := 40) hx hb dX11_overloaded_28 (by decide) ?_
    obtain ⟨e0, e1, e2, e3, e4⟩ := wke5 hf
    subst e0
    subst e1
    subst e2
    subst e3
    subst e4
    have hP9 := hP.sub (ws' := (wX11 Y a M_g M_kept M_saved M_before M_isSaved M_changes M_isWithin w2 M_input M_length M_fault M_failed M_signs M_signMany w3 w4 w5 M_sums M_groups M_at M_told M_toldMany)) [0, 1, 2, 3, 4, 5, 6, 7, 8, 9, 10, 11] rfl
    have hD9 := hD.sub (ws' := (wX11 Y a M_g M_kept M_saved M_before M_isSaved M_changes M_isWithin w2 M_input M_length M_fault M_failed M_signs M_signMany w3 w4 w5 M_sums M_groups M_at M_told M_toldMany)) [0, 1, 2, 3, 4, 5, 6, 7, 8, 9, 10, 11] (by decide) rfl
    exact W.iret (v := 0) hx hb hr (fun t ht hW => ⟨⟨0, (), rfl, rfl, by rw [ht]; exact hP9, va_K.moved hW.alike hK, hD9⟩, hS.F ht⟩) hS.2.2 dX11_overloaded_40
  · have hf := wk_t hf q7
    refine lv_aload_n hx hb dX11_overloaded_8 rfl (lv_at hl 0 rfl) ?_
    refine lv_aload_n hx hb dX11_overloaded_9 rfl (lv_at hl 0 rfl) ?_
    obtain ⟨r8, hr9, hf⟩ := wkb1_s hf
    have hPc := hP.sub (ws' := (wX11 Y a M_g M_kept M_saved M_before M_isSaved M_changes M_isWithin w2 M_input M_length M_fault M_failed M_signs M_signMany w3 w4 w5 M_sums M_groups M_at M_told M_toldMany)) [0, 1, 2, 3, 4, 5, 6, 7, 8, 9, 10, 11] rfl
    refine wk_vi (As := []) (rest := [.ref (a 0)]) ⟨hx, hb, hml, hown, hts⟩ (c_X11_breaks l dC dI Y a M_g M_kept M_saved M_before M_isSaved M_changes M_isWithin w2 M_input M_length M_fault M_failed M_signs M_signMany w3 w4 w5 M_sums M_groups M_at M_told M_toldMany r8 hr9) (cwV 0 hts gX11_overloaded_X11_breaks rfl rfl rfl (by decide +kernel) ⟨Nat.le_of_ble_eq_true rfl, Nat.le_of_ble_eq_true rfl⟩) hK hPc (va_recv hK hP (ci := 11) (q0 := 0) rfl rfl) rfl hl.1 rfl (Nat.le_of_ble_eq_true rfl) dX11_overloaded_10 ⟨Nat.le_of_ble_eq_true rfl, Nat.le_of_ble_eq_true rfl⟩ ?_
    refine lv_if_ge (tgt := 20) hx hb dX11_overloaded_13 (by decide) (fun q10 => ?_) (fun q10 => ?_)
    · have hf := wk_t hf q10
      refine lv_iconst (v := 0) hx hb dX11_overloaded_20 (by decide) ?_
      obtain ⟨r11, w12, hr13, hf⟩ := wkb2_s hf
      refine wk_evi (As := [.int 0]) (rest := []) (wc := (wX11 Y a M_g M_kept M_saved M_before M_isSaved M_changes M_isWithin w2 M_input M_length M_fault M_failed M_signs M_signMany w3 w4 w5 M_sums M_groups M_at M_told M_toldMany)) (w1 := (wX11 Y a M_g M_kept M_saved M_before M_isSaved M_changes M_isWithin w12 M_input M_length M_fault M_failed M_signs M_signMany w3 w4 w5 M_sums M_groups M_at M_told M_toldMany)) (wr := []) ⟨hx, hb, hml, hown, hts⟩ (c_X11_fails l dC dI Y a M_g M_kept M_saved M_before M_isSaved M_changes M_isWithin w2 M_input M_length M_fault M_failed M_signs M_signMany w3 w4 w5 M_sums M_groups M_at M_told M_toldMany 0 H.size r11 w12 hr13) (cwV 1 hts gX11_overloaded_X11_fails rfl rfl rfl (by decide +kernel) ⟨Nat.le_of_ble_eq_true rfl, Nat.le_of_ble_eq_true rfl⟩) hK hP hD hS hA [0, 1, 2, 3, 4, 5, 6, 7, 8, 9, 10, 11] [] rfl rfl (by decide) (by decide) (by decide) (va_recv hK hP (ci := 11) (q0 := 0) rfl rfl) rfl hl.1 rfl (Nat.le_of_ble_eq_true rfl) dX11_overloaded_21 ⟨Nat.le_of_ble_eq_true rfl, Nat.le_of_ble_eq_true rfl⟩ (fun H locs hP hD hS => ?_)
      have hP : va_P (dC, dI) vwCl [(a 0, .inr (11, [.ref (a 1), .ref (a 2), .ref (a 3), .ref (a 4), .int M_isSaved, .int M_changes, .int M_isWithin, .int w12, .ref (a 5), .int M_length, .int M_fault, .int M_failed, .ref (a 6), .int M_signMany, .ref (a 7), .ref (a 8), .int w5, .ref (a 9), .ref (a 10), .int M_at, .ref (a 11), .int M_toldMany])), (a 1, .inl (Y 0, 238, .inl M_g)), (a 2, .inl (Y 0, 1904, .inl M_kept)), (a 3, .inl (Y 0, 238, .inl M_saved)), (a 4, .inl (Y 0, 238, .inl M_before)), (a 5, .inl (Y 0, 60, .inl M_input)), (a 6, .inl (Y 2, 100, .inl M_signs)), (a 7, .inl (Y 0, 6, .inl w3)), (a 8, .inl (Y 0, 6, .inl w4)), (a 9, .inl (Y 0, 2048, .inl M_sums)), (a 10, .inl (Y 0, 2048, .inl M_groups)), (a 11, .inl (Y 0, 155, .inl M_told))] H := hP
      have hD : va_D A [(a 0, .inr (11, [.ref (a 1), .ref (a 2), .ref (a 3), .ref (a 4), .int M_isSaved, .int M_changes, .int M_isWithin, .int w12, .ref (a 5), .int M_length, .int M_fault, .int M_failed, .ref (a 6), .int M_signMany, .ref (a 7), .ref (a 8), .int w5, .ref (a 9), .ref (a 10), .int M_at, .ref (a 11), .int M_toldMany])), (a 1, .inl (Y 0, 238, .inl M_g)), (a 2, .inl (Y 0, 1904, .inl M_kept)), (a 3, .inl (Y 0, 238, .inl M_saved)), (a 4, .inl (Y 0, 238, .inl M_before)), (a 5, .inl (Y 0, 60, .inl M_input)), (a 6, .inl (Y 2, 100, .inl M_signs)), (a 7, .inl (Y 0, 6, .inl w3)), (a 8, .inl (Y 0, 6, .inl w4)), (a 9, .inl (Y 0, 2048, .inl M_sums)), (a 10, .inl (Y 0, 2048, .inl M_groups)), (a 11, .inl (Y 0, 155, .inl M_told))] := hD
      refine lv_if_eq (tgt := 31) hx hb dX11_overloaded_24 (by decide) (fun q14 => ?_) (fun q14 => ?_)
      · have hf := wk_t hf q14
        refine lv_aload_n hx hb dX11_overloaded_31 rfl (lv_at hl 0 rfl) ?_
        refine va_get (D := (dC, dI)) (ci := 11) (v := .ref (a 7)) (C := RX11) (T := TX11) (N := 22) hx hb hts in_X11_overloaded_X11 hown hK hP 0 rfl rfl 14 (by decide) (hts _ lk_X11_overloaded_RX11_36) (fun _ h9 => h9) rfl dX11_overloaded_32 ?_
        refine lv_aload_n hx hb dX11_overloaded_35 rfl (lv_at hl 0 rfl) ?_
        obtain ⟨r15, hr16, hf⟩ := wkb1_s hf
        have hPc := hP.sub (ws' := (wX11 Y a M_g M_kept M_saved M_before M_isSaved M_changes M_isWithin w12 M_input M_length M_fault M_failed M_signs M_signMany w3 w4 w5 M_sums M_groups M_at M_told M_toldMany)) [0, 1, 2, 3, 4, 5, 6, 7, 8, 9, 10, 11] rfl
        refine wk_vi (As := []) (rest := [.ref (a 7)]) ⟨hx, hb, hml, hown, hts⟩ (c_X11_breaks l dC dI Y a M_g M_kept M_saved M_before M_isSaved M_changes M_isWithin w12 M_input M_length M_fault M_failed M_signs M_signMany w3 w4 w5 M_sums M_groups M_at M_told M_toldMany r15 hr16) (cwV 0 hts gX11_overloaded_X11_breaks rfl rfl rfl (by decide +kernel) ⟨Nat.le_of_ble_eq_true rfl, Nat.le_of_ble_eq_true rfl⟩) hK hPc (va_recv hK hP (ci := 11) (q0 := 0) rfl rfl) rfl hl.1 rfl (Nat.le_of_ble_eq_true rfl) dX11_overloaded_36 ⟨Nat.le_of_ble_eq_true rfl, Nat.le_of_ble_eq_true rfl⟩ ?_
        obtain ⟨h17, hf⟩ := gin_s hf
        refine wk_iald hx hb hK hP 7 0 rfl rfl h17 rfl dX11_overloaded_39 ?_
        obtain ⟨e0, e1, e2, e3, e4⟩ := wke5 hf
        subst e0
        subst e1
        subst e2
        subst e3
        subst e4
        have hP9 := hP.sub (ws' := (wX11 Y a M_g M_kept M_saved M_before M_isSaved M_changes M_isWithin w12 M_input M_length M_fault M_failed M_signs M_signMany w3 w4 w5 M_sums M_groups M_at M_told M_toldMany)) [0, 1, 2, 3, 4, 5, 6, 7, 8, 9, 10, 11] rfl
        have hD9 := hD.sub (ws' := (wX11 Y a M_g M_kept M_saved M_before M_isSaved M_changes M_isWithin w12 M_input M_length M_fault M_failed M_signs M_signMany w3 w4 w5 M_sums M_groups M_at M_told M_toldMany)) [0, 1, 2, 3, 4, 5, 6, 7, 8, 9, 10, 11] (by decide) rfl
        exact W.iret (v := (w3 r15.toNatClampNeg)) hx hb hr (fun t ht hW => ⟨⟨(w3 r15.toNatClampNeg), (), rfl, rfl, by rw [ht]; exact hP9, va_K.moved hW.alike hK, hD9⟩, hS.F ht⟩) hS.2.2 dX11_overloaded_40
      · have hf := wk_f hf q14
        refine lv_iconst (v := 0) hx hb dX11_overloaded_27 (by decide) ?_
        refine lv_goto (tgt := 40) hx hb dX11_overloaded_28 (by decide) ?_
        obtain ⟨e0, e1, e2, e3, e4⟩ := wke5 hf
        subst e0
        subst e1
        subst e2
        subst e3
        subst e4
        have hP9 := hP.sub (ws' := (wX11 Y a M_g M_kept M_saved M_before M_isSaved M_changes M_isWithin w12 M_input M_length M_fault M_failed M_signs M_signMany w3 w4 w5 M_sums M_groups M_at M_told M_toldMany)) [0, 1, 2, 3, 4, 5, 6, 7, 8, 9, 10, 11] rfl
        have hD9 := hD.sub (ws' := (wX11 Y a M_g M_kept M_saved M_before M_isSaved M_changes M_isWithin w12 M_input M_length M_fault M_failed M_signs M_signMany w3 w4 w5 M_sums M_groups M_at M_told M_toldMany)) [0, 1, 2, 3, 4, 5, 6, 7, 8, 9, 10, 11] (by decide) rfl
        exact W.iret (v := 0) hx hb hr (fun t ht hW => ⟨⟨0, (), rfl, rfl, by rw [ht]; exact hP9, va_K.moved hW.alike hK, hD9⟩, hS.F ht⟩) hS.2.2 dX11_overloaded_40
    · have hf := wk_f hf q10
      refine lv_iconst (v := 2) hx hb dX11_overloaded_16 (by decide) ?_
      refine lv_goto (tgt := 21) hx hb dX11_overloaded_17 (by decide) ?_
      obtain ⟨r18, w19, hr20, hf⟩ := wkb2_s hf
      refine wk_evi (As := [.int 2]) (rest := []) (wc := (wX11 Y a M_g M_kept M_saved M_before M_isSaved M_changes M_isWithin w2 M_input M_length M_fault M_failed M_signs M_signMany w3 w4 w5 M_sums M_groups M_at M_told M_toldMany)) (w1 := (wX11 Y a M_g M_kept M_saved M_before M_isSaved M_changes M_isWithin w19 M_input M_length M_fault M_failed M_signs M_signMany w3 w4 w5 M_sums M_groups M_at M_told M_toldMany)) (wr := []) ⟨hx, hb, hml, hown, hts⟩ (c_X11_fails l dC dI Y a M_g M_kept M_saved M_before M_isSaved M_changes M_isWithin w2 M_input M_length M_fault M_failed M_signs M_signMany w3 w4 w5 M_sums M_groups M_at M_told M_toldMany 2 H.size r18 w19 hr20) (cwV 1 hts gX11_overloaded_X11_fails rfl rfl rfl (by decide +kernel) ⟨Nat.le_of_ble_eq_true rfl, Nat.le_of_ble_eq_true rfl⟩) hK hP hD hS hA [0, 1, 2, 3, 4, 5, 6, 7, 8, 9, 10, 11] [] rfl rfl (by decide) (by decide) (by decide) (va_recv hK hP (ci := 11) (q0 := 0) rfl rfl) rfl hl.1 rfl (Nat.le_of_ble_eq_true rfl) dX11_overloaded_21 ⟨Nat.le_of_ble_eq_true rfl, Nat.le_of_ble_eq_true rfl⟩ (fun H locs hP hD hS => ?_)
      have hP : va_P (dC, dI) vwCl [(a 0, .inr (11, [.ref (a 1), .ref (a 2), .ref (a 3), .ref (a 4), .int M_isSaved, .int M_changes, .int M_isWithin, .int w19, .ref (a 5), .int M_length, .int M_fault, .int M_failed, .ref (a 6), .int M_signMany, .ref (a 7), .ref (a 8), .int w5, .ref (a 9), .ref (a 10), .int M_at, .ref (a 11), .int M_toldMany])), (a 1, .inl (Y 0, 238, .inl M_g)), (a 2, .inl (Y 0, 1904, .inl M_kept)), (a 3, .inl (Y 0, 238, .inl M_saved)), (a 4, .inl (Y 0, 238, .inl M_before)), (a 5, .inl (Y 0, 60, .inl M_input)), (a 6, .inl (Y 2, 100, .inl M_signs)), (a 7, .inl (Y 0, 6, .inl w3)), (a 8, .inl (Y 0, 6, .inl w4)), (a 9, .inl (Y 0, 2048, .inl M_sums)), (a 10, .inl (Y 0, 2048, .inl M_groups)), (a 11, .inl (Y 0, 155, .inl M_told))] H := hP
      have hD : va_D A [(a 0, .inr (11, [.ref (a 1), .ref (a 2), .ref (a 3), .ref (a 4), .int M_isSaved, .int M_changes, .int M_isWithin, .int w19, .ref (a 5), .int M_length, .int M_fault, .int M_failed, .ref (a 6), .int M_signMany, .ref (a 7), .ref (a 8), .int w5, .ref (a 9), .ref (a 10), .int M_at, .ref (a 11), .int M_toldMany])), (a 1, .inl (Y 0, 238, .inl M_g)), (a 2, .inl (Y 0, 1904, .inl M_kept)), (a 3, .inl (Y 0, 238, .inl M_saved)), (a 4, .inl (Y 0, 238, .inl M_before)), (a 5, .inl (Y 0, 60, .inl M_input)), (a 6, .inl (Y 2, 100, .inl M_signs)), (a 7, .inl (Y 0, 6, .inl w3)), (a 8, .inl (Y 0, 6, .inl w4)), (a 9, .inl (Y 0, 2048, .inl M_sums)), (a 10, .inl (Y 0, 2048, .inl M_groups)), (a 11, .inl (Y 0, 155, .inl M_told))] := hD
      refine lv_if_eq (tgt := 31) hx hb dX11_overloaded_24 (by decide) (fun q21 => ?_) (fun q21 => ?_)
      · have hf := wk_t hf q21
        refine lv_aload_n hx hb dX11_overloaded_31 rfl (lv_at hl 0 rfl) ?_
        refine va_get (D := (dC, dI)) (ci := 11) (v := .ref (a 7)) (C := RX11) (T := TX11) (N := 22) hx hb hts in_X11_overloaded_X11 hown hK hP 0 rfl rfl 14 (by decide) (hts _ lk_X11_overloaded_RX11_36) (fun _ h9 => h9) rfl dX11_overloaded_32 ?_
        refine lv_aload_n hx hb dX11_overloaded_35 rfl (lv_at hl 0 rfl) ?_
        obtain ⟨r22, hr23, hf⟩ := wkb1_s hf
        have hPc := hP.sub (ws' := (wX11 Y a M_g M_kept M_saved M_before M_isSaved M_changes M_isWithin w19 M_input M_length M_fault M_failed M_signs M_signMany w3 w4 w5 M_sums M_groups M_at M_told M_toldMany)) [0, 1, 2, 3, 4, 5, 6, 7, 8, 9, 10, 11] rfl
        refine wk_vi (As := []) (rest := [.ref (a 7)]) ⟨hx, hb, hml, hown, hts⟩ (c_X11_breaks l dC dI Y a M_g M_kept M_saved M_before M_isSaved M_changes M_isWithin w19 M_input M_length M_fault M_failed M_signs M_signMany w3 w4 w5 M_sums M_groups M_at M_told M_toldMany r22 hr23) (cwV 0 hts gX11_overloaded_X11_breaks rfl rfl rfl (by decide +kernel) ⟨Nat.le_of_ble_eq_true rfl, Nat.le_of_ble_eq_true rfl⟩) hK hPc (va_recv hK hP (ci := 11) (q0 := 0) rfl rfl) rfl hl.1 rfl (Nat.le_of_ble_eq_true rfl) dX11_overloaded_36 ⟨Nat.le_of_ble_eq_true rfl, Nat.le_of_ble_eq_true rfl⟩ ?_
        obtain ⟨h24, hf⟩ := gin_s hf
        refine wk_iald hx hb hK hP 7 0 rfl rfl h24 rfl dX11_overloaded_39 ?_
        obtain ⟨e0, e1, e2, e3, e4⟩ := wke5 hf
        subst e0
        subst e1
        subst e2
        subst e3
        subst e4
        have hP9 := hP.sub (ws' := (wX11 Y a M_g M_kept M_saved M_before M_isSaved M_changes M_isWithin w19 M_input M_length M_fault M_failed M_signs M_signMany w3 w4 w5 M_sums M_groups M_at M_told M_toldMany)) [0, 1, 2, 3, 4, 5, 6, 7, 8, 9, 10, 11] rfl
        have hD9 := hD.sub (ws' := (wX11 Y a M_g M_kept M_saved M_before M_isSaved M_changes M_isWithin w19 M_input M_length M_fault M_failed M_signs M_signMany w3 w4 w5 M_sums M_groups M_at M_told M_toldMany)) [0, 1, 2, 3, 4, 5, 6, 7, 8, 9, 10, 11] (by decide) rfl
        exact W.iret (v := (w3 r22.toNatClampNeg)) hx hb hr (fun t ht hW => ⟨⟨(w3 r22.toNatClampNeg), (), rfl, rfl, by rw [ht]; exact hP9, va_K.moved hW.alike hK, hD9⟩, hS.F ht⟩) hS.2.2 dX11_overloaded_40
      · have hf := wk_f hf q21
        refine lv_iconst (v := 0) hx hb dX11_overloaded_27 (by decide) ?_
        refine lv_goto (tgt := 40) hx hb dX11_overloaded_28 (by decide) ?_
        obtain ⟨e0, e1, e2, e3, e4⟩ := wke5 hf
        subst e0
        subst e1
        subst e2
        subst e3
        subst e4
        have hP9 := hP.sub (ws' := (wX11 Y a M_g M_kept M_saved M_before M_isSaved M_changes M_isWithin w19 M_input M_length M_fault M_failed M_signs M_signMany w3 w4 w5 M_sums M_groups M_at M_told M_toldMany)) [0, 1, 2, 3, 4, 5, 6, 7, 8, 9, 10, 11] rfl
        have hD9 := hD.sub (ws' := (wX11 Y a M_g M_kept M_saved M_before M_isSaved M_changes M_isWithin w19 M_input M_length M_fault M_failed M_signs M_signMany w3 w4 w5 M_sums M_groups M_at M_told M_toldMany)) [0, 1, 2, 3, 4, 5, 6, 7, 8, 9, 10, 11] (by decide) rfl
        exact W.iret (v := 0) hx hb hr (fun t ht hW => ⟨⟨0, (), rfl, rfl, by rw [ht]; exact hP9, va_K.moved hW.alike hK, hD9⟩, hS.F ht⟩) hS.2.2 dX11_overloaded_40
def f_X11_damages (M_g : Nat → Int32) (M_code : Int32) (M_column : Nat → Int32) (M_loads : Nat → Int32) (M_many : Int32) (x1 : Int32) : Option (Int32 × Int32 × (Nat → Int32) × (Nat → Int32) × Int32) :=
  wkb5 (f_X11_isWrong M_g M_code M_column M_loads M_many x1) (fun r1 w2 w3 w4 w5 =>
  if r1 = 0 then
    (wkb1 (f_X11_costs M_g w3 w4 w5) (fun r8 =>
    some (r8, w2, w3, w4, w5)))
  else
    (some (0, w2, w3, w4, w5)))
set_option maxHeartbeats 4000000 in
set_option maxRecDepth 100000 in
theorem c_X11_damages (l : Launch) (dC : Nat → ClassId) (dI : Nat → Nat → Nat) (Y : Nat → ClassId) (a : Nat → Nat) (M_g : Nat → Int32) (M_kept : Nat → Int32) (M_saved : Nat → Int32) (M_before : Nat → Int32) (M_isSaved : Int32) (M_changes : Int32) (M_isWithin : Int32) (M_code : Int32) (M_input : Nat → Int32) (M_length : Int32) (M_fault : Int32) (M_failed : Int32) (M_signs : Nat → Int32) (M_signMany : Int32) (M_column : Nat → Int32) (M_loads : Nat → Int32) (M_many : Int32) (M_sums : Nat → Int32) (M_groups : Nat → Int32) (M_at : Int32) (M_told : Nat → Int32) (M_toldMany : Int32) (x1 : Int32) (sz : Nat) (r : Int32) (zM_code : Int32) (zM_column : Nat → Int32) (zM_loads : Nat → Int32) (zM_many : Int32) (hf : f_X11_damages M_g M_code M_column M_loads M_many x1 = some (r, zM_code, zM_column, zM_loads, zM_many)) : Met l yX11_damages wsX11_damages ({ frames := 4, cells := 0, slots := 0, locals := 89 } : Room) (va_Pc [.ref (a 0), .int x1] (wk_E (dC, dI) Y (wX11 Y a M_g M_kept M_saved M_before M_isSaved M_changes M_isWithin M_code M_input M_length M_fault M_failed M_signs M_signMany M_column M_loads M_many M_sums M_groups M_at M_told M_toldMany) sz)) (va_Qi (fun r2 (_ : Unit) => r2 = r) (fun _ t => wk_X (dC, dI) Y (wX11 Y a M_g M_kept M_saved M_before M_isSaved M_changes M_isWithin zM_code M_input M_length M_fault M_failed M_signs M_signMany zM_column zM_loads zM_many M_sums M_groups M_at M_told M_toldMany) (va_A (wX11 Y a M_g M_kept M_saved M_before M_isSaved M_changes M_isWithin M_code M_input M_length M_fault M_failed M_signs M_signMany M_column M_loads M_many M_sums M_groups M_at M_told M_toldMany) sz) t) (va_A (wX11 Y a M_g M_kept M_saved M_before M_isSaved M_changes M_isWithin M_code M_input M_length M_fault M_failed M_signs M_signMany M_column M_loads M_many M_sums M_groups M_at M_told M_toldMany) sz)) 0 0 (va_A (wX11 Y a M_g M_kept M_saved M_before M_isSaved M_changes M_isWithin M_code M_input M_length M_fault M_failed M_signs M_signMany M_column M_loads M_many M_sums M_groups M_at M_told M_toldMany) sz) := by
  refine Met.ofW (cc := cX11_damages) (maxL := 2) (ret := (some .int)) (by decide) rfl ?_
  intro p e s m args below meth c s₁ B hml hv
  obtain ⟨rfl, hsz, hP, hK, hD0⟩ := hv
  have hx := B.exec
  have hb := B.bytes
  have hr := B.returns
  have hts := atoms_spec (ws := wsX11_damages) B.pre
  have hown : s.vm.findClass RX11 = some m.cls := findClass_of_methodNamed B.named
  have hlocks := B.notSynchronized
  have C0 : wk_C p s m _ meth c cX11_damages 2 (some .int) wsX11_damages RX11 := ⟨hx, hb, hml, hr, hlocks, hown, hts⟩
  subst hsz
  have hD := hD0.self (sz := s.heap.size)
  generalize hAe : va_A (wX11 Y a M_g M_kept M_saved M_before M_isSaved M_changes M_isWithin M_code M_input M_length M_fault M_failed M_signs M_signMany M_column M_loads M_many M_sums M_groups M_at M_told M_toldMany) s.heap.size = A at hD ⊢
  have hA : ∀ q : Nat, s.heap.size ≤ q → A q := fun q h => by rw [← hAe]; exact Or.inr h
  have hS : va_S A s.heap s.heap [] := va_S.rf
  obtain ⟨H, hHe⟩ : ∃ H, H = s.heap := ⟨_, rfl⟩
  have hS : va_S A s.heap H [] := by rw [hHe]; exact hS
  have hP : va_P (dC, dI) vwCl [(a 0, .inr (11, [.ref (a 1), .ref (a 2), .ref (a 3), .ref (a 4), .int M_isSaved, .int M_changes, .int M_isWithin, .int M_code, .ref (a 5), .int M_length, .int M_fault, .int M_failed, .ref (a 6), .int M_signMany, .ref (a 7), .ref (a 8), .int M_many, .ref (a 9), .ref (a 10), .int M_at, .ref (a 11), .int M_toldMany])), (a 1, .inl (Y 0, 238, .inl M_g)), (a 2, .inl (Y 0, 1904, .inl M_kept)), (a 3, .inl (Y 0, 238, .inl M_saved)), (a 4, .inl (Y 0, 238, .inl M_before)), (a 5, .inl (Y 0, 60, .inl M_input)), (a 6, .inl (Y 2, 100, .inl M_signs)), (a 7, .inl (Y 0, 6, .inl M_column)), (a 8, .inl (Y 0, 6, .inl M_loads)), (a 9, .inl (Y 0, 2048, .inl M_sums)), (a 10, .inl (Y 0, 2048, .inl M_groups)), (a 11, .inl (Y 0, 155, .inl M_told))] H := by rw [hHe]; exact hP
  have hD : va_D A [(a 0, .inr (11, [.ref (a 1), .ref (a 2), .ref (a 3), .ref (a 4), .int M_isSaved, .int M_changes, .int M_isWithin, .int M_code, .ref (a 5), .int M_length, .int M_fault, .int M_failed, .ref (a 6), .int M_signMany, .ref (a 7), .ref (a 8), .int M_many, .ref (a 9), .ref (a 10), .int M_at, .ref (a 11), .int M_toldMany])), (a 1, .inl (Y 0, 238, .inl M_g)), (a 2, .inl (Y 0, 1904, .inl M_kept)), (a 3, .inl (Y 0, 238, .inl M_saved)), (a 4, .inl (Y 0, 238, .inl M_before)), (a 5, .inl (Y 0, 60, .inl M_input)), (a 6, .inl (Y 2, 100, .inl M_signs)), (a 7, .inl (Y 0, 6, .inl M_column)), (a 8, .inl (Y 0, 6, .inl M_loads)), (a 9, .inl (Y 0, 2048, .inl M_sums)), (a 10, .inl (Y 0, 2048, .inl M_groups)), (a 11, .inl (Y 0, 155, .inl M_told))] := hD
  obtain ⟨locs, hlo⟩ : ∃ locs : List Loc, locs = [] := ⟨_, rfl⟩
  have hS : va_S A s.heap H locs := by rw [hlo]; exact hS
  have hl := lv_entry ([.ref (a 0), .int x1]) (n := 2) (Nat.le_of_ble_eq_true rfl)
  rw [lg_entry_eq]
  generalize (lg_sl ([.ref (a 0), .int x1]) ++ List.replicate (2 - (lg_sl ([.ref (a 0), .int x1])).length) Slot.unset).toArray = ls at hl ⊢
  have hl : lv_has ls 2 [(0, .ref (a 0)), (1, .int x1)] := hl
  refine wk_start hHe hlo ?_
  rw [f_X11_damages] at hf
  refine lv_aload_n hx hb dX11_damages_0 rfl (lv_at hl 0 rfl) ?_
  refine lv_iload_n hx hb dX11_damages_1 rfl (lv_at hl 1 rfl) ?_
  obtain ⟨r1, w2, w3, w4, w5, hr6, hf⟩ := wkb5_s hf
  refine wk_evi (As := [.int x1]) (rest := []) (wc := (wX11 Y a M_g M_kept M_saved M_before M_isSaved M_changes M_isWithin M_code M_input M_length M_fault M_failed M_signs M_signMany M_column M_loads M_many M_sums M_groups M_at M_told M_toldMany)) (w1 := (wX11 Y a M_g M_kept M_saved M_before M_isSaved M_changes M_isWithin w2 M_input M_length M_fault M_failed M_signs M_signMany w3 w4 w5 M_sums M_groups M_at M_told M_toldMany)) (wr := []) ⟨hx, hb, hml, hown, hts⟩ (c_X11_isWrong l dC dI Y a M_g M_kept M_saved M_before M_isSaved M_changes M_isWithin M_code M_input M_length M_fault M_failed M_signs M_signMany M_column M_loads M_many M_sums M_groups M_at M_told M_toldMany x1 H.size r1 w2 w3 w4 w5 hr6) (cwV 1 hts gX11_damages_X11_isWrong rfl rfl rfl (by decide +kernel) ⟨Nat.le_of_ble_eq_true rfl, Nat.le_of_ble_eq_true rfl⟩) hK hP hD hS hA [0, 1, 2, 3, 4, 5, 6, 7, 8, 9, 10, 11] [] rfl rfl (by decide) (by decide) (by decide) (va_recv hK hP (ci := 11) (q0 := 0) rfl rfl) rfl hl.1 rfl (Nat.le_of_ble_eq_true rfl) dX11_damages_2 ⟨Nat.le_of_ble_eq_true rfl, Nat.le_of_ble_eq_true rfl⟩ (fun H locs hP hD hS => ?_)
  have hP : va_P (dC, dI) vwCl [(a 0, .inr (11, [.ref (a 1), .ref (a 2), .ref (a 3), .ref (a 4), .int M_isSaved, .int M_changes, .int M_isWithin, .int w2, .ref (a 5), .int M_length, .int M_fault, .int M_failed, .ref (a 6), .int M_signMany, .ref (a 7), .ref (a 8), .int w5, .ref (a 9), .ref (a 10), .int M_at, .ref (a 11), .int M_toldMany])), (a 1, .inl (Y 0, 238, .inl M_g)), (a 2, .inl (Y 0, 1904, .inl M_kept)), (a 3, .inl (Y 0, 238, .inl M_saved)), (a 4, .inl (Y 0, 238, .inl M_before)), (a 5, .inl (Y 0, 60, .inl M_input)), (a 6, .inl (Y 2, 100, .inl M_signs)), (a 7, .inl (Y 0, 6, .inl w3)), (a 8, .inl (Y 0, 6, .inl w4)), (a 9, .inl (Y 0, 2048, .inl M_sums)), (a 10, .inl (Y 0, 2048, .inl M_groups)), (a 11, .inl (Y 0, 155, .inl M_told))] H := hP
  have hD : va_D A [(a 0, .inr (11, [.ref (a 1), .ref (a 2), .ref (a 3), .ref (a 4), .int M_isSaved, .int M_changes, .int M_isWithin, .int w2, .ref (a 5), .int M_length, .int M_fault, .int M_failed, .ref (a 6), .int M_signMany, .ref (a 7), .ref (a 8), .int w5, .ref (a 9), .ref (a 10), .int M_at, .ref (a 11), .int M_toldMany])), (a 1, .inl (Y 0, 238, .inl M_g)), (a 2, .inl (Y 0, 1904, .inl M_kept)), (a 3, .inl (Y 0, 238, .inl M_saved)), (a 4, .inl (Y 0, 238, .inl M_before)), (a 5, .inl (Y 0, 60, .inl M_input)), (a 6, .inl (Y 2, 100, .inl M_signs)), (a 7, .inl (Y 0, 6, .inl w3)), (a 8, .inl (Y 0, 6, .inl w4)), (a 9, .inl (Y 0, 2048, .inl M_sums)), (a 10, .inl (Y 0, 2048, .inl M_groups)), (a 11, .inl (Y 0, 155, .inl M_told))] := hD
  refine lv_if_eq (tgt := 12) hx hb dX11_damages_5 (by decide) (fun q7 => ?_) (fun q7 => ?_)
  · have hf := wk_t hf q7
    refine lv_aload_n hx hb dX11_damages_12 rfl (lv_at hl 0 rfl) ?_
    obtain ⟨r8, hr9, hf⟩ := wkb1_s hf
    have hPc := hP.sub (ws' := (wX11 Y a M_g M_kept M_saved M_before M_isSaved M_changes M_isWithin w2 M_input M_length M_fault M_failed M_signs M_signMany w3 w4 w5 M_sums M_groups M_at M_told M_toldMany)) [0, 1, 2, 3, 4, 5, 6, 7, 8, 9, 10, 11] rfl
    refine wk_vi (As := []) (rest := []) ⟨hx, hb, hml, hown, hts⟩ (c_X11_costs l dC dI Y a M_g M_kept M_saved M_before M_isSaved M_changes M_isWithin w2 M_input M_length M_fault M_failed M_signs M_signMany w3 w4 w5 M_sums M_groups M_at M_told M_toldMany r8 hr9) (cwV 0 hts gX11_damages_X11_costs rfl rfl rfl (by decide +kernel) ⟨Nat.le_of_ble_eq_true rfl, Nat.le_of_ble_eq_true rfl⟩) hK hPc (va_recv hK hP (ci := 11) (q0 := 0) rfl rfl) rfl hl.1 rfl (Nat.le_of_ble_eq_true rfl) dX11_damages_13 ⟨Nat.le_of_ble_eq_true rfl, Nat.le_of_ble_eq_true rfl⟩ ?_
    obtain ⟨e0, e1, e2, e3, e4⟩ := wke5 hf
    subst e0
    subst e1
    subst e2
    subst e3
    subst e4
    have hP9 := hP.sub (ws' := (wX11 Y a M_g M_kept M_saved M_before M_isSaved M_changes M_isWithin w2 M_input M_length M_fault M_failed M_signs M_signMany w3 w4 w5 M_sums M_groups M_at M_told M_toldMany)) [0, 1, 2, 3, 4, 5, 6, 7, 8, 9, 10, 11] rfl
    have hD9 := hD.sub (ws' := (wX11 Y a M_g M_kept M_saved M_before M_isSaved M_changes M_isWithin w2 M_input M_length M_fault M_failed M_signs M_signMany w3 w4 w5 M_sums M_groups M_at M_told M_toldMany)) [0, 1, 2, 3, 4, 5, 6, 7, 8, 9, 10, 11] (by decide) rfl
    exact W.iret (v := r8) hx hb hr (fun t ht hW => ⟨⟨r8, (), rfl, rfl, by rw [ht]; exact hP9, va_K.moved hW.alike hK, hD9⟩, hS.F ht⟩) hS.2.2 dX11_damages_16
  · have hf := wk_f hf q7
    refine lv_iconst (v := 0) hx hb dX11_damages_8 (by decide) ?_
    refine lv_goto (tgt := 16) hx hb dX11_damages_9 (by decide) ?_
    obtain ⟨e0, e1, e2, e3, e4⟩ := wke5 hf
    subst e0
    subst e1
    subst e2
    subst e3
    subst e4
    have hP9 := hP.sub (ws' := (wX11 Y a M_g M_kept M_saved M_before M_isSaved M_changes M_isWithin w2 M_input M_length M_fault M_failed M_signs M_signMany w3 w4 w5 M_sums M_groups M_at M_told M_toldMany)) [0, 1, 2, 3, 4, 5, 6, 7, 8, 9, 10, 11] rfl
    have hD9 := hD.sub (ws' := (wX11 Y a M_g M_kept M_saved M_before M_isSaved M_changes M_isWithin w2 M_input M_length M_fault M_failed M_signs M_signMany w3 w4 w5 M_sums M_groups M_at M_told M_toldMany)) [0, 1, 2, 3, 4, 5, 6, 7, 8, 9, 10, 11] (by decide) rfl
    exact W.iret (v := 0) hx hb hr (fun t ht hW => ⟨⟨0, (), rfl, rfl, by rw [ht]; exact hP9, va_K.moved hW.alike hK, hD9⟩, hS.F ht⟩) hS.2.2 dX11_damages_16
theorem lk_X11_isCovered_RX11_7 : Cond.fieldLink RX11 7 "CircusLedgerModel" "g" "[I" ∈ wsX11_isCovered := by decide +kernel
theorem in_X11_isCovered_X11 : ∀ w ∈ u_ws RX11 TX11 22, w ∈ wsX11_isCovered := by decide +kernel
def f_X11_isCovered (M_g : Nat → Int32) (M_code : Int32) (M_column : Nat → Int32) (M_loads : Nat → Int32) (M_many : Int32) (x1 : Int32) : Option (Int32 × Int32 × (Nat → Int32) × (Nat → Int32) × Int32) :=
  wkb5 (f_X11_isWrong M_g M_code M_column M_loads M_many x1) (fun r1 w2 w3 w4 w5 =>
  if r1 = 0 then
    (wkb1 (f_X11_costs M_g w3 w4 w5) (fun r8 =>
    if (M_g 37) < r8 then
      (some (0, w2, w3, w4, w5))
    else
      (some (1, w2, w3, w4, w5))))
  else
    (some (0, w2, w3, w4, w5)))
set_option maxHeartbeats 4000000 in
set_option maxRecDepth 100000 in
theorem c_X11_isCovered (l : Launch) (dC : Nat → ClassId) (dI : Nat → Nat → Nat) (Y : Nat → ClassId) (a : Nat → Nat) (M_g : Nat → Int32) (M_kept : Nat → Int32) (M_saved : Nat → Int32) (M_before : Nat → Int32) (M_isSaved : Int32) (M_changes : Int32) (M_isWithin : Int32) (M_code : Int32) (M_input : Nat → Int32) (M_length : Int32) (M_fault : Int32) (M_failed : Int32) (M_signs : Nat → Int32) (M_signMany : Int32) (M_column : Nat → Int32) (M_loads : Nat → Int32) (M_many : Int32) (M_sums : Nat → Int32) (M_groups : Nat → Int32) (M_at : Int32) (M_told : Nat → Int32) (M_toldMany : Int32) (x1 : Int32) (sz : Nat) (r : Int32) (zM_code : Int32) (zM_column : Nat → Int32) (zM_loads : Nat → Int32) (zM_many : Int32) (hf : f_X11_isCovered M_g M_code M_column M_loads M_many x1 = some (r, zM_code, zM_column, zM_loads, zM_many)) : Met l yX11_isCovered wsX11_isCovered ({ frames := 4, cells := 0, slots := 0, locals := 89 } : Room) (va_Pc [.ref (a 0), .int x1] (wk_E (dC, dI) Y (wX11 Y a M_g M_kept M_saved M_before M_isSaved M_changes M_isWithin M_code M_input M_length M_fault M_failed M_signs M_signMany M_column M_loads M_many M_sums M_groups M_at M_told M_toldMany) sz)) (va_Qi (fun r2 (_ : Unit) => r2 = r) (fun _ t => wk_X (dC, dI) Y (wX11 Y a M_g M_kept M_saved M_before M_isSaved M_changes M_isWithin zM_code M_input M_length M_fault M_failed M_signs M_signMany zM_column zM_loads zM_many M_sums M_groups M_at M_told M_toldMany) (va_A (wX11 Y a M_g M_kept M_saved M_before M_isSaved M_changes M_isWithin M_code M_input M_length M_fault M_failed M_signs M_signMany M_column M_loads M_many M_sums M_groups M_at M_told M_toldMany) sz) t) (va_A (wX11 Y a M_g M_kept M_saved M_before M_isSaved M_changes M_isWithin M_code M_input M_length M_fault M_failed M_signs M_signMany M_column M_loads M_many M_sums M_groups M_at M_told M_toldMany) sz)) 0 0 (va_A (wX11 Y a M_g M_kept M_saved M_before M_isSaved M_changes M_isWithin M_code M_input M_length M_fault M_failed M_signs M_signMany M_column M_loads M_many M_sums M_groups M_at M_told M_toldMany) sz) := by
  refine Met.ofW (cc := cX11_isCovered) (maxL := 2) (ret := (some .boolean)) (by decide) rfl ?_
  intro p e s m args below meth c s₁ B hml hv
  obtain ⟨rfl, hsz, hP, hK, hD0⟩ := hv
  have hx := B.exec
  have hb := B.bytes
  have hr := B.returns
  have hts := atoms_spec (ws := wsX11_isCovered) B.pre
  have hown : s.vm.findClass RX11 = some m.cls := findClass_of_methodNamed B.named
  have hlocks := B.notSynchronized
  have C0 : wk_C p s m _ meth c cX11_isCovered 2 (some .boolean) wsX11_isCovered RX11 := ⟨hx, hb, hml, hr, hlocks, hown, hts⟩
  subst hsz
  have hD := hD0.self (sz := s.heap.size)
  generalize hAe : va_A (wX11 Y a M_g M_kept M_saved M_before M_isSaved M_changes M_isWithin M_code M_input M_length M_fault M_failed M_signs M_signMany M_column M_loads M_many M_sums M_groups M_at M_told M_toldMany) s.heap.size = A at hD ⊢
  have hA : ∀ q : Nat, s.heap.size ≤ q → A q := fun q h => by rw [← hAe]; exact Or.inr h
  have hS : va_S A s.heap s.heap [] := va_S.rf
  obtain ⟨H, hHe⟩ : ∃ H, H = s.heap := ⟨_, rfl⟩
  have hS : va_S A s.heap H [] := by rw [hHe]; exact hS
  have hP : va_P (dC, dI) vwCl [(a 0, .inr (11, [.ref (a 1), .ref (a 2), .ref (a 3), .ref (a 4), .int M_isSaved, .int M_changes, .int M_isWithin, .int M_code, .ref (a 5), .int M_length, .int M_fault, .int M_failed, .ref (a 6), .int M_signMany, .ref (a 7), .ref (a 8), .int M_many, .ref (a 9), .ref (a 10), .int M_at, .ref (a 11), .int M_toldMany])), (a 1, .inl (Y 0, 238, .inl M_g)), (a 2, .inl (Y 0, 1904, .inl M_kept)), (a 3, .inl (Y 0, 238, .inl M_saved)), (a 4, .inl (Y 0, 238, .inl M_before)), (a 5, .inl (Y 0, 60, .inl M_input)), (a 6, .inl (Y 2, 100, .inl M_signs)), (a 7, .inl (Y 0, 6, .inl M_column)), (a 8, .inl (Y 0, 6, .inl M_loads)), (a 9, .inl (Y 0, 2048, .inl M_sums)), (a 10, .inl (Y 0, 2048, .inl M_groups)), (a 11, .inl (Y 0, 155, .inl M_told))] H := by rw [hHe]; exact hP
  have hD : va_D A [(a 0, .inr (11, [.ref (a 1), .ref (a 2), .ref (a 3), .ref (a 4), .int M_isSaved, .int M_changes, .int M_isWithin, .int M_code, .ref (a 5), .int M_length, .int M_fault, .int M_failed, .ref (a 6), .int M_signMany, .ref (a 7), .ref (a 8), .int M_many, .ref (a 9), .ref (a 10), .int M_at, .ref (a 11), .int M_toldMany])), (a 1, .inl (Y 0, 238, .inl M_g)), (a 2, .inl (Y 0, 1904, .inl M_kept)), (a 3, .inl (Y 0, 238, .inl M_saved)), (a 4, .inl (Y 0, 238, .inl M_before)), (a 5, .inl (Y 0, 60, .inl M_input)), (a 6, .inl (Y 2, 100, .inl M_signs)), (a 7, .inl (Y 0, 6, .inl M_column)), (a 8, .inl (Y 0, 6, .inl M_loads)), (a 9, .inl (Y 0, 2048, .inl M_sums)), (a 10, .inl (Y 0, 2048, .inl M_groups)), (a 11, .inl (Y 0, 155, .inl M_told))] := hD
  obtain ⟨locs, hlo⟩ : ∃ locs : List Loc, locs = [] := ⟨_, rfl⟩
  have hS : va_S A s.heap H locs := by rw [hlo]; exact hS
  have hl := lv_entry ([.ref (a 0), .int x1]) (n := 2) (Nat.le_of_ble_eq_true rfl)
  rw [lg_entry_eq]
  generalize (lg_sl ([.ref (a 0), .int x1]) ++ List.replicate (2 - (lg_sl ([.ref (a 0), .int x1])).length) Slot.unset).toArray = ls at hl ⊢
  have hl : lv_has ls 2 [(0, .ref (a 0)), (1, .int x1)] := hl
  refine wk_start hHe hlo ?_
  rw [f_X11_isCovered] at hf
  refine lv_aload_n hx hb dX11_isCovered_0 rfl (lv_at hl 0 rfl) ?_
  refine lv_iload_n hx hb dX11_isCovered_1 rfl (lv_at hl 1 rfl) ?_
  obtain ⟨r1, w2, w3, w4, w5, hr6, hf⟩ := wkb5_s hf
  refine wk_evi (As := [.int x1]) (rest := []) (wc := (wX11 Y a M_g M_kept M_saved M_before M_isSaved M_changes M_isWithin M_code M_input M_length M_fault M_failed M_signs M_signMany M_column M_loads M_many M_sums M_groups M_at M_told M_toldMany)) (w1 := (wX11 Y a M_g M_kept M_saved M_before M_isSaved M_changes M_isWithin w2 M_input M_length M_fault M_failed M_signs M_signMany w3 w4 w5 M_sums M_groups M_at M_told M_toldMany)) (wr := []) ⟨hx, hb, hml, hown, hts⟩ (c_X11_isWrong l dC dI Y a M_g M_kept M_saved M_before M_isSaved M_changes M_isWithin M_code M_input M_length M_fault M_failed M_signs M_signMany M_column M_loads M_many M_sums M_groups M_at M_told M_toldMany x1 H.size r1 w2 w3 w4 w5 hr6) (cwV 1 hts gX11_isCovered_X11_isWrong rfl rfl rfl (by decide +kernel) ⟨Nat.le_of_ble_eq_true rfl, Nat.le_of_ble_eq_true rfl⟩) hK hP hD hS hA [0, 1, 2, 3, 4, 5, 6, 7, 8, 9, 10, 11] [] rfl rfl (by decide) (by decide) (by decide) (va_recv hK hP (ci := 11) (q0 := 0) rfl rfl) rfl hl.1 rfl (Nat.le_of_ble_eq_true rfl) dX11_isCovered_2 ⟨Nat.le_of_ble_eq_true rfl, Nat.le_of_ble_eq_true rfl⟩ (fun H locs hP hD hS => ?_)
  have hP : va_P (dC, dI) vwCl [(a 0, .inr (11, [.ref (a 1), .ref (a 2), .ref (a 3), .ref (a 4), .int M_isSaved, .int M_changes, .int M_isWithin, .int w2, .ref (a 5), .int M_length, .int M_fault, .int M_failed, .ref (a 6), .int M_signMany, .ref (a 7), .ref (a 8), .int w5, .ref (a 9), .ref (a 10), .int M_at, .ref (a 11), .int M_toldMany])), (a 1, .inl (Y 0, 238, .inl M_g)), (a 2, .inl (Y 0, 1904, .inl M_kept)), (a 3, .inl (Y 0, 238, .inl M_saved)), (a 4, .inl (Y 0, 238, .inl M_before)), (a 5, .inl (Y 0, 60, .inl M_input)), (a 6, .inl (Y 2, 100, .inl M_signs)), (a 7, .inl (Y 0, 6, .inl w3)), (a 8, .inl (Y 0, 6, .inl w4)), (a 9, .inl (Y 0, 2048, .inl M_sums)), (a 10, .inl (Y 0, 2048, .inl M_groups)), (a 11, .inl (Y 0, 155, .inl M_told))] H := hP
  have hD : va_D A [(a 0, .inr (11, [.ref (a 1), .ref (a 2), .ref (a 3), .ref (a 4), .int M_isSaved, .int M_changes, .int M_isWithin, .int w2, .ref (a 5), .int M_length, .int M_fault, .int M_failed, .ref (a 6), .int M_signMany, .ref (a 7), .ref (a 8), .int w5, .ref (a 9), .ref (a 10), .int M_at, .ref (a 11), .int M_toldMany])), (a 1, .inl (Y 0, 238, .inl M_g)), (a 2, .inl (Y 0, 1904, .inl M_kept)), (a 3, .inl (Y 0, 238, .inl M_saved)), (a 4, .inl (Y 0, 238, .inl M_before)), (a 5, .inl (Y 0, 60, .inl M_input)), (a 6, .inl (Y 2, 100, .inl M_signs)), (a 7, .inl (Y 0, 6, .inl w3)), (a 8, .inl (Y 0, 6, .inl w4)), (a 9, .inl (Y 0, 2048, .inl M_sums)), (a 10, .inl (Y 0, 2048, .inl M_groups)), (a 11, .inl (Y 0, 155, .inl M_told))] := hD
  refine lv_if_ne (tgt := 26) hx hb dX11_isCovered_5 (by decide) (fun q7 => ?_) (fun q7 => ?_)
  · have hf := wk_f hf q7
    refine lv_iconst (v := 0) hx hb dX11_isCovered_26 (by decide) ?_
    obtain ⟨e0, e1, e2, e3, e4⟩ := wke5 hf
    subst e0
    subst e1
    subst e2
    subst e3
    subst e4
    have hP9 := hP.sub (ws' := (wX11 Y a M_g M_kept M_saved M_before M_isSaved M_changes M_isWithin w2 M_input M_length M_fault M_failed M_signs M_signMany w3 w4 w5 M_sums M_groups M_at M_told M_toldMany)) [0, 1, 2, 3, 4, 5, 6, 7, 8, 9, 10, 11] rfl
    have hD9 := hD.sub (ws' := (wX11 Y a M_g M_kept M_saved M_before M_isSaved M_changes M_isWithin w2 M_input M_length M_fault M_failed M_signs M_signMany w3 w4 w5 M_sums M_groups M_at M_told M_toldMany)) [0, 1, 2, 3, 4, 5, 6, 7, 8, 9, 10, 11] (by decide) rfl
    exact W.zret (v := 0) (ty := .boolean) hx hb hr rfl (fun t ht hW => ⟨⟨0, (), rfl, rfl, by rw [ht]; exact hP9, va_K.moved hW.alike hK, hD9⟩, hS.F ht⟩) hS.2.2 dX11_isCovered_27
  · have hf := wk_t hf q7
    refine lv_aload_n hx hb dX11_isCovered_8 rfl (lv_at hl 0 rfl) ?_
    refine va_get (D := (dC, dI)) (ci := 11) (v := .ref (a 1)) (C := RX11) (T := TX11) (N := 22) hx hb hts in_X11_isCovered_X11 hown hK hP 0 rfl rfl 0 (by decide) (hts _ lk_X11_isCovered_RX11_7) (fun _ h9 => h9) rfl dX11_isCovered_9 ?_
    refine lv_bipush (v := 37) hx hb dX11_isCovered_12 (by decide) ?_
    refine wk_iald hx hb hK hP 1 0 (k := 37) rfl rfl (vp_lit (by decide)) (by decide) dX11_isCovered_14 ?_
    refine lv_aload_n hx hb dX11_isCovered_15 rfl (lv_at hl 0 rfl) ?_
    obtain ⟨r8, hr9, hf⟩ := wkb1_s hf
    have hPc := hP.sub (ws' := (wX11 Y a M_g M_kept M_saved M_before M_isSaved M_changes M_isWithin w2 M_input M_length M_fault M_failed M_signs M_signMany w3 w4 w5 M_sums M_groups M_at M_told M_toldMany)) [0, 1, 2, 3, 4, 5, 6, 7, 8, 9, 10, 11] rfl
    refine wk_vi (As := []) (rest := [.int (M_g 37)]) ⟨hx, hb, hml, hown, hts⟩ (c_X11_costs l dC dI Y a M_g M_kept M_saved M_before M_isSaved M_changes M_isWithin w2 M_input M_length M_fault M_failed M_signs M_signMany w3 w4 w5 M_sums M_groups M_at M_told M_toldMany r8 hr9) (cwV 0 hts gX11_isCovered_X11_costs rfl rfl rfl (by decide +kernel) ⟨Nat.le_of_ble_eq_true rfl, Nat.le_of_ble_eq_true rfl⟩) hK hPc (va_recv hK hP (ci := 11) (q0 := 0) rfl rfl) rfl hl.1 rfl (Nat.le_of_ble_eq_true rfl) dX11_isCovered_16 ⟨Nat.le_of_ble_eq_true rfl, Nat.le_of_ble_eq_true rfl⟩ ?_
    refine lv_icmp_lt (tgt := 26) hx hb dX11_isCovered_19 (by decide) (fun q10 => ?_) (fun q10 => ?_)
    · have hf := wk_t hf q10
      refine lv_iconst (v := 0) hx hb dX11_isCovered_26 (by decide) ?_
      obtain ⟨e0, e1, e2, e3, e4⟩ := wke5 hf
      subst e0
      subst e1
      subst e2
      subst e3
      subst e4
      have hP9 := hP.sub (ws' := (wX11 Y a M_g M_kept M_saved M_before M_isSaved M_changes M_isWithin w2 M_input M_length M_fault M_failed M_signs M_signMany w3 w4 w5 M_sums M_groups M_at M_told M_toldMany)) [0, 1, 2, 3, 4, 5, 6, 7, 8, 9, 10, 11] rfl
      have hD9 := hD.sub (ws' := (wX11 Y a M_g M_kept M_saved M_before M_isSaved M_changes M_isWithin w2 M_input M_length M_fault M_failed M_signs M_signMany w3 w4 w5 M_sums M_groups M_at M_told M_toldMany)) [0, 1, 2, 3, 4, 5, 6, 7, 8, 9, 10, 11] (by decide) rfl
      exact W.zret (v := 0) (ty := .boolean) hx hb hr rfl (fun t ht hW => ⟨⟨0, (), rfl, rfl, by rw [ht]; exact hP9, va_K.moved hW.alike hK, hD9⟩, hS.F ht⟩) hS.2.2 dX11_isCovered_27
    · have hf := wk_f hf q10
      refine lv_iconst (v := 1) hx hb dX11_isCovered_22 (by decide) ?_
      refine lv_goto (tgt := 27) hx hb dX11_isCovered_23 (by decide) ?_
      obtain ⟨e0, e1, e2, e3, e4⟩ := wke5 hf
      subst e0
      subst e1
      subst e2
      subst e3
      subst e4
      have hP9 := hP.sub (ws' := (wX11 Y a M_g M_kept M_saved M_before M_isSaved M_changes M_isWithin w2 M_input M_length M_fault M_failed M_signs M_signMany w3 w4 w5 M_sums M_groups M_at M_told M_toldMany)) [0, 1, 2, 3, 4, 5, 6, 7, 8, 9, 10, 11] rfl
      have hD9 := hD.sub (ws' := (wX11 Y a M_g M_kept M_saved M_before M_isSaved M_changes M_isWithin w2 M_input M_length M_fault M_failed M_signs M_signMany w3 w4 w5 M_sums M_groups M_at M_told M_toldMany)) [0, 1, 2, 3, 4, 5, 6, 7, 8, 9, 10, 11] (by decide) rfl
      exact W.zret (v := 1) (ty := .boolean) hx hb hr rfl (fun t ht hW => ⟨⟨1, (), rfl, rfl, by rw [ht]; exact hP9, va_K.moved hW.alike hK, hD9⟩, hS.F ht⟩) hS.2.2 dX11_isCovered_27
theorem lk_X11_best_RX11_7 : Cond.fieldLink RX11 7 "CircusLedgerModel" "g" "[I" ∈ wsX11_best := by decide +kernel
theorem in_X11_best_X11 : ∀ w ∈ u_ws RX11 TX11 22, w ∈ wsX11_best := by decide +kernel
def f_X11_best_L4 (M_g : Nat → Int32) : Nat → Int32 → Int32 → (Nat → Int32) → (Nat → Int32) → Int32 → Option (Int32 × (Nat → Int32) × (Nat → Int32) × Int32)
  | 0, _, _, _, _, _ => none
  | nn + 1, x1, x2, M_column, M_loads, M_many =>
    if ((1 : Int32) <<< ((M_g 0) &&& 31)) ≤ x2 then
      (some (x1, M_column, M_loads, M_many))
    else
      (wkb1 (f_X11_areHurt M_g x2) (fun r2 =>
      if r2 = 0 then
        (wkb1 (f_X11_tall M_g x2) (fun r5 =>
        wkb1 (f_X11_tall M_g x1) (fun r7 =>
        if r7 < r5 then
          (wkb3 (f_X11_lays M_g M_column M_loads M_many x2) (fun w10 w11 w12 =>
          wkb1 (f_X11_breaks M_g w10 w11 w12) (fun r14 =>
          if (0 : Int32) ≤ r14 then
            (f_X11_best_L4 M_g nn x1 (x2 + 1) w10 w11 w12)
          else
            (f_X11_best_L4 M_g nn x2 (x2 + 1) w10 w11 w12))))
        else
          (f_X11_best_L4 M_g nn x1 (x2 + 1) M_column M_loads M_many))))
      else
        (f_X11_best_L4 M_g nn x1 (x2 + 1) M_column M_loads M_many)))
def f_X11_best (M_g : Nat → Int32) (M_column : Nat → Int32) (M_loads : Nat → Int32) (M_many : Int32) : Option (Int32 × (Nat → Int32) × (Nat → Int32) × Int32) :=
  f_X11_best_L4 M_g FU 0 1 M_column M_loads M_many
set_option maxHeartbeats 4000000 in
set_option maxRecDepth 100000 in
theorem wl_X11_best_L4 {p : Program} {l : Launch} {e : Env} {s : State} {m : MethodId} {args : Array Value} {below : List Frame} {meth : Method} {c : Code} {dC : Nat → ClassId} {dI : Nat → Nat → Nat} {Y : Nat → ClassId} {a : Nat → Nat} {M_g : Nat → Int32} {M_kept : Nat → Int32} {M_saved : Nat → Int32} {M_before : Nat → Int32} {M_isSaved : Int32} {M_changes : Int32} {M_isWithin : Int32} {M_code : Int32} {M_input : Nat → Int32} {M_length : Int32} {M_fault : Int32} {M_failed : Int32} {M_signs : Nat → Int32} {M_signMany : Int32} {M_sums : Nat → Int32} {M_groups : Nat → Int32} {M_at : Int32} {M_told : Nat → Int32} {M_toldMany : Int32}  {r : Int32} {zM_column : Nat → Int32} {zM_loads : Nat → Int32} {zM_many : Int32}  (C0 : wk_C p s m args meth c cX11_best 3 (some .int) wsX11_best RX11) {A : Nat → Prop} (hK : va_K (dC, dI) vwCl (vTy Y) s) (hA : ∀ q, s.heap.size ≤ q → A q) : ∀ (nn : Nat) (x1 : Int32) (x2 : Int32)  (M_column : Nat → Int32) (M_loads : Nat → Int32) (M_many : Int32), f_X11_best_L4 M_g nn x1 x2 M_column M_loads M_many = some (r, zM_column, zM_loads, zM_many) → ∀ (H : Heap) (locs : List Loc), va_P (dC, dI) vwCl (wX11 Y a M_g M_kept M_saved M_before M_isSaved M_changes M_isWithin M_code M_input M_length M_fault M_failed M_signs M_signMany M_column M_loads M_many M_sums M_groups M_at M_told M_toldMany) H → va_D A (wX11 Y a M_g M_kept M_saved M_before M_isSaved M_changes M_isWithin M_code M_input M_length M_fault M_failed M_signs M_signMany M_column M_loads M_many M_sums M_groups M_at M_told M_toldMany) → va_S A s.heap H locs → ∀ (ls : Array Slot), lv_has ls 3 [(0, .ref (a 0)), (1, .int x1), (2, .int x2)] → W p l e (headSpec wsX11_best ({ frames := 3, cells := 0, slots := 0, locals := 68 } : Room)).room s m args below meth c H locs 0 0 (MQ below (va_Qi (fun r2 (_ : Unit) => r2 = r) (fun _ t => wk_X (dC, dI) Y (wX11 Y a M_g M_kept M_saved M_before M_isSaved M_changes M_isWithin M_code M_input M_length M_fault M_failed M_signs M_signMany zM_column zM_loads zM_many M_sums M_groups M_at M_told M_toldMany) A t) A) args s 0 0 A) (F0 m 4 ls []) := by
  have C0 := C0
  obtain ⟨hx, hb, hml, hr, hlocks, hown, hts⟩ := id C0
  intro nn
  induction nn with
  | zero =>
    intro x1 x2 M_column M_loads M_many hf
    rw [f_X11_best_L4] at hf
    cases hf
  | succ nn ih =>
    intro x1 x2 M_column M_loads M_many hf H locs hP hD hS ls hl
    rw [f_X11_best_L4] at hf
    have hP : va_P (dC, dI) vwCl [(a 0, .inr (11, [.ref (a 1), .ref (a 2), .ref (a 3), .ref (a 4), .int M_isSaved, .int M_changes, .int M_isWithin, .int M_code, .ref (a 5), .int M_length, .int M_fault, .int M_failed, .ref (a 6), .int M_signMany, .ref (a 7), .ref (a 8), .int M_many, .ref (a 9), .ref (a 10), .int M_at, .ref (a 11), .int M_toldMany])), (a 1, .inl (Y 0, 238, .inl M_g)), (a 2, .inl (Y 0, 1904, .inl M_kept)), (a 3, .inl (Y 0, 238, .inl M_saved)), (a 4, .inl (Y 0, 238, .inl M_before)), (a 5, .inl (Y 0, 60, .inl M_input)), (a 6, .inl (Y 2, 100, .inl M_signs)), (a 7, .inl (Y 0, 6, .inl M_column)), (a 8, .inl (Y 0, 6, .inl M_loads)), (a 9, .inl (Y 0, 2048, .inl M_sums)), (a 10, .inl (Y 0, 2048, .inl M_groups)), (a 11, .inl (Y 0, 155, .inl M_told))] H := hP
    have hD : va_D A [(a 0, .inr (11, [.ref (a 1), .ref (a 2), .ref (a 3), .ref (a 4), .int M_isSaved, .int M_changes, .int M_isWithin, .int M_code, .ref (a 5), .int M_length, .int M_fault, .int M_failed, .ref (a 6), .int M_signMany, .ref (a 7), .ref (a 8), .int M_many, .ref (a 9), .ref (a 10), .int M_at, .ref (a 11), .int M_toldMany])), (a 1, .inl (Y 0, 238, .inl M_g)), (a 2, .inl (Y 0, 1904, .inl M_kept)), (a 3, .inl (Y 0, 238, .inl M_saved)), (a 4, .inl (Y 0, 238, .inl M_before)), (a 5, .inl (Y 0, 60, .inl M_input)), (a 6, .inl (Y 2, 100, .inl M_signs)), (a 7, .inl (Y 0, 6, .inl M_column)), (a 8, .inl (Y 0, 6, .inl M_loads)), (a 9, .inl (Y 0, 2048, .inl M_sums)), (a 10, .inl (Y 0, 2048, .inl M_groups)), (a 11, .inl (Y 0, 155, .inl M_told))] := hD
    refine lv_iload_n hx hb dX11_best_4 rfl (lv_at hl 2 rfl) ?_
    refine lv_iconst (v := 1) hx hb dX11_best_5 (by decide) ?_
    refine lv_aload_n hx hb dX11_best_6 rfl (lv_at hl 0 rfl) ?_
    refine va_get (D := (dC, dI)) (ci := 11) (v := .ref (a 1)) (C := RX11) (T := TX11) (N := 22) hx hb hts in_X11_best_X11 hown hK hP 0 rfl rfl 0 (by decide) (hts _ lk_X11_best_RX11_7) (fun _ h9 => h9) rfl dX11_best_7 ?_
    refine lv_iconst (v := 0) hx hb dX11_best_10 (by decide) ?_
    refine wk_iald hx hb hK hP 1 0 (k := 0) rfl rfl (vp_lit (by decide)) (by decide) dX11_best_11 ?_
    refine lv_ishl hx hb dX11_best_12 ?_
    refine lv_icmp_ge (tgt := 60) hx hb dX11_best_13 (by decide) (fun q1 => ?_) (fun q1 => ?_)
    · have hf := wk_t hf q1
      refine lv_iload_n hx hb dX11_best_60 rfl (lv_at hl 1 rfl) ?_
      obtain ⟨e0, e1, e2, e3⟩ := wke4 hf
      subst e0
      subst e1
      subst e2
      subst e3
      have hP9 := hP.sub (ws' := (wX11 Y a M_g M_kept M_saved M_before M_isSaved M_changes M_isWithin M_code M_input M_length M_fault M_failed M_signs M_signMany M_column M_loads M_many M_sums M_groups M_at M_told M_toldMany)) [0, 1, 2, 3, 4, 5, 6, 7, 8, 9, 10, 11] rfl
      have hD9 := hD.sub (ws' := (wX11 Y a M_g M_kept M_saved M_before M_isSaved M_changes M_isWithin M_code M_input M_length M_fault M_failed M_signs M_signMany M_column M_loads M_many M_sums M_groups M_at M_told M_toldMany)) [0, 1, 2, 3, 4, 5, 6, 7, 8, 9, 10, 11] (by decide) rfl
      exact W.iret (v := x1) hx hb hr (fun t ht hW => ⟨⟨x1, (), rfl, rfl, by rw [ht]; exact hP9, va_K.moved hW.alike hK, hD9⟩, hS.F ht⟩) hS.2.2 dX11_best_61
    · have hf := wk_f hf q1
      refine lv_aload_n hx hb dX11_best_16 rfl (lv_at hl 0 rfl) ?_
      refine lv_iload_n hx hb dX11_best_17 rfl (lv_at hl 2 rfl) ?_
      obtain ⟨r2, hr3, hf⟩ := wkb1_s hf
      have hPc := hP.sub (ws' := (wX11 Y a M_g M_kept M_saved M_before M_isSaved M_changes M_isWithin M_code M_input M_length M_fault M_failed M_signs M_signMany M_column M_loads M_many M_sums M_groups M_at M_told M_toldMany)) [0, 1, 2, 3, 4, 5, 6, 7, 8, 9, 10, 11] rfl
      refine wk_vi (As := [.int x2]) (rest := []) ⟨hx, hb, hml, hown, hts⟩ (c_X11_areHurt l dC dI Y a M_g M_kept M_saved M_before M_isSaved M_changes M_isWithin M_code M_input M_length M_fault M_failed M_signs M_signMany M_column M_loads M_many M_sums M_groups M_at M_told M_toldMany x2 r2 hr3) (cwV 1 hts gX11_best_X11_areHurt rfl rfl rfl (by decide +kernel) ⟨Nat.le_of_ble_eq_true rfl, Nat.le_of_ble_eq_true rfl⟩) hK hPc (va_recv hK hP (ci := 11) (q0 := 0) rfl rfl) rfl hl.1 rfl (Nat.le_of_ble_eq_true rfl) dX11_best_18 ⟨Nat.le_of_ble_eq_true rfl, Nat.le_of_ble_eq_true rfl⟩ ?_
      refine lv_if_ne (tgt := 54) hx hb dX11_best_21 (by decide) (fun q4 => ?_) (fun q4 => ?_)
      · have hf := wk_f hf q4
        refine lv_iinc (v := (x2 + 1)) (lv' := [(2, .int (x2 + 1)), (0, .ref (a 0)), (1, .int x1)]) hx hb dX11_best_54 hl (k := 2) rfl rfl (by decide) rfl (fun ls hl => ?_)
        refine lv_goto (tgt := 4) hx hb dX11_best_57 (by decide) ?_
        exact ih x1 (x2 + 1) M_column M_loads M_many hf H locs hP hD hS ls (lv_sub hl [1, 2, 0] rfl)
      · have hf := wk_t hf q4
        refine lv_aload_n hx hb dX11_best_24 rfl (lv_at hl 0 rfl) ?_
        refine lv_iload_n hx hb dX11_best_25 rfl (lv_at hl 2 rfl) ?_
        obtain ⟨r5, hr6, hf⟩ := wkb1_s hf
        have hPc := hP.sub (ws' := (wX11 Y a M_g M_kept M_saved M_before M_isSaved M_changes M_isWithin M_code M_input M_length M_fault M_failed M_signs M_signMany M_column M_loads M_many M_sums M_groups M_at M_told M_toldMany)) [0, 1, 2, 3, 4, 5, 6, 7, 8, 9, 10, 11] rfl
        refine wk_vi (As := [.int x2]) (rest := []) ⟨hx, hb, hml, hown, hts⟩ (c_X11_tall l dC dI Y a M_g M_kept M_saved M_before M_isSaved M_changes M_isWithin M_code M_input M_length M_fault M_failed M_signs M_signMany M_column M_loads M_many M_sums M_groups M_at M_told M_toldMany x2 r5 hr6) (cwV 1 hts gX11_best_X11_tall rfl rfl rfl (by decide +kernel) ⟨Nat.le_of_ble_eq_true rfl, Nat.le_of_ble_eq_true rfl⟩) hK hPc (va_recv hK hP (ci := 11) (q0 := 0) rfl rfl) rfl hl.1 rfl (Nat.le_of_ble_eq_true rfl) dX11_best_26 ⟨Nat.le_of_ble_eq_true rfl, Nat.le_of_ble_eq_true rfl⟩ ?_
        refine lv_aload_n hx hb dX11_best_29 rfl (lv_at hl 0 rfl) ?_
        refine lv_iload_n hx hb dX11_best_30 rfl (lv_at hl 1 rfl) ?_
        obtain ⟨r7, hr8, hf⟩ := wkb1_s hf
        have hPc := hP.sub (ws' := (wX11 Y a M_g M_kept M_saved M_before M_isSaved M_changes M_isWithin M_code M_input M_length M_fault M_failed M_signs M_signMany M_column M_loads M_many M_sums M_groups M_at M_told M_toldMany)) [0, 1, 2, 3, 4, 5, 6, 7, 8, 9, 10, 11] rfl
        refine wk_vi (As := [.int x1]) (rest := [.int r5]) ⟨hx, hb, hml, hown, hts⟩ (c_X11_tall l dC dI Y a M_g M_kept M_saved M_before M_isSaved M_changes M_isWithin M_code M_input M_length M_fault M_failed M_signs M_signMany M_column M_loads M_many M_sums M_groups M_at M_told M_toldMany x1 r7 hr8) (cwV 1 hts gX11_best_X11_tall rfl rfl rfl (by decide +kernel) ⟨Nat.le_of_ble_eq_true rfl, Nat.le_of_ble_eq_true rfl⟩) hK hPc (va_recv hK hP (ci := 11) (q0 := 0) rfl rfl) rfl hl.1 rfl (Nat.le_of_ble_eq_true rfl) dX11_best_31 ⟨Nat.le_of_ble_eq_true rfl, Nat.le_of_ble_eq_true rfl⟩ ?_
        refine lv_icmp_gt (tgt := 40) hx hb dX11_best_34 (by decide) (fun q9 => ?_) (fun q9 => ?_)
        · have hf := wk_t hf q9
          refine lv_aload_n hx hb dX11_best_40 rfl (lv_at hl 0 rfl) ?_
          refine lv_iload_n hx hb dX11_best_41 rfl (lv_at hl 2 rfl) ?_
          obtain ⟨w10, w11, w12, hr13, hf⟩ := wkb3_s hf
          refine wk_evv (As := [.int x2]) (rest := []) (wc := (wX11 Y a M_g M_kept M_saved M_before M_isSaved M_changes M_isWithin M_code M_input M_length M_fault M_failed M_signs M_signMany M_column M_loads M_many M_sums M_groups M_at M_told M_toldMany)) (w1 := (wX11 Y a M_g M_kept M_saved M_before M_isSaved M_changes M_isWithin M_code M_input M_length M_fault M_failed M_signs M_signMany w10 w11 w12 M_sums M_groups M_at M_told M_toldMany)) (wr := []) ⟨hx, hb, hml, hown, hts⟩ (c_X11_lays l dC dI Y a M_g M_kept M_saved M_before M_isSaved M_changes M_isWithin M_code M_input M_length M_fault M_failed M_signs M_signMany M_column M_loads M_many M_sums M_groups M_at M_told M_toldMany x2 H.size w10 w11 w12 hr13) (cwV 1 hts gX11_best_X11_lays rfl rfl rfl (by decide +kernel) ⟨Nat.le_of_ble_eq_true rfl, Nat.le_of_ble_eq_true rfl⟩) hK hP hD hS hA [0, 1, 2, 3, 4, 5, 6, 7, 8, 9, 10, 11] [] rfl rfl (by decide) (by decide) (by decide) (va_recv hK hP (ci := 11) (q0 := 0) rfl rfl) rfl hl.1 rfl (Nat.le_of_ble_eq_true rfl) dX11_best_42 ⟨Nat.le_of_ble_eq_true rfl, Nat.le_of_ble_eq_true rfl⟩ (fun H locs hP hD hS => ?_)
          have hP : va_P (dC, dI) vwCl [(a 0, .inr (11, [.ref (a 1), .ref (a 2), .ref (a 3), .ref (a 4), .int M_isSaved, .int M_changes, .int M_isWithin, .int M_code, .ref (a 5), .int M_length, .int M_fault, .int M_failed, .ref (a 6), .int M_signMany, .ref (a 7), .ref (a 8), .int w12, .ref (a 9), .ref (a 10), .int M_at, .ref (a 11), .int M_toldMany])), (a 1, .inl (Y 0, 238, .inl M_g)), (a 2, .inl (Y 0, 1904, .inl M_kept)), (a 3, .inl (Y 0, 238, .inl M_saved)), (a 4, .inl (Y 0, 238, .inl M_before)), (a 5, .inl (Y 0, 60, .inl M_input)), (a 6, .inl (Y 2, 100, .inl M_signs)), (a 7, .inl (Y 0, 6, .inl w10)), (a 8, .inl (Y 0, 6, .inl w11)), (a 9, .inl (Y 0, 2048, .inl M_sums)), (a 10, .inl (Y 0, 2048, .inl M_groups)), (a 11, .inl (Y 0, 155, .inl M_told))] H := hP
          have hD : va_D A [(a 0, .inr (11, [.ref (a 1), .ref (a 2), .ref (a 3), .ref (a 4), .int M_isSaved, .int M_changes, .int M_isWithin, .int M_code, .ref (a 5), .int M_length, .int M_fault, .int M_failed, .ref (a 6), .int M_signMany, .ref (a 7), .ref (a 8), .int w12, .ref (a 9), .ref (a 10), .int M_at, .ref (a 11), .int M_toldMany])), (a 1, .inl (Y 0, 238, .inl M_g)), (a 2, .inl (Y 0, 1904, .inl M_kept)), (a 3, .inl (Y 0, 238, .inl M_saved)), (a 4, .inl (Y 0, 238, .inl M_before)), (a 5, .inl (Y 0, 60, .inl M_input)), (a 6, .inl (Y 2, 100, .inl M_signs)), (a 7, .inl (Y 0, 6, .inl w10)), (a 8, .inl (Y 0, 6, .inl w11)), (a 9, .inl (Y 0, 2048, .inl M_sums)), (a 10, .inl (Y 0, 2048, .inl M_groups)), (a 11, .inl (Y 0, 155, .inl M_told))] := hD
          refine lv_aload_n hx hb dX11_best_45 rfl (lv_at hl 0 rfl) ?_
          obtain ⟨r14, hr15, hf⟩ := wkb1_s hf
          have hPc := hP.sub (ws' := (wX11 Y a M_g M_kept M_saved M_before M_isSaved M_changes M_isWithin M_code M_input M_length M_fault M_failed M_signs M_signMany w10 w11 w12 M_sums M_groups M_at M_told M_toldMany)) [0, 1, 2, 3, 4, 5, 6, 7, 8, 9, 10, 11] rfl
          refine wk_vi (As := []) (rest := []) ⟨hx, hb, hml, hown, hts⟩ (c_X11_breaks l dC dI Y a M_g M_kept M_saved M_before M_isSaved M_changes M_isWithin M_code M_input M_length M_fault M_failed M_signs M_signMany w10 w11 w12 M_sums M_groups M_at M_told M_toldMany r14 hr15) (cwV 0 hts gX11_best_X11_breaks rfl rfl rfl (by decide +kernel) ⟨Nat.le_of_ble_eq_true rfl, Nat.le_of_ble_eq_true rfl⟩) hK hPc (va_recv hK hP (ci := 11) (q0 := 0) rfl rfl) rfl hl.1 rfl (Nat.le_of_ble_eq_true rfl) dX11_best_46 ⟨Nat.le_of_ble_eq_true rfl, Nat.le_of_ble_eq_true rfl⟩ ?_
          refine lv_if_ge (tgt := 54) hx hb dX11_best_49 (by decide) (fun q16 => ?_) (fun q16 => ?_)
          · have hf := wk_t hf q16
            refine lv_iinc (v := (x2 + 1)) (lv' := [(2, .int (x2 + 1)), (0, .ref (a 0)), (1, .int x1)]) hx hb dX11_best_54 hl (k := 2) rfl rfl (by decide) rfl (fun ls hl => ?_)
            refine lv_goto (tgt := 4) hx hb dX11_best_57 (by decide) ?_
            exact ih x1 (x2 + 1) w10 w11 w12 hf H locs hP hD hS ls (lv_sub hl [1, 2, 0] rfl)
          · have hf := wk_f hf q16
            refine lv_iload_n hx hb dX11_best_52 rfl (lv_at hl 2 rfl) ?_
            refine lv_istore_n (lv' := [(1, .int x2), (0, .ref (a 0)), (2, .int x2)]) hx hb dX11_best_53 rfl hl (by decide) rfl (fun ls hl => ?_)
            refine lv_iinc (v := (x2 + 1)) (lv' := [(2, .int (x2 + 1)), (1, .int x2), (0, .ref (a 0))]) hx hb dX11_best_54 hl (k := 2) rfl rfl (by decide) rfl (fun ls hl => ?_)
            refine lv_goto (tgt := 4) hx hb dX11_best_57 (by decide) ?_
            exact ih x2 (x2 + 1) w10 w11 w12 hf H locs hP hD hS ls (lv_sub hl [2, 1, 0] rfl)
        · have hf := wk_f hf q9
          refine lv_goto (tgt := 54) hx hb dX11_best_37 (by decide) ?_
          refine lv_iinc (v := (x2 + 1)) (lv' := [(2, .int (x2 + 1)), (0, .ref (a 0)), (1, .int x1)]) hx hb dX11_best_54 hl (k := 2) rfl rfl (by decide) rfl (fun ls hl => ?_)
          refine lv_goto (tgt := 4) hx hb dX11_best_57 (by decide) ?_
          exact ih x1 (x2 + 1) M_column M_loads M_many hf H locs hP hD hS ls (lv_sub hl [1, 2, 0] rfl)
set_option maxHeartbeats 4000000 in
set_option maxRecDepth 100000 in
theorem c_X11_best (l : Launch) (dC : Nat → ClassId) (dI : Nat → Nat → Nat) (Y : Nat → ClassId) (a : Nat → Nat) (M_g : Nat → Int32) (M_kept : Nat → Int32) (M_saved : Nat → Int32) (M_before : Nat → Int32) (M_isSaved : Int32) (M_changes : Int32) (M_isWithin : Int32) (M_code : Int32) (M_input : Nat → Int32) (M_length : Int32) (M_fault : Int32) (M_failed : Int32) (M_signs : Nat → Int32) (M_signMany : Int32) (M_column : Nat → Int32) (M_loads : Nat → Int32) (M_many : Int32) (M_sums : Nat → Int32) (M_groups : Nat → Int32) (M_at : Int32) (M_told : Nat → Int32) (M_toldMany : Int32)  (sz : Nat) (r : Int32) (zM_column : Nat → Int32) (zM_loads : Nat → Int32) (zM_many : Int32) (hf : f_X11_best M_g M_column M_loads M_many = some (r, zM_column, zM_loads, zM_many)) : Met l yX11_best wsX11_best ({ frames := 3, cells := 0, slots := 0, locals := 68 } : Room) (va_Pc [.ref (a 0)] (wk_E (dC, dI) Y (wX11 Y a M_g M_kept M_saved M_before M_isSaved M_changes M_isWithin M_code M_input M_length M_fault M_failed M_signs M_signMany M_column M_loads M_many M_sums M_groups M_at M_told M_toldMany) sz)) (va_Qi (fun r2 (_ : Unit) => r2 = r) (fun _ t => wk_X (dC, dI) Y (wX11 Y a M_g M_kept M_saved M_before M_isSaved M_changes M_isWithin M_code M_input M_length M_fault M_failed M_signs M_signMany zM_column zM_loads zM_many M_sums M_groups M_at M_told M_toldMany) (va_A (wX11 Y a M_g M_kept M_saved M_before M_isSaved M_changes M_isWithin M_code M_input M_length M_fault M_failed M_signs M_signMany M_column M_loads M_many M_sums M_groups M_at M_told M_toldMany) sz) t) (va_A (wX11 Y a M_g M_kept M_saved M_before M_isSaved M_changes M_isWithin M_code M_input M_length M_fault M_failed M_signs M_signMany M_column M_loads M_many M_sums M_groups M_at M_told M_toldMany) sz)) 0 0 (va_A (wX11 Y a M_g M_kept M_saved M_before M_isSaved M_changes M_isWithin M_code M_input M_length M_fault M_failed M_signs M_signMany M_column M_loads M_many M_sums M_groups M_at M_told M_toldMany) sz) := by
  refine Met.ofW (cc := cX11_best) (maxL := 3) (ret := (some .int)) (by decide) rfl ?_
  intro p e s m args below meth c s₁ B hml hv
  obtain ⟨rfl, hsz, hP, hK, hD0⟩ := hv
  have hx := B.exec
  have hb := B.bytes
  have hr := B.returns
  have hts := atoms_spec (ws := wsX11_best) B.pre
  have hown : s.vm.findClass RX11 = some m.cls := findClass_of_methodNamed B.named
  have hlocks := B.notSynchronized
  have C0 : wk_C p s m _ meth c cX11_best 3 (some .int) wsX11_best RX11 := ⟨hx, hb, hml, hr, hlocks, hown, hts⟩
  subst hsz
  have hD := hD0.self (sz := s.heap.size)
  generalize hAe : va_A (wX11 Y a M_g M_kept M_saved M_before M_isSaved M_changes M_isWithin M_code M_input M_length M_fault M_failed M_signs M_signMany M_column M_loads M_many M_sums M_groups M_at M_told M_toldMany) s.heap.size = A at hD ⊢
  have hA : ∀ q : Nat, s.heap.size ≤ q → A q := fun q h => by rw [← hAe]; exact Or.inr h
  have hS : va_S A s.heap s.heap [] := va_S.rf
  obtain ⟨H, hHe⟩ : ∃ H, H = s.heap := ⟨_, rfl⟩
  have hS : va_S A s.heap H [] := by rw [hHe]; exact hS
  have hP : va_P (dC, dI) vwCl [(a 0, .inr (11, [.ref (a 1), .ref (a 2), .ref (a 3), .ref (a 4), .int M_isSaved, .int M_changes, .int M_isWithin, .int M_code, .ref (a 5), .int M_length, .int M_fault, .int M_failed, .ref (a 6), .int M_signMany, .ref (a 7), .ref (a 8), .int M_many, .ref (a 9), .ref (a 10), .int M_at, .ref (a 11), .int M_toldMany])), (a 1, .inl (Y 0, 238, .inl M_g)), (a 2, .inl (Y 0, 1904, .inl M_kept)), (a 3, .inl (Y 0, 238, .inl M_saved)), (a 4, .inl (Y 0, 238, .inl M_before)), (a 5, .inl (Y 0, 60, .inl M_input)), (a 6, .inl (Y 2, 100, .inl M_signs)), (a 7, .inl (Y 0, 6, .inl M_column)), (a 8, .inl (Y 0, 6, .inl M_loads)), (a 9, .inl (Y 0, 2048, .inl M_sums)), (a 10, .inl (Y 0, 2048, .inl M_groups)), (a 11, .inl (Y 0, 155, .inl M_told))] H := by rw [hHe]; exact hP
  have hD : va_D A [(a 0, .inr (11, [.ref (a 1), .ref (a 2), .ref (a 3), .ref (a 4), .int M_isSaved, .int M_changes, .int M_isWithin, .int M_code, .ref (a 5), .int M_length, .int M_fault, .int M_failed, .ref (a 6), .int M_signMany, .ref (a 7), .ref (a 8), .int M_many, .ref (a 9), .ref (a 10), .int M_at, .ref (a 11), .int M_toldMany])), (a 1, .inl (Y 0, 238, .inl M_g)), (a 2, .inl (Y 0, 1904, .inl M_kept)), (a 3, .inl (Y 0, 238, .inl M_saved)), (a 4, .inl (Y 0, 238, .inl M_before)), (a 5, .inl (Y 0, 60, .inl M_input)), (a 6, .inl (Y 2, 100, .inl M_signs)), (a 7, .inl (Y 0, 6, .inl M_column)), (a 8, .inl (Y 0, 6, .inl M_loads)), (a 9, .inl (Y 0, 2048, .inl M_sums)), (a 10, .inl (Y 0, 2048, .inl M_groups)), (a 11, .inl (Y 0, 155, .inl M_told))] := hD
  obtain ⟨locs, hlo⟩ : ∃ locs : List Loc, locs = [] := ⟨_, rfl⟩
  have hS : va_S A s.heap H locs := by rw [hlo]; exact hS
  have hl := lv_entry ([.ref (a 0)]) (n := 3) (Nat.le_of_ble_eq_true rfl)
  rw [lg_entry_eq]
  generalize (lg_sl ([.ref (a 0)]) ++ List.replicate (3 - (lg_sl ([.ref (a 0)])).length) Slot.unset).toArray = ls at hl ⊢
  have hl : lv_has ls 3 [(0, .ref (a 0))] := hl
  refine wk_start hHe hlo ?_
  rw [f_X11_best] at hf
  refine lv_iconst (v := 0) hx hb dX11_best_0 (by decide) ?_
  refine lv_istore_n (lv' := [(1, .int 0), (0, .ref (a 0))]) hx hb dX11_best_1 rfl hl (by decide) rfl (fun ls hl => ?_)
  refine lv_iconst (v := 1) hx hb dX11_best_2 (by decide) ?_
  refine lv_istore_n (lv' := [(2, .int 1), (1, .int 0), (0, .ref (a 0))]) hx hb dX11_best_3 rfl hl (by decide) rfl (fun ls hl => ?_)
  exact wl_X11_best_L4 C0 hK hA FU 0 1 M_column M_loads M_many hf H locs hP hD hS ls (lv_sub hl [2, 1, 0] rfl)
theorem lk_X11_bestHeight_RX11_51 : Cond.fieldLink RX11 51 "CircusLedgerModel" "code" "I" ∈ wsX11_bestHeight := by decide +kernel
theorem in_X11_bestHeight_X11 : ∀ w ∈ u_ws RX11 TX11 22, w ∈ wsX11_bestHeight := by decide +kernel
def f_X11_bestHeight (M_g : Nat → Int32) (M_code : Int32) (M_column : Nat → Int32) (M_loads : Nat → Int32) (M_many : Int32) : Option (Int32 × Int32 × (Nat → Int32) × (Nat → Int32) × Int32) :=
  wkb4 (f_X11_best M_g M_column M_loads M_many) (fun r1 w2 w3 w4 =>
  wkb1 (f_X11_tall M_g r1) (fun r6 =>
  some (r6, 0, w2, w3, w4)))
set_option maxHeartbeats 4000000 in
set_option maxRecDepth 100000 in
theorem c_X11_bestHeight (l : Launch) (dC : Nat → ClassId) (dI : Nat → Nat → Nat) (Y : Nat → ClassId) (a : Nat → Nat) (M_g : Nat → Int32) (M_kept : Nat → Int32) (M_saved : Nat → Int32) (M_before : Nat → Int32) (M_isSaved : Int32) (M_changes : Int32) (M_isWithin : Int32) (M_code : Int32) (M_input : Nat → Int32) (M_length : Int32) (M_fault : Int32) (M_failed : Int32) (M_signs : Nat → Int32) (M_signMany : Int32) (M_column : Nat → Int32) (M_loads : Nat → Int32) (M_many : Int32) (M_sums : Nat → Int32) (M_groups : Nat → Int32) (M_at : Int32) (M_told : Nat → Int32) (M_toldMany : Int32)  (sz : Nat) (r : Int32) (zM_code : Int32) (zM_column : Nat → Int32) (zM_loads : Nat → Int32) (zM_many : Int32) (hf : f_X11_bestHeight M_g M_code M_column M_loads M_many = some (r, zM_code, zM_column, zM_loads, zM_many)) : Met l yX11_bestHeight wsX11_bestHeight ({ frames := 4, cells := 0, slots := 0, locals := 90 } : Room) (va_Pc [.ref (a 0)] (wk_E (dC, dI) Y (wX11 Y a M_g M_kept M_saved M_before M_isSaved M_changes M_isWithin M_code M_input M_length M_fault M_failed M_signs M_signMany M_column M_loads M_many M_sums M_groups M_at M_told M_toldMany) sz)) (va_Qi (fun r2 (_ : Unit) => r2 = r) (fun _ t => wk_X (dC, dI) Y (wX11 Y a M_g M_kept M_saved M_before M_isSaved M_changes M_isWithin zM_code M_input M_length M_fault M_failed M_signs M_signMany zM_column zM_loads zM_many M_sums M_groups M_at M_told M_toldMany) (va_A (wX11 Y a M_g M_kept M_saved M_before M_isSaved M_changes M_isWithin M_code M_input M_length M_fault M_failed M_signs M_signMany M_column M_loads M_many M_sums M_groups M_at M_told M_toldMany) sz) t) (va_A (wX11 Y a M_g M_kept M_saved M_before M_isSaved M_changes M_isWithin M_code M_input M_length M_fault M_failed M_signs M_signMany M_column M_loads M_many M_sums M_groups M_at M_told M_toldMany) sz)) 0 0 (va_A (wX11 Y a M_g M_kept M_saved M_before M_isSaved M_changes M_isWithin M_code M_input M_length M_fault M_failed M_signs M_signMany M_column M_loads M_many M_sums M_groups M_at M_told M_toldMany) sz) := by
  refine Met.ofW (cc := cX11_bestHeight) (maxL := 1) (ret := (some .int)) (by decide) rfl ?_
  intro p e s m args below meth c s₁ B hml hv
  obtain ⟨rfl, hsz, hP, hK, hD0⟩ := hv
  have hx := B.exec
  have hb := B.bytes
  have hr := B.returns
  have hts := atoms_spec (ws := wsX11_bestHeight) B.pre
  have hown : s.vm.findClass RX11 = some m.cls := findClass_of_methodNamed B.named
  have hlocks := B.notSynchronized
  have C0 : wk_C p s m _ meth c cX11_bestHeight 1 (some .int) wsX11_bestHeight RX11 := ⟨hx, hb, hml, hr, hlocks, hown, hts⟩
  subst hsz
  have hD := hD0.self (sz := s.heap.size)
  generalize hAe : va_A (wX11 Y a M_g M_kept M_saved M_before M_isSaved M_changes M_isWithin M_code M_input M_length M_fault M_failed M_signs M_signMany M_column M_loads M_many M_sums M_groups M_at M_told M_toldMany) s.heap.size = A at hD ⊢
  have hA : ∀ q : Nat, s.heap.size ≤ q → A q := fun q h => by rw [← hAe]; exact Or.inr h
  have hS : va_S A s.heap s.heap [] := va_S.rf
  obtain ⟨H, hHe⟩ : ∃ H, H = s.heap := ⟨_, rfl⟩
  have hS : va_S A s.heap H [] := by rw [hHe]; exact hS
  have hP : va_P (dC, dI) vwCl [(a 0, .inr (11, [.ref (a 1), .ref (a 2), .ref (a 3), .ref (a 4), .int M_isSaved, .int M_changes, .int M_isWithin, .int M_code, .ref (a 5), .int M_length, .int M_fault, .int M_failed, .ref (a 6), .int M_signMany, .ref (a 7), .ref (a 8), .int M_many, .ref (a 9), .ref (a 10), .int M_at, .ref (a 11), .int M_toldMany])), (a 1, .inl (Y 0, 238, .inl M_g)), (a 2, .inl (Y 0, 1904, .inl M_kept)), (a 3, .inl (Y 0, 238, .inl M_saved)), (a 4, .inl (Y 0, 238, .inl M_before)), (a 5, .inl (Y 0, 60, .inl M_input)), (a 6, .inl (Y 2, 100, .inl M_signs)), (a 7, .inl (Y 0, 6, .inl M_column)), (a 8, .inl (Y 0, 6, .inl M_loads)), (a 9, .inl (Y 0, 2048, .inl M_sums)), (a 10, .inl (Y 0, 2048, .inl M_groups)), (a 11, .inl (Y 0, 155, .inl M_told))] H := by rw [hHe]; exact hP
  have hD : va_D A [(a 0, .inr (11, [.ref (a 1), .ref (a 2), .ref (a 3), .ref (a 4), .int M_isSaved, .int M_changes, .int M_isWithin, .int M_code, .ref (a 5), .int M_length, .int M_fault, .int M_failed, .ref (a 6), .int M_signMany, .ref (a 7), .ref (a 8), .int M_many, .ref (a 9), .ref (a 10), .int M_at, .ref (a 11), .int M_toldMany])), (a 1, .inl (Y 0, 238, .inl M_g)), (a 2, .inl (Y 0, 1904, .inl M_kept)), (a 3, .inl (Y 0, 238, .inl M_saved)), (a 4, .inl (Y 0, 238, .inl M_before)), (a 5, .inl (Y 0, 60, .inl M_input)), (a 6, .inl (Y 2, 100, .inl M_signs)), (a 7, .inl (Y 0, 6, .inl M_column)), (a 8, .inl (Y 0, 6, .inl M_loads)), (a 9, .inl (Y 0, 2048, .inl M_sums)), (a 10, .inl (Y 0, 2048, .inl M_groups)), (a 11, .inl (Y 0, 155, .inl M_told))] := hD
  obtain ⟨locs, hlo⟩ : ∃ locs : List Loc, locs = [] := ⟨_, rfl⟩
  have hS : va_S A s.heap H locs := by rw [hlo]; exact hS
  have hl := lv_entry ([.ref (a 0)]) (n := 1) (Nat.le_of_ble_eq_true rfl)
  rw [lg_entry_eq]
  generalize (lg_sl ([.ref (a 0)]) ++ List.replicate (1 - (lg_sl ([.ref (a 0)])).length) Slot.unset).toArray = ls at hl ⊢
  have hl : lv_has ls 1 [(0, .ref (a 0))] := hl
  refine wk_start hHe hlo ?_
  rw [f_X11_bestHeight] at hf
  refine lv_aload_n hx hb dX11_bestHeight_0 rfl (lv_at hl 0 rfl) ?_
  refine lv_iconst (v := 0) hx hb dX11_bestHeight_1 (by decide) ?_
  refine va_put (D := (dC, dI)) (ci := 11) (v := .int 0) (ty := .int) (C := RX11) (T := TX11) (N := 22) hx hb hts in_X11_bestHeight_X11 tyX11 tyX11_ok nmX11 hown hK hP hD hS 0 rfl rfl 7 (by decide) (hts _ lk_X11_bestHeight_RX11_51) (fun _ h9 => h9) rfl (by decide +kernel) rfl rfl (Nat.le_of_ble_eq_true rfl) dX11_bestHeight_2 (fun H locs hP hD hS => ?_)
  have hP : va_P (dC, dI) vwCl [(a 0, .inr (11, [.ref (a 1), .ref (a 2), .ref (a 3), .ref (a 4), .int M_isSaved, .int M_changes, .int M_isWithin, .int 0, .ref (a 5), .int M_length, .int M_fault, .int M_failed, .ref (a 6), .int M_signMany, .ref (a 7), .ref (a 8), .int M_many, .ref (a 9), .ref (a 10), .int M_at, .ref (a 11), .int M_toldMany])), (a 1, .inl (Y 0, 238, .inl M_g)), (a 2, .inl (Y 0, 1904, .inl M_kept)), (a 3, .inl (Y 0, 238, .inl M_saved)), (a 4, .inl (Y 0, 238, .inl M_before)), (a 5, .inl (Y 0, 60, .inl M_input)), (a 6, .inl (Y 2, 100, .inl M_signs)), (a 7, .inl (Y 0, 6, .inl M_column)), (a 8, .inl (Y 0, 6, .inl M_loads)), (a 9, .inl (Y 0, 2048, .inl M_sums)), (a 10, .inl (Y 0, 2048, .inl M_groups)), (a 11, .inl (Y 0, 155, .inl M_told))] H := hP
  have hD : va_D A [(a 0, .inr (11, [.ref (a 1), .ref (a 2), .ref (a 3), .ref (a 4), .int M_isSaved, .int M_changes, .int M_isWithin, .int 0, .ref (a 5), .int M_length, .int M_fault, .int M_failed, .ref (a 6), .int M_signMany, .ref (a 7), .ref (a 8), .int M_many, .ref (a 9), .ref (a 10), .int M_at, .ref (a 11), .int M_toldMany])), (a 1, .inl (Y 0, 238, .inl M_g)), (a 2, .inl (Y 0, 1904, .inl M_kept)), (a 3, .inl (Y 0, 238, .inl M_saved)), (a 4, .inl (Y 0, 238, .inl M_before)), (a 5, .inl (Y 0, 60, .inl M_input)), (a 6, .inl (Y 2, 100, .inl M_signs)), (a 7, .inl (Y 0, 6, .inl M_column)), (a 8, .inl (Y 0, 6, .inl M_loads)), (a 9, .inl (Y 0, 2048, .inl M_sums)), (a 10, .inl (Y 0, 2048, .inl M_groups)), (a 11, .inl (Y 0, 155, .inl M_told))] := hD
  refine lv_aload_n hx hb dX11_bestHeight_5 rfl (lv_at hl 0 rfl) ?_
  refine lv_aload_n hx hb dX11_bestHeight_6 rfl (lv_at hl 0 rfl) ?_
  obtain ⟨r1, w2, w3, w4, hr5, hf⟩ := wkb4_s hf
  refine wk_evi (As := []) (rest := [.ref (a 0)]) (wc := (wX11 Y a M_g M_kept M_saved M_before M_isSaved M_changes M_isWithin 0 M_input M_length M_fault M_failed M_signs M_signMany M_column M_loads M_many M_sums M_groups M_at M_told M_toldMany)) (w1 := (wX11 Y a M_g M_kept M_saved M_before M_isSaved M_changes M_isWithin 0 M_input M_length M_fault M_failed M_signs M_signMany w2 w3 w4 M_sums M_groups M_at M_told M_toldMany)) (wr := []) ⟨hx, hb, hml, hown, hts⟩ (c_X11_best l dC dI Y a M_g M_kept M_saved M_before M_isSaved M_changes M_isWithin 0 M_input M_length M_fault M_failed M_signs M_signMany M_column M_loads M_many M_sums M_groups M_at M_told M_toldMany H.size r1 w2 w3 w4 hr5) (cwV 0 hts gX11_bestHeight_X11_best rfl rfl rfl (by decide +kernel) ⟨Nat.le_of_ble_eq_true rfl, Nat.le_of_ble_eq_true rfl⟩) hK hP hD hS hA [0, 1, 2, 3, 4, 5, 6, 7, 8, 9, 10, 11] [] rfl rfl (by decide) (by decide) (by decide) (va_recv hK hP (ci := 11) (q0 := 0) rfl rfl) rfl hl.1 rfl (Nat.le_of_ble_eq_true rfl) dX11_bestHeight_7 ⟨Nat.le_of_ble_eq_true rfl, Nat.le_of_ble_eq_true rfl⟩ (fun H locs hP hD hS => ?_)
  have hP : va_P (dC, dI) vwCl [(a 0, .inr (11, [.ref (a 1), .ref (a 2), .ref (a 3), .ref (a 4), .int M_isSaved, .int M_changes, .int M_isWithin, .int 0, .ref (a 5), .int M_length, .int M_fault, .int M_failed, .ref (a 6), .int M_signMany, .ref (a 7), .ref (a 8), .int w4, .ref (a 9), .ref (a 10), .int M_at, .ref (a 11), .int M_toldMany])), (a 1, .inl (Y 0, 238, .inl M_g)), (a 2, .inl (Y 0, 1904, .inl M_kept)), (a 3, .inl (Y 0, 238, .inl M_saved)), (a 4, .inl (Y 0, 238, .inl M_before)), (a 5, .inl (Y 0, 60, .inl M_input)), (a 6, .inl (Y 2, 100, .inl M_signs)), (a 7, .inl (Y 0, 6, .inl w2)), (a 8, .inl (Y 0, 6, .inl w3)), (a 9, .inl (Y 0, 2048, .inl M_sums)), (a 10, .inl (Y 0, 2048, .inl M_groups)), (a 11, .inl (Y 0, 155, .inl M_told))] H := hP
  have hD : va_D A [(a 0, .inr (11, [.ref (a 1), .ref (a 2), .ref (a 3), .ref (a 4), .int M_isSaved, .int M_changes, .int M_isWithin, .int 0, .ref (a 5), .int M_length, .int M_fault, .int M_failed, .ref (a 6), .int M_signMany, .ref (a 7), .ref (a 8), .int w4, .ref (a 9), .ref (a 10), .int M_at, .ref (a 11), .int M_toldMany])), (a 1, .inl (Y 0, 238, .inl M_g)), (a 2, .inl (Y 0, 1904, .inl M_kept)), (a 3, .inl (Y 0, 238, .inl M_saved)), (a 4, .inl (Y 0, 238, .inl M_before)), (a 5, .inl (Y 0, 60, .inl M_input)), (a 6, .inl (Y 2, 100, .inl M_signs)), (a 7, .inl (Y 0, 6, .inl w2)), (a 8, .inl (Y 0, 6, .inl w3)), (a 9, .inl (Y 0, 2048, .inl M_sums)), (a 10, .inl (Y 0, 2048, .inl M_groups)), (a 11, .inl (Y 0, 155, .inl M_told))] := hD
  obtain ⟨r6, hr7, hf⟩ := wkb1_s hf
  have hPc := hP.sub (ws' := (wX11 Y a M_g M_kept M_saved M_before M_isSaved M_changes M_isWithin 0 M_input M_length M_fault M_failed M_signs M_signMany w2 w3 w4 M_sums M_groups M_at M_told M_toldMany)) [0, 1, 2, 3, 4, 5, 6, 7, 8, 9, 10, 11] rfl
  refine wk_vi (As := [.int r1]) (rest := []) ⟨hx, hb, hml, hown, hts⟩ (c_X11_tall l dC dI Y a M_g M_kept M_saved M_before M_isSaved M_changes M_isWithin 0 M_input M_length M_fault M_failed M_signs M_signMany w2 w3 w4 M_sums M_groups M_at M_told M_toldMany r1 r6 hr7) (cwV 1 hts gX11_bestHeight_X11_tall rfl rfl rfl (by decide +kernel) ⟨Nat.le_of_ble_eq_true rfl, Nat.le_of_ble_eq_true rfl⟩) hK hPc (va_recv hK hP (ci := 11) (q0 := 0) rfl rfl) rfl hl.1 rfl (Nat.le_of_ble_eq_true rfl) dX11_bestHeight_10 ⟨Nat.le_of_ble_eq_true rfl, Nat.le_of_ble_eq_true rfl⟩ ?_
  obtain ⟨e0, e1, e2, e3, e4⟩ := wke5 hf
  subst e0
  subst e1
  subst e2
  subst e3
  subst e4
  have hP9 := hP.sub (ws' := (wX11 Y a M_g M_kept M_saved M_before M_isSaved M_changes M_isWithin 0 M_input M_length M_fault M_failed M_signs M_signMany w2 w3 w4 M_sums M_groups M_at M_told M_toldMany)) [0, 1, 2, 3, 4, 5, 6, 7, 8, 9, 10, 11] rfl
  have hD9 := hD.sub (ws' := (wX11 Y a M_g M_kept M_saved M_before M_isSaved M_changes M_isWithin 0 M_input M_length M_fault M_failed M_signs M_signMany w2 w3 w4 M_sums M_groups M_at M_told M_toldMany)) [0, 1, 2, 3, 4, 5, 6, 7, 8, 9, 10, 11] (by decide) rfl
  exact W.iret (v := r6) hx hb hr (fun t ht hW => ⟨⟨r6, (), rfl, rfl, by rw [ht]; exact hP9, va_K.moved hW.alike hK, hD9⟩, hS.F ht⟩) hS.2.2 dX11_bestHeight_13
theorem lk_X11_bestHeightBySearch_RX11_51 : Cond.fieldLink RX11 51 "CircusLedgerModel" "code" "I" ∈ wsX11_bestHeightBySearch := by decide +kernel
theorem in_X11_bestHeightBySearch_X11 : ∀ w ∈ u_ws RX11 TX11 22, w ∈ wsX11_bestHeightBySearch := by decide +kernel
def f_X11_bestHeightBySearch (M_g : Nat → Int32) (M_code : Int32) (M_column : Nat → Int32) (M_loads : Nat → Int32) (M_many : Int32) : Option (Int32 × Int32 × (Nat → Int32) × (Nat → Int32) × Int32) :=
  wkb4 (f_X11_best M_g M_column M_loads M_many) (fun r1 w2 w3 w4 =>
  wkb1 (f_X11_tall M_g r1) (fun r6 =>
  some (r6, 0, w2, w3, w4)))
set_option maxHeartbeats 4000000 in
set_option maxRecDepth 100000 in
theorem c_X11_bestHeightBySearch (l : Launch) (dC : Nat → ClassId) (dI : Nat → Nat → Nat) (Y : Nat → ClassId) (a : Nat → Nat) (M_g : Nat → Int32) (M_kept : Nat → Int32) (M_saved : Nat → Int32) (M_before : Nat → Int32) (M_isSaved : Int32) (M_changes : Int32) (M_isWithin : Int32) (M_code : Int32) (M_input : Nat → Int32) (M_length : Int32) (M_fault : Int32) (M_failed : Int32) (M_signs : Nat → Int32) (M_signMany : Int32) (M_column : Nat → Int32) (M_loads : Nat → Int32) (M_many : Int32) (M_sums : Nat → Int32) (M_groups : Nat → Int32) (M_at : Int32) (M_told : Nat → Int32) (M_toldMany : Int32)  (sz : Nat) (r : Int32) (zM_code : Int32) (zM_column : Nat → Int32) (zM_loads : Nat → Int32) (zM_many : Int32) (hf : f_X11_bestHeightBySearch M_g M_code M_column M_loads M_many = some (r, zM_code, zM_column, zM_loads, zM_many)) : Met l yX11_bestHeightBySearch wsX11_bestHeightBySearch ({ frames := 4, cells := 0, slots := 0, locals := 90 } : Room) (va_Pc [.ref (a 0)] (wk_E (dC, dI) Y (wX11 Y a M_g M_kept M_saved M_before M_isSaved M_changes M_isWithin M_code M_input M_length M_fault M_failed M_signs M_signMany M_column M_loads M_many M_sums M_groups M_at M_told M_toldMany) sz)) (va_Qi (fun r2 (_ : Unit) => r2 = r) (fun _ t => wk_X (dC, dI) Y (wX11 Y a M_g M_kept M_saved M_before M_isSaved M_changes M_isWithin zM_code M_input M_length M_fault M_failed M_signs M_signMany zM_column zM_loads zM_many M_sums M_groups M_at M_told M_toldMany) (va_A (wX11 Y a M_g M_kept M_saved M_before M_isSaved M_changes M_isWithin M_code M_input M_length M_fault M_failed M_signs M_signMany M_column M_loads M_many M_sums M_groups M_at M_told M_toldMany) sz) t) (va_A (wX11 Y a M_g M_kept M_saved M_before M_isSaved M_changes M_isWithin M_code M_input M_length M_fault M_failed M_signs M_signMany M_column M_loads M_many M_sums M_groups M_at M_told M_toldMany) sz)) 0 0 (va_A (wX11 Y a M_g M_kept M_saved M_before M_isSaved M_changes M_isWithin M_code M_input M_length M_fault M_failed M_signs M_signMany M_column M_loads M_many M_sums M_groups M_at M_told M_toldMany) sz) := by
  refine Met.ofW (cc := cX11_bestHeightBySearch) (maxL := 1) (ret := (some .int)) (by decide) rfl ?_
  intro p e s m args below meth c s₁ B hml hv
  obtain ⟨rfl, hsz, hP, hK, hD0⟩ := hv
  have hx := B.exec
  have hb := B.bytes
  have hr := B.returns
  have hts := atoms_spec (ws := wsX11_bestHeightBySearch) B.pre
  have hown : s.vm.findClass RX11 = some m.cls := findClass_of_methodNamed B.named
  have hlocks := B.notSynchronized
  have C0 : wk_C p s m _ meth c cX11_bestHeightBySearch 1 (some .int) wsX11_bestHeightBySearch RX11 := ⟨hx, hb, hml, hr, hlocks, hown, hts⟩
  subst hsz
  have hD := hD0.self (sz := s.heap.size)
  generalize hAe : va_A (wX11 Y a M_g M_kept M_saved M_before M_isSaved M_changes M_isWithin M_code M_input M_length M_fault M_failed M_signs M_signMany M_column M_loads M_many M_sums M_groups M_at M_told M_toldMany) s.heap.size = A at hD ⊢
  have hA : ∀ q : Nat, s.heap.size ≤ q → A q := fun q h => by rw [← hAe]; exact Or.inr h
  have hS : va_S A s.heap s.heap [] := va_S.rf
  obtain ⟨H, hHe⟩ : ∃ H, H = s.heap := ⟨_, rfl⟩
  have hS : va_S A s.heap H [] := by rw [hHe]; exact hS
  have hP : va_P (dC, dI) vwCl [(a 0, .inr (11, [.ref (a 1), .ref (a 2), .ref (a 3), .ref (a 4), .int M_isSaved, .int M_changes, .int M_isWithin, .int M_code, .ref (a 5), .int M_length, .int M_fault, .int M_failed, .ref (a 6), .int M_signMany, .ref (a 7), .ref (a 8), .int M_many, .ref (a 9), .ref (a 10), .int M_at, .ref (a 11), .int M_toldMany])), (a 1, .inl (Y 0, 238, .inl M_g)), (a 2, .inl (Y 0, 1904, .inl M_kept)), (a 3, .inl (Y 0, 238, .inl M_saved)), (a 4, .inl (Y 0, 238, .inl M_before)), (a 5, .inl (Y 0, 60, .inl M_input)), (a 6, .inl (Y 2, 100, .inl M_signs)), (a 7, .inl (Y 0, 6, .inl M_column)), (a 8, .inl (Y 0, 6, .inl M_loads)), (a 9, .inl (Y 0, 2048, .inl M_sums)), (a 10, .inl (Y 0, 2048, .inl M_groups)), (a 11, .inl (Y 0, 155, .inl M_told))] H := by rw [hHe]; exact hP
  have hD : va_D A [(a 0, .inr (11, [.ref (a 1), .ref (a 2), .ref (a 3), .ref (a 4), .int M_isSaved, .int M_changes, .int M_isWithin, .int M_code, .ref (a 5), .int M_length, .int M_fault, .int M_failed, .ref (a 6), .int M_signMany, .ref (a 7), .ref (a 8), .int M_many, .ref (a 9), .ref (a 10), .int M_at, .ref (a 11), .int M_toldMany])), (a 1, .inl (Y 0, 238, .inl M_g)), (a 2, .inl (Y 0, 1904, .inl M_kept)), (a 3, .inl (Y 0, 238, .inl M_saved)), (a 4, .inl (Y 0, 238, .inl M_before)), (a 5, .inl (Y 0, 60, .inl M_input)), (a 6, .inl (Y 2, 100, .inl M_signs)), (a 7, .inl (Y 0, 6, .inl M_column)), (a 8, .inl (Y 0, 6, .inl M_loads)), (a 9, .inl (Y 0, 2048, .inl M_sums)), (a 10, .inl (Y 0, 2048, .inl M_groups)), (a 11, .inl (Y 0, 155, .inl M_told))] := hD
  obtain ⟨locs, hlo⟩ : ∃ locs : List Loc, locs = [] := ⟨_, rfl⟩
  have hS : va_S A s.heap H locs := by rw [hlo]; exact hS
  have hl := lv_entry ([.ref (a 0)]) (n := 1) (Nat.le_of_ble_eq_true rfl)
  rw [lg_entry_eq]
  generalize (lg_sl ([.ref (a 0)]) ++ List.replicate (1 - (lg_sl ([.ref (a 0)])).length) Slot.unset).toArray = ls at hl ⊢
  have hl : lv_has ls 1 [(0, .ref (a 0))] := hl
  refine wk_start hHe hlo ?_
  rw [f_X11_bestHeightBySearch] at hf
  refine lv_aload_n hx hb dX11_bestHeightBySearch_0 rfl (lv_at hl 0 rfl) ?_
  refine lv_iconst (v := 0) hx hb dX11_bestHeightBySearch_1 (by decide) ?_
  refine va_put (D := (dC, dI)) (ci := 11) (v := .int 0) (ty := .int) (C := RX11) (T := TX11) (N := 22) hx hb hts in_X11_bestHeightBySearch_X11 tyX11 tyX11_ok nmX11 hown hK hP hD hS 0 rfl rfl 7 (by decide) (hts _ lk_X11_bestHeightBySearch_RX11_51) (fun _ h9 => h9) rfl (by decide +kernel) rfl rfl (Nat.le_of_ble_eq_true rfl) dX11_bestHeightBySearch_2 (fun H locs hP hD hS => ?_)
  have hP : va_P (dC, dI) vwCl [(a 0, .inr (11, [.ref (a 1), .ref (a 2), .ref (a 3), .ref (a 4), .int M_isSaved, .int M_changes, .int M_isWithin, .int 0, .ref (a 5), .int M_length, .int M_fault, .int M_failed, .ref (a 6), .int M_signMany, .ref (a 7), .ref (a 8), .int M_many, .ref (a 9), .ref (a 10), .int M_at, .ref (a 11), .int M_toldMany])), (a 1, .inl (Y 0, 238, .inl M_g)), (a 2, .inl (Y 0, 1904, .inl M_kept)), (a 3, .inl (Y 0, 238, .inl M_saved)), (a 4, .inl (Y 0, 238, .inl M_before)), (a 5, .inl (Y 0, 60, .inl M_input)), (a 6, .inl (Y 2, 100, .inl M_signs)), (a 7, .inl (Y 0, 6, .inl M_column)), (a 8, .inl (Y 0, 6, .inl M_loads)), (a 9, .inl (Y 0, 2048, .inl M_sums)), (a 10, .inl (Y 0, 2048, .inl M_groups)), (a 11, .inl (Y 0, 155, .inl M_told))] H := hP
  have hD : va_D A [(a 0, .inr (11, [.ref (a 1), .ref (a 2), .ref (a 3), .ref (a 4), .int M_isSaved, .int M_changes, .int M_isWithin, .int 0, .ref (a 5), .int M_length, .int M_fault, .int M_failed, .ref (a 6), .int M_signMany, .ref (a 7), .ref (a 8), .int M_many, .ref (a 9), .ref (a 10), .int M_at, .ref (a 11), .int M_toldMany])), (a 1, .inl (Y 0, 238, .inl M_g)), (a 2, .inl (Y 0, 1904, .inl M_kept)), (a 3, .inl (Y 0, 238, .inl M_saved)), (a 4, .inl (Y 0, 238, .inl M_before)), (a 5, .inl (Y 0, 60, .inl M_input)), (a 6, .inl (Y 2, 100, .inl M_signs)), (a 7, .inl (Y 0, 6, .inl M_column)), (a 8, .inl (Y 0, 6, .inl M_loads)), (a 9, .inl (Y 0, 2048, .inl M_sums)), (a 10, .inl (Y 0, 2048, .inl M_groups)), (a 11, .inl (Y 0, 155, .inl M_told))] := hD
  refine lv_aload_n hx hb dX11_bestHeightBySearch_5 rfl (lv_at hl 0 rfl) ?_
  refine lv_aload_n hx hb dX11_bestHeightBySearch_6 rfl (lv_at hl 0 rfl) ?_
  obtain ⟨r1, w2, w3, w4, hr5, hf⟩ := wkb4_s hf
  refine wk_evi (As := []) (rest := [.ref (a 0)]) (wc := (wX11 Y a M_g M_kept M_saved M_before M_isSaved M_changes M_isWithin 0 M_input M_length M_fault M_failed M_signs M_signMany M_column M_loads M_many M_sums M_groups M_at M_told M_toldMany)) (w1 := (wX11 Y a M_g M_kept M_saved M_before M_isSaved M_changes M_isWithin 0 M_input M_length M_fault M_failed M_signs M_signMany w2 w3 w4 M_sums M_groups M_at M_told M_toldMany)) (wr := []) ⟨hx, hb, hml, hown, hts⟩ (c_X11_best l dC dI Y a M_g M_kept M_saved M_before M_isSaved M_changes M_isWithin 0 M_input M_length M_fault M_failed M_signs M_signMany M_column M_loads M_many M_sums M_groups M_at M_told M_toldMany H.size r1 w2 w3 w4 hr5) (cwV 0 hts gX11_bestHeightBySearch_X11_best rfl rfl rfl (by decide +kernel) ⟨Nat.le_of_ble_eq_true rfl, Nat.le_of_ble_eq_true rfl⟩) hK hP hD hS hA [0, 1, 2, 3, 4, 5, 6, 7, 8, 9, 10, 11] [] rfl rfl (by decide) (by decide) (by decide) (va_recv hK hP (ci := 11) (q0 := 0) rfl rfl) rfl hl.1 rfl (Nat.le_of_ble_eq_true rfl) dX11_bestHeightBySearch_7 ⟨Nat.le_of_ble_eq_true rfl, Nat.le_of_ble_eq_true rfl⟩ (fun H locs hP hD hS => ?_)
  have hP : va_P (dC, dI) vwCl [(a 0, .inr (11, [.ref (a 1), .ref (a 2), .ref (a 3), .ref (a 4), .int M_isSaved, .int M_changes, .int M_isWithin, .int 0, .ref (a 5), .int M_length, .int M_fault, .int M_failed, .ref (a 6), .int M_signMany, .ref (a 7), .ref (a 8), .int w4, .ref (a 9), .ref (a 10), .int M_at, .ref (a 11), .int M_toldMany])), (a 1, .inl (Y 0, 238, .inl M_g)), (a 2, .inl (Y 0, 1904, .inl M_kept)), (a 3, .inl (Y 0, 238, .inl M_saved)), (a 4, .inl (Y 0, 238, .inl M_before)), (a 5, .inl (Y 0, 60, .inl M_input)), (a 6, .inl (Y 2, 100, .inl M_signs)), (a 7, .inl (Y 0, 6, .inl w2)), (a 8, .inl (Y 0, 6, .inl w3)), (a 9, .inl (Y 0, 2048, .inl M_sums)), (a 10, .inl (Y 0, 2048, .inl M_groups)), (a 11, .inl (Y 0, 155, .inl M_told))] H := hP
  have hD : va_D A [(a 0, .inr (11, [.ref (a 1), .ref (a 2), .ref (a 3), .ref (a 4), .int M_isSaved, .int M_changes, .int M_isWithin, .int 0, .ref (a 5), .int M_length, .int M_fault, .int M_failed, .ref (a 6), .int M_signMany, .ref (a 7), .ref (a 8), .int w4, .ref (a 9), .ref (a 10), .int M_at, .ref (a 11), .int M_toldMany])), (a 1, .inl (Y 0, 238, .inl M_g)), (a 2, .inl (Y 0, 1904, .inl M_kept)), (a 3, .inl (Y 0, 238, .inl M_saved)), (a 4, .inl (Y 0, 238, .inl M_before)), (a 5, .inl (Y 0, 60, .inl M_input)), (a 6, .inl (Y 2, 100, .inl M_signs)), (a 7, .inl (Y 0, 6, .inl w2)), (a 8, .inl (Y 0, 6, .inl w3)), (a 9, .inl (Y 0, 2048, .inl M_sums)), (a 10, .inl (Y 0, 2048, .inl M_groups)), (a 11, .inl (Y 0, 155, .inl M_told))] := hD
  obtain ⟨r6, hr7, hf⟩ := wkb1_s hf
  have hPc := hP.sub (ws' := (wX11 Y a M_g M_kept M_saved M_before M_isSaved M_changes M_isWithin 0 M_input M_length M_fault M_failed M_signs M_signMany w2 w3 w4 M_sums M_groups M_at M_told M_toldMany)) [0, 1, 2, 3, 4, 5, 6, 7, 8, 9, 10, 11] rfl
  refine wk_vi (As := [.int r1]) (rest := []) ⟨hx, hb, hml, hown, hts⟩ (c_X11_tall l dC dI Y a M_g M_kept M_saved M_before M_isSaved M_changes M_isWithin 0 M_input M_length M_fault M_failed M_signs M_signMany w2 w3 w4 M_sums M_groups M_at M_told M_toldMany r1 r6 hr7) (cwV 1 hts gX11_bestHeightBySearch_X11_tall rfl rfl rfl (by decide +kernel) ⟨Nat.le_of_ble_eq_true rfl, Nat.le_of_ble_eq_true rfl⟩) hK hPc (va_recv hK hP (ci := 11) (q0 := 0) rfl rfl) rfl hl.1 rfl (Nat.le_of_ble_eq_true rfl) dX11_bestHeightBySearch_10 ⟨Nat.le_of_ble_eq_true rfl, Nat.le_of_ble_eq_true rfl⟩ ?_
  obtain ⟨e0, e1, e2, e3, e4⟩ := wke5 hf
  subst e0
  subst e1
  subst e2
  subst e3
  subst e4
  have hP9 := hP.sub (ws' := (wX11 Y a M_g M_kept M_saved M_before M_isSaved M_changes M_isWithin 0 M_input M_length M_fault M_failed M_signs M_signMany w2 w3 w4 M_sums M_groups M_at M_told M_toldMany)) [0, 1, 2, 3, 4, 5, 6, 7, 8, 9, 10, 11] rfl
  have hD9 := hD.sub (ws' := (wX11 Y a M_g M_kept M_saved M_before M_isSaved M_changes M_isWithin 0 M_input M_length M_fault M_failed M_signs M_signMany w2 w3 w4 M_sums M_groups M_at M_told M_toldMany)) [0, 1, 2, 3, 4, 5, 6, 7, 8, 9, 10, 11] (by decide) rfl
  exact W.iret (v := r6) hx hb hr (fun t ht hW => ⟨⟨r6, (), rfl, rfl, by rw [ht]; exact hP9, va_K.moved hW.alike hK, hD9⟩, hS.F ht⟩) hS.2.2 dX11_bestHeightBySearch_13
theorem lk_X11_bestColumn_RX11_51 : Cond.fieldLink RX11 51 "CircusLedgerModel" "code" "I" ∈ wsX11_bestColumn := by decide +kernel
theorem in_X11_bestColumn_X11 : ∀ w ∈ u_ws RX11 TX11 22, w ∈ wsX11_bestColumn := by decide +kernel
def f_X11_bestColumn (M_g : Nat → Int32) (M_code : Int32) (M_column : Nat → Int32) (M_loads : Nat → Int32) (M_many : Int32) : Option (Int32 × Int32 × (Nat → Int32) × (Nat → Int32) × Int32) :=
  wkb4 (f_X11_best M_g M_column M_loads M_many) (fun r1 w2 w3 w4 =>
  some (r1, 0, w2, w3, w4))
set_option maxHeartbeats 4000000 in
set_option maxRecDepth 100000 in
theorem c_X11_bestColumn (l : Launch) (dC : Nat → ClassId) (dI : Nat → Nat → Nat) (Y : Nat → ClassId) (a : Nat → Nat) (M_g : Nat → Int32) (M_kept : Nat → Int32) (M_saved : Nat → Int32) (M_before : Nat → Int32) (M_isSaved : Int32) (M_changes : Int32) (M_isWithin : Int32) (M_code : Int32) (M_input : Nat → Int32) (M_length : Int32) (M_fault : Int32) (M_failed : Int32) (M_signs : Nat → Int32) (M_signMany : Int32) (M_column : Nat → Int32) (M_loads : Nat → Int32) (M_many : Int32) (M_sums : Nat → Int32) (M_groups : Nat → Int32) (M_at : Int32) (M_told : Nat → Int32) (M_toldMany : Int32)  (sz : Nat) (r : Int32) (zM_code : Int32) (zM_column : Nat → Int32) (zM_loads : Nat → Int32) (zM_many : Int32) (hf : f_X11_bestColumn M_g M_code M_column M_loads M_many = some (r, zM_code, zM_column, zM_loads, zM_many)) : Met l yX11_bestColumn wsX11_bestColumn ({ frames := 4, cells := 0, slots := 0, locals := 90 } : Room) (va_Pc [.ref (a 0)] (wk_E (dC, dI) Y (wX11 Y a M_g M_kept M_saved M_before M_isSaved M_changes M_isWithin M_code M_input M_length M_fault M_failed M_signs M_signMany M_column M_loads M_many M_sums M_groups M_at M_told M_toldMany) sz)) (va_Qi (fun r2 (_ : Unit) => r2 = r) (fun _ t => wk_X (dC, dI) Y (wX11 Y a M_g M_kept M_saved M_before M_isSaved M_changes M_isWithin zM_code M_input M_length M_fault M_failed M_signs M_signMany zM_column zM_loads zM_many M_sums M_groups M_at M_told M_toldMany) (va_A (wX11 Y a M_g M_kept M_saved M_before M_isSaved M_changes M_isWithin M_code M_input M_length M_fault M_failed M_signs M_signMany M_column M_loads M_many M_sums M_groups M_at M_told M_toldMany) sz) t) (va_A (wX11 Y a M_g M_kept M_saved M_before M_isSaved M_changes M_isWithin M_code M_input M_length M_fault M_failed M_signs M_signMany M_column M_loads M_many M_sums M_groups M_at M_told M_toldMany) sz)) 0 0 (va_A (wX11 Y a M_g M_kept M_saved M_before M_isSaved M_changes M_isWithin M_code M_input M_length M_fault M_failed M_signs M_signMany M_column M_loads M_many M_sums M_groups M_at M_told M_toldMany) sz) := by
  refine Met.ofW (cc := cX11_bestColumn) (maxL := 1) (ret := (some .int)) (by decide) rfl ?_
  intro p e s m args below meth c s₁ B hml hv
  obtain ⟨rfl, hsz, hP, hK, hD0⟩ := hv
  have hx := B.exec
  have hb := B.bytes
  have hr := B.returns
  have hts := atoms_spec (ws := wsX11_bestColumn) B.pre
  have hown : s.vm.findClass RX11 = some m.cls := findClass_of_methodNamed B.named
  have hlocks := B.notSynchronized
  have C0 : wk_C p s m _ meth c cX11_bestColumn 1 (some .int) wsX11_bestColumn RX11 := ⟨hx, hb, hml, hr, hlocks, hown, hts⟩
  subst hsz
  have hD := hD0.self (sz := s.heap.size)
  generalize hAe : va_A (wX11 Y a M_g M_kept M_saved M_before M_isSaved M_changes M_isWithin M_code M_input M_length M_fault M_failed M_signs M_signMany M_column M_loads M_many M_sums M_groups M_at M_told M_toldMany) s.heap.size = A at hD ⊢
  have hA : ∀ q : Nat, s.heap.size ≤ q → A q := fun q h => by rw [← hAe]; exact Or.inr h
  have hS : va_S A s.heap s.heap [] := va_S.rf
  obtain ⟨H, hHe⟩ : ∃ H, H = s.heap := ⟨_, rfl⟩
  have hS : va_S A s.heap H [] := by rw [hHe]; exact hS
  have hP : va_P (dC, dI) vwCl [(a 0, .inr (11, [.ref (a 1), .ref (a 2), .ref (a 3), .ref (a 4), .int M_isSaved, .int M_changes, .int M_isWithin, .int M_code, .ref (a 5), .int M_length, .int M_fault, .int M_failed, .ref (a 6), .int M_signMany, .ref (a 7), .ref (a 8), .int M_many, .ref (a 9), .ref (a 10), .int M_at, .ref (a 11), .int M_toldMany])), (a 1, .inl (Y 0, 238, .inl M_g)), (a 2, .inl (Y 0, 1904, .inl M_kept)), (a 3, .inl (Y 0, 238, .inl M_saved)), (a 4, .inl (Y 0, 238, .inl M_before)), (a 5, .inl (Y 0, 60, .inl M_input)), (a 6, .inl (Y 2, 100, .inl M_signs)), (a 7, .inl (Y 0, 6, .inl M_column)), (a 8, .inl (Y 0, 6, .inl M_loads)), (a 9, .inl (Y 0, 2048, .inl M_sums)), (a 10, .inl (Y 0, 2048, .inl M_groups)), (a 11, .inl (Y 0, 155, .inl M_told))] H := by rw [hHe]; exact hP
  have hD : va_D A [(a 0, .inr (11, [.ref (a 1), .ref (a 2), .ref (a 3), .ref (a 4), .int M_isSaved, .int M_changes, .int M_isWithin, .int M_code, .ref (a 5), .int M_length, .int M_fault, .int M_failed, .ref (a 6), .int M_signMany, .ref (a 7), .ref (a 8), .int M_many, .ref (a 9), .ref (a 10), .int M_at, .ref (a 11), .int M_toldMany])), (a 1, .inl (Y 0, 238, .inl M_g)), (a 2, .inl (Y 0, 1904, .inl M_kept)), (a 3, .inl (Y 0, 238, .inl M_saved)), (a 4, .inl (Y 0, 238, .inl M_before)), (a 5, .inl (Y 0, 60, .inl M_input)), (a 6, .inl (Y 2, 100, .inl M_signs)), (a 7, .inl (Y 0, 6, .inl M_column)), (a 8, .inl (Y 0, 6, .inl M_loads)), (a 9, .inl (Y 0, 2048, .inl M_sums)), (a 10, .inl (Y 0, 2048, .inl M_groups)), (a 11, .inl (Y 0, 155, .inl M_told))] := hD
  obtain ⟨locs, hlo⟩ : ∃ locs : List Loc, locs = [] := ⟨_, rfl⟩
  have hS : va_S A s.heap H locs := by rw [hlo]; exact hS
  have hl := lv_entry ([.ref (a 0)]) (n := 1) (Nat.le_of_ble_eq_true rfl)
  rw [lg_entry_eq]
  generalize (lg_sl ([.ref (a 0)]) ++ List.replicate (1 - (lg_sl ([.ref (a 0)])).length) Slot.unset).toArray = ls at hl ⊢
  have hl : lv_has ls 1 [(0, .ref (a 0))] := hl
  refine wk_start hHe hlo ?_
  rw [f_X11_bestColumn] at hf
  refine lv_aload_n hx hb dX11_bestColumn_0 rfl (lv_at hl 0 rfl) ?_
  refine lv_iconst (v := 0) hx hb dX11_bestColumn_1 (by decide) ?_
  refine va_put (D := (dC, dI)) (ci := 11) (v := .int 0) (ty := .int) (C := RX11) (T := TX11) (N := 22) hx hb hts in_X11_bestColumn_X11 tyX11 tyX11_ok nmX11 hown hK hP hD hS 0 rfl rfl 7 (by decide) (hts _ lk_X11_bestColumn_RX11_51) (fun _ h9 => h9) rfl (by decide +kernel) rfl rfl (Nat.le_of_ble_eq_true rfl) dX11_bestColumn_2 (fun H locs hP hD hS => ?_)
  have hP : va_P (dC, dI) vwCl [(a 0, .inr (11, [.ref (a 1), .ref (a 2), .ref (a 3), .ref (a 4), .int M_isSaved, .int M_changes, .int M_isWithin, .int 0, .ref (a 5), .int M_length, .int M_fault, .int M_failed, .ref (a 6), .int M_signMany, .ref (a 7), .ref (a 8), .int M_many, .ref (a 9), .ref (a 10), .int M_at, .ref (a 11), .int M_toldMany])), (a 1, .inl (Y 0, 238, .inl M_g)), (a 2, .inl (Y 0, 1904, .inl M_kept)), (a 3, .inl (Y 0, 238, .inl M_saved)), (a 4, .inl (Y 0, 238, .inl M_before)), (a 5, .inl (Y 0, 60, .inl M_input)), (a 6, .inl (Y 2, 100, .inl M_signs)), (a 7, .inl (Y 0, 6, .inl M_column)), (a 8, .inl (Y 0, 6, .inl M_loads)), (a 9, .inl (Y 0, 2048, .inl M_sums)), (a 10, .inl (Y 0, 2048, .inl M_groups)), (a 11, .inl (Y 0, 155, .inl M_told))] H := hP
  have hD : va_D A [(a 0, .inr (11, [.ref (a 1), .ref (a 2), .ref (a 3), .ref (a 4), .int M_isSaved, .int M_changes, .int M_isWithin, .int 0, .ref (a 5), .int M_length, .int M_fault, .int M_failed, .ref (a 6), .int M_signMany, .ref (a 7), .ref (a 8), .int M_many, .ref (a 9), .ref (a 10), .int M_at, .ref (a 11), .int M_toldMany])), (a 1, .inl (Y 0, 238, .inl M_g)), (a 2, .inl (Y 0, 1904, .inl M_kept)), (a 3, .inl (Y 0, 238, .inl M_saved)), (a 4, .inl (Y 0, 238, .inl M_before)), (a 5, .inl (Y 0, 60, .inl M_input)), (a 6, .inl (Y 2, 100, .inl M_signs)), (a 7, .inl (Y 0, 6, .inl M_column)), (a 8, .inl (Y 0, 6, .inl M_loads)), (a 9, .inl (Y 0, 2048, .inl M_sums)), (a 10, .inl (Y 0, 2048, .inl M_groups)), (a 11, .inl (Y 0, 155, .inl M_told))] := hD
  refine lv_aload_n hx hb dX11_bestColumn_5 rfl (lv_at hl 0 rfl) ?_
  obtain ⟨r1, w2, w3, w4, hr5, hf⟩ := wkb4_s hf
  refine wk_evi (As := []) (rest := []) (wc := (wX11 Y a M_g M_kept M_saved M_before M_isSaved M_changes M_isWithin 0 M_input M_length M_fault M_failed M_signs M_signMany M_column M_loads M_many M_sums M_groups M_at M_told M_toldMany)) (w1 := (wX11 Y a M_g M_kept M_saved M_before M_isSaved M_changes M_isWithin 0 M_input M_length M_fault M_failed M_signs M_signMany w2 w3 w4 M_sums M_groups M_at M_told M_toldMany)) (wr := []) ⟨hx, hb, hml, hown, hts⟩ (c_X11_best l dC dI Y a M_g M_kept M_saved M_before M_isSaved M_changes M_isWithin 0 M_input M_length M_fault M_failed M_signs M_signMany M_column M_loads M_many M_sums M_groups M_at M_told M_toldMany H.size r1 w2 w3 w4 hr5) (cwV 0 hts gX11_bestColumn_X11_best rfl rfl rfl (by decide +kernel) ⟨Nat.le_of_ble_eq_true rfl, Nat.le_of_ble_eq_true rfl⟩) hK hP hD hS hA [0, 1, 2, 3, 4, 5, 6, 7, 8, 9, 10, 11] [] rfl rfl (by decide) (by decide) (by decide) (va_recv hK hP (ci := 11) (q0 := 0) rfl rfl) rfl hl.1 rfl (Nat.le_of_ble_eq_true rfl) dX11_bestColumn_6 ⟨Nat.le_of_ble_eq_true rfl, Nat.le_of_ble_eq_true rfl⟩ (fun H locs hP hD hS => ?_)
  have hP : va_P (dC, dI) vwCl [(a 0, .inr (11, [.ref (a 1), .ref (a 2), .ref (a 3), .ref (a 4), .int M_isSaved, .int M_changes, .int M_isWithin, .int 0, .ref (a 5), .int M_length, .int M_fault, .int M_failed, .ref (a 6), .int M_signMany, .ref (a 7), .ref (a 8), .int w4, .ref (a 9), .ref (a 10), .int M_at, .ref (a 11), .int M_toldMany])), (a 1, .inl (Y 0, 238, .inl M_g)), (a 2, .inl (Y 0, 1904, .inl M_kept)), (a 3, .inl (Y 0, 238, .inl M_saved)), (a 4, .inl (Y 0, 238, .inl M_before)), (a 5, .inl (Y 0, 60, .inl M_input)), (a 6, .inl (Y 2, 100, .inl M_signs)), (a 7, .inl (Y 0, 6, .inl w2)), (a 8, .inl (Y 0, 6, .inl w3)), (a 9, .inl (Y 0, 2048, .inl M_sums)), (a 10, .inl (Y 0, 2048, .inl M_groups)), (a 11, .inl (Y 0, 155, .inl M_told))] H := hP
  have hD : va_D A [(a 0, .inr (11, [.ref (a 1), .ref (a 2), .ref (a 3), .ref (a 4), .int M_isSaved, .int M_changes, .int M_isWithin, .int 0, .ref (a 5), .int M_length, .int M_fault, .int M_failed, .ref (a 6), .int M_signMany, .ref (a 7), .ref (a 8), .int w4, .ref (a 9), .ref (a 10), .int M_at, .ref (a 11), .int M_toldMany])), (a 1, .inl (Y 0, 238, .inl M_g)), (a 2, .inl (Y 0, 1904, .inl M_kept)), (a 3, .inl (Y 0, 238, .inl M_saved)), (a 4, .inl (Y 0, 238, .inl M_before)), (a 5, .inl (Y 0, 60, .inl M_input)), (a 6, .inl (Y 2, 100, .inl M_signs)), (a 7, .inl (Y 0, 6, .inl w2)), (a 8, .inl (Y 0, 6, .inl w3)), (a 9, .inl (Y 0, 2048, .inl M_sums)), (a 10, .inl (Y 0, 2048, .inl M_groups)), (a 11, .inl (Y 0, 155, .inl M_told))] := hD
  obtain ⟨e0, e1, e2, e3, e4⟩ := wke5 hf
  subst e0
  subst e1
  subst e2
  subst e3
  subst e4
  have hP9 := hP.sub (ws' := (wX11 Y a M_g M_kept M_saved M_before M_isSaved M_changes M_isWithin 0 M_input M_length M_fault M_failed M_signs M_signMany w2 w3 w4 M_sums M_groups M_at M_told M_toldMany)) [0, 1, 2, 3, 4, 5, 6, 7, 8, 9, 10, 11] rfl
  have hD9 := hD.sub (ws' := (wX11 Y a M_g M_kept M_saved M_before M_isSaved M_changes M_isWithin 0 M_input M_length M_fault M_failed M_signs M_signMany w2 w3 w4 M_sums M_groups M_at M_told M_toldMany)) [0, 1, 2, 3, 4, 5, 6, 7, 8, 9, 10, 11] (by decide) rfl
  exact W.iret (v := r1) hx hb hr (fun t ht hW => ⟨⟨r1, (), rfl, rfl, by rw [ht]; exact hP9, va_K.moved hW.alike hK, hD9⟩, hS.F ht⟩) hS.2.2 dX11_bestColumn_9
theorem lk_X11_safe_RX11_36 : Cond.fieldLink RX11 36 "CircusLedgerModel" "column" "[I" ∈ wsX11_safe := by decide +kernel
theorem lk_X11_safe_RX11_39 : Cond.fieldLink RX11 39 "CircusLedgerModel" "loads" "[I" ∈ wsX11_safe := by decide +kernel
theorem lk_X11_safe_RX11_95 : Cond.fieldLink RX11 95 "CircusLedgerModel" "many" "I" ∈ wsX11_safe := by decide +kernel
theorem in_X11_safe_X11 : ∀ w ∈ u_ws RX11 TX11 22, w ∈ wsX11_safe := by decide +kernel
def f_X11_safe_L4 (M_g : Nat → Int32) (M_column : Nat → Int32) (M_loads : Nat → Int32) (M_many : Int32) : Nat → UInt32 → Int32 → Option (UInt32)
  | 0, _, _ => none
  | nn + 1, x1, x2 =>
    if (M_many - 1) ≤ x2 then
      (some (x1))
    else
      (gin x2 6 (wkb1 (f_X11_of M_g (M_column x2.toNatClampNeg) 1) (fun r3 =>
      gin x2 6 (gok ((FP.fdiv (FP.i2f r3) (FP.i2f (M_loads x2.toNatClampNeg))) &&& 0x7fffffff ≤ 0x7f800000) (if x2 = 0 then
        (f_X11_safe_L4 M_g M_column M_loads M_many nn (FP.fdiv (FP.i2f r3) (FP.i2f (M_loads x2.toNatClampNeg))) (x2 + 1))
      else
        (if (0 : Int32) ≤ (Op.cmpValue (FP.fcmp (FP.fdiv (FP.i2f r3) (FP.i2f (M_loads x2.toNatClampNeg))) x1) .g) then
          (f_X11_safe_L4 M_g M_column M_loads M_many nn x1 (x2 + 1))
        else
          (f_X11_safe_L4 M_g M_column M_loads M_many nn (FP.fdiv (FP.i2f r3) (FP.i2f (M_loads x2.toNatClampNeg))) (x2 + 1))))))))
def f_X11_safe (M_g : Nat → Int32) (M_column : Nat → Int32) (M_loads : Nat → Int32) (M_many : Int32) : Option (UInt32) :=
  f_X11_safe_L4 M_g M_column M_loads M_many FU FP.fconst0 0
set_option maxHeartbeats 4000000 in
set_option maxRecDepth 100000 in
theorem wl_X11_safe_L4 {p : Program} {l : Launch} {e : Env} {s : State} {m : MethodId} {args : Array Value} {below : List Frame} {meth : Method} {c : Code} {dC : Nat → ClassId} {dI : Nat → Nat → Nat} {Y : Nat → ClassId} {a : Nat → Nat} {M_g : Nat → Int32} {M_kept : Nat → Int32} {M_saved : Nat → Int32} {M_before : Nat → Int32} {M_isSaved : Int32} {M_changes : Int32} {M_isWithin : Int32} {M_code : Int32} {M_input : Nat → Int32} {M_length : Int32} {M_fault : Int32} {M_failed : Int32} {M_signs : Nat → Int32} {M_signMany : Int32} {M_column : Nat → Int32} {M_loads : Nat → Int32} {M_many : Int32} {M_sums : Nat → Int32} {M_groups : Nat → Int32} {M_at : Int32} {M_told : Nat → Int32} {M_toldMany : Int32}  {r : UInt32}  (C0 : wk_C p s m args meth c cX11_safe 4 (some .float) wsX11_safe RX11) (hK : va_K (dC, dI) vwCl (vTy Y) s) (hP : va_P (dC, dI) vwCl (wX11 Y a M_g M_kept M_saved M_before M_isSaved M_changes M_isWithin M_code M_input M_length M_fault M_failed M_signs M_signMany M_column M_loads M_many M_sums M_groups M_at M_told M_toldMany) s.heap) : ∀ (nn : Nat) (x1 : UInt32) (x2 : Int32)  , f_X11_safe_L4 M_g M_column M_loads M_many nn x1 x2 = some (r) → ∀ (ls : Array Slot), lv_has ls 4 [(0, .ref (a 0)), (1, .float x1), (2, .int x2)] → W p l e (headSpec wsX11_safe ({ frames := 1, cells := 0, slots := 0, locals := 22 } : Room)).room s m args below meth c s.heap [] 0 0 (MQ below (vp_Sf (fun r2 => r2 = r)) args s 0 0 (fun _ => False)) (F0 m 4 ls []) := by
  have C0 := C0
  obtain ⟨hx, hb, hml, hr, hlocks, hown, hts⟩ := id C0
  intro nn
  induction nn with
  | zero =>
    intro x1 x2 hf
    rw [f_X11_safe_L4] at hf
    cases hf
  | succ nn ih =>
    intro x1 x2 hf ls hl
    rw [f_X11_safe_L4] at hf
    have hP : va_P (dC, dI) vwCl [(a 0, .inr (11, [.ref (a 1), .ref (a 2), .ref (a 3), .ref (a 4), .int M_isSaved, .int M_changes, .int M_isWithin, .int M_code, .ref (a 5), .int M_length, .int M_fault, .int M_failed, .ref (a 6), .int M_signMany, .ref (a 7), .ref (a 8), .int M_many, .ref (a 9), .ref (a 10), .int M_at, .ref (a 11), .int M_toldMany])), (a 1, .inl (Y 0, 238, .inl M_g)), (a 2, .inl (Y 0, 1904, .inl M_kept)), (a 3, .inl (Y 0, 238, .inl M_saved)), (a 4, .inl (Y 0, 238, .inl M_before)), (a 5, .inl (Y 0, 60, .inl M_input)), (a 6, .inl (Y 2, 100, .inl M_signs)), (a 7, .inl (Y 0, 6, .inl M_column)), (a 8, .inl (Y 0, 6, .inl M_loads)), (a 9, .inl (Y 0, 2048, .inl M_sums)), (a 10, .inl (Y 0, 2048, .inl M_groups)), (a 11, .inl (Y 0, 155, .inl M_told))] s.heap := hP
    refine lv_iload_n hx hb dX11_safe_4 rfl (lv_at hl 2 rfl) ?_
    refine lv_aload_n hx hb dX11_safe_5 rfl (lv_at hl 0 rfl) ?_
    refine va_get (D := (dC, dI)) (ci := 11) (v := .int M_many) (C := RX11) (T := TX11) (N := 22) hx hb hts in_X11_safe_X11 hown hK hP 0 rfl rfl 16 (by decide) (hts _ lk_X11_safe_RX11_95) (fun _ h9 => h9) rfl dX11_safe_6 ?_
    refine lv_iconst (v := 1) hx hb dX11_safe_9 (by decide) ?_
    refine lv_isub hx hb dX11_safe_10 ?_
    refine lv_icmp_ge (tgt := 53) hx hb dX11_safe_11 (by decide) (fun q1 => ?_) (fun q1 => ?_)
    · have hf := wk_t hf q1
      refine lv_fload_n hx hb dX11_safe_53 rfl (lv_at hl 1 rfl) ?_
      have e0 := wke1 hf
      subst e0
      exact W.fret (v := x1) hx hb hr (fun t ht hW => ⟨x1, rfl, rfl, ht⟩) (fun q h => absurd h List.not_mem_nil) dX11_safe_54
    · have hf := wk_f hf q1
      refine lv_aload_n hx hb dX11_safe_14 rfl (lv_at hl 0 rfl) ?_
      refine lv_aload_n hx hb dX11_safe_15 rfl (lv_at hl 0 rfl) ?_
      refine va_get (D := (dC, dI)) (ci := 11) (v := .ref (a 7)) (C := RX11) (T := TX11) (N := 22) hx hb hts in_X11_safe_X11 hown hK hP 0 rfl rfl 14 (by decide) (hts _ lk_X11_safe_RX11_36) (fun _ h9 => h9) rfl dX11_safe_16 ?_
      refine lv_iload_n hx hb dX11_safe_19 rfl (lv_at hl 2 rfl) ?_
      obtain ⟨h2, hf⟩ := gin_s hf
      refine wk_iald hx hb hK hP 7 0 rfl rfl h2 rfl dX11_safe_20 ?_
      refine lv_iconst (v := 1) hx hb dX11_safe_21 (by decide) ?_
      obtain ⟨r3, hr4, hf⟩ := wkb1_s hf
      have hPc := hP.sub (ws' := (wX11 Y a M_g M_kept M_saved M_before M_isSaved M_changes M_isWithin M_code M_input M_length M_fault M_failed M_signs M_signMany M_column M_loads M_many M_sums M_groups M_at M_told M_toldMany)) [0, 1, 2, 3, 4, 5, 6, 7, 8, 9, 10, 11] rfl
      refine wk_vi (As := [.int (M_column x2.toNatClampNeg), .int 1]) (rest := []) ⟨hx, hb, hml, hown, hts⟩ (c_X11_of l dC dI Y a M_g M_kept M_saved M_before M_isSaved M_changes M_isWithin M_code M_input M_length M_fault M_failed M_signs M_signMany M_column M_loads M_many M_sums M_groups M_at M_told M_toldMany (M_column x2.toNatClampNeg) 1 r3 hr4) (cwV 2 hts gX11_safe_X11_of rfl rfl rfl (by decide +kernel) ⟨Nat.le_of_ble_eq_true rfl, Nat.le_of_ble_eq_true rfl⟩) hK hPc (va_recv hK hP (ci := 11) (q0 := 0) rfl rfl) rfl hl.1 rfl (Nat.le_of_ble_eq_true rfl) dX11_safe_22 ⟨Nat.le_of_ble_eq_true rfl, Nat.le_of_ble_eq_true rfl⟩ ?_
      refine lv_i2f hx hb dX11_safe_25 ?_
      refine lv_aload_n hx hb dX11_safe_26 rfl (lv_at hl 0 rfl) ?_
      refine va_get (D := (dC, dI)) (ci := 11) (v := .ref (a 8)) (C := RX11) (T := TX11) (N := 22) hx hb hts in_X11_safe_X11 hown hK hP 0 rfl rfl 15 (by decide) (hts _ lk_X11_safe_RX11_39) (fun _ h9 => h9) rfl dX11_safe_27 ?_
      refine lv_iload_n hx hb dX11_safe_30 rfl (lv_at hl 2 rfl) ?_
      obtain ⟨h5, hf⟩ := gin_s hf
      refine wk_iald hx hb hK hP 8 0 rfl rfl h5 rfl dX11_safe_31 ?_
      refine lv_i2f hx hb dX11_safe_32 ?_
      obtain ⟨h6, hf⟩ := gok_s hf
      refine lv_fdiv hx hb dX11_safe_33 h6 ?_
      refine lv_fstore_n (lv' := [(3, .float (FP.fdiv (FP.i2f r3) (FP.i2f (M_loads x2.toNatClampNeg)))), (0, .ref (a 0)), (1, .float x1), (2, .int x2)]) hx hb dX11_safe_34 rfl hl (by decide) rfl (fun ls hl => ?_)
      refine lv_iload_n hx hb dX11_safe_35 rfl (lv_at hl 3 rfl) ?_
      refine lv_if_eq (tgt := 45) hx hb dX11_safe_36 (by decide) (fun q7 => ?_) (fun q7 => ?_)
      · have hf := wk_t hf q7
        refine lv_fload_n hx hb dX11_safe_45 rfl (lv_at hl 0 rfl) ?_
        refine lv_fstore_n (lv' := [(1, .float (FP.fdiv (FP.i2f r3) (FP.i2f (M_loads x2.toNatClampNeg)))), (3, .float (FP.fdiv (FP.i2f r3) (FP.i2f (M_loads x2.toNatClampNeg)))), (0, .ref (a 0)), (2, .int x2)]) hx hb dX11_safe_46 rfl hl (by decide) rfl (fun ls hl => ?_)
        refine lv_iinc (v := (x2 + 1)) (lv' := [(2, .int (x2 + 1)), (1, .float (FP.fdiv (FP.i2f r3) (FP.i2f (M_loads x2.toNatClampNeg)))), (3, .float (FP.fdiv (FP.i2f r3) (FP.i2f (M_loads x2.toNatClampNeg)))), (0, .ref (a 0))]) hx hb dX11_safe_47 hl (k := 3) rfl rfl (by decide) rfl (fun ls hl => ?_)
        refine lv_goto (tgt := 4) hx hb dX11_safe_50 (by decide) ?_
        exact ih (FP.fdiv (FP.i2f r3) (FP.i2f (M_loads x2.toNatClampNeg))) (x2 + 1) hf ls (lv_sub hl [3, 1, 0] rfl)
      · have hf := wk_f hf q7
        refine lv_fload_n hx hb dX11_safe_39 rfl (lv_at hl 0 rfl) ?_
        refine lv_fload_n hx hb dX11_safe_40 rfl (lv_at hl 2 rfl) ?_
        refine lv_fcmp hx hb dX11_safe_41 ?_
        refine lv_if_ge (tgt := 47) hx hb dX11_safe_42 (by decide) (fun q8 => ?_) (fun q8 => ?_)
        · have hf := wk_t hf q8
          refine lv_iinc (v := (x2 + 1)) (lv' := [(2, .int (x2 + 1)), (3, .float (FP.fdiv (FP.i2f r3) (FP.i2f (M_loads x2.toNatClampNeg)))), (0, .ref (a 0)), (1, .float x1)]) hx hb dX11_safe_47 hl (k := 3) rfl rfl (by decide) rfl (fun ls hl => ?_)
          refine lv_goto (tgt := 4) hx hb dX11_safe_50 (by decide) ?_
          exact ih x1 (x2 + 1) hf ls (lv_sub hl [2, 3, 0] rfl)
        · have hf := wk_f hf q8
          refine lv_fload_n hx hb dX11_safe_45 rfl (lv_at hl 0 rfl) ?_
          refine lv_fstore_n (lv' := [(1, .float (FP.fdiv (FP.i2f r3) (FP.i2f (M_loads x2.toNatClampNeg)))), (3, .float (FP.fdiv (FP.i2f r3) (FP.i2f (M_loads x2.toNatClampNeg)))), (0, .ref (a 0)), (2, .int x2)]) hx hb dX11_safe_46 rfl hl (by decide) rfl (fun ls hl => ?_)
          refine lv_iinc (v := (x2 + 1)) (lv' := [(2, .int (x2 + 1)), (1, .float (FP.fdiv (FP.i2f r3) (FP.i2f (M_loads x2.toNatClampNeg)))), (3, .float (FP.fdiv (FP.i2f r3) (FP.i2f (M_loads x2.toNatClampNeg)))), (0, .ref (a 0))]) hx hb dX11_safe_47 hl (k := 3) rfl rfl (by decide) rfl (fun ls hl => ?_)
          refine lv_goto (tgt := 4) hx hb dX11_safe_50 (by decide) ?_
          exact ih (FP.fdiv (FP.i2f r3) (FP.i2f (M_loads x2.toNatClampNeg))) (x2 + 1) hf ls (lv_sub hl [3, 1, 0] rfl)
set_option maxHeartbeats 4000000 in
set_option maxRecDepth 100000 in
theorem c_X11_safe (l : Launch) (dC : Nat → ClassId) (dI : Nat → Nat → Nat) (Y : Nat → ClassId) (a : Nat → Nat) (M_g : Nat → Int32) (M_kept : Nat → Int32) (M_saved : Nat → Int32) (M_before : Nat → Int32) (M_isSaved : Int32) (M_changes : Int32) (M_isWithin : Int32) (M_code : Int32) (M_input : Nat → Int32) (M_length : Int32) (M_fault : Int32) (M_failed : Int32) (M_signs : Nat → Int32) (M_signMany : Int32) (M_column : Nat → Int32) (M_loads : Nat → Int32) (M_many : Int32) (M_sums : Nat → Int32) (M_groups : Nat → Int32) (M_at : Int32) (M_told : Nat → Int32) (M_toldMany : Int32)  (r : UInt32) (hf : f_X11_safe M_g M_column M_loads M_many = some (r)) : Met l yX11_safe wsX11_safe ({ frames := 1, cells := 0, slots := 0, locals := 22 } : Room) (va_Pc [.ref (a 0)] (wk_B (dC, dI) Y (wX11 Y a M_g M_kept M_saved M_before M_isSaved M_changes M_isWithin M_code M_input M_length M_fault M_failed M_signs M_signMany M_column M_loads M_many M_sums M_groups M_at M_told M_toldMany))) (vp_Sf (fun r2 => r2 = r)) 0 0 (fun _ => False) := by
  refine Met.ofW (cc := cX11_safe) (maxL := 4) (ret := (some .float)) (by decide) rfl ?_
  intro p e s m args below meth c s₁ B hml hv
  obtain ⟨rfl, hP, hK⟩ := hv
  have hx := B.exec
  have hb := B.bytes
  have hr := B.returns
  have hts := atoms_spec (ws := wsX11_safe) B.pre
  have hown : s.vm.findClass RX11 = some m.cls := findClass_of_methodNamed B.named
  have hlocks := B.notSynchronized
  have C0 : wk_C p s m _ meth c cX11_safe 4 (some .float) wsX11_safe RX11 := ⟨hx, hb, hml, hr, hlocks, hown, hts⟩
  have hP : va_P (dC, dI) vwCl [(a 0, .inr (11, [.ref (a 1), .ref (a 2), .ref (a 3), .ref (a 4), .int M_isSaved, .int M_changes, .int M_isWithin, .int M_code, .ref (a 5), .int M_length, .int M_fault, .int M_failed, .ref (a 6), .int M_signMany, .ref (a 7), .ref (a 8), .int M_many, .ref (a 9), .ref (a 10), .int M_at, .ref (a 11), .int M_toldMany])), (a 1, .inl (Y 0, 238, .inl M_g)), (a 2, .inl (Y 0, 1904, .inl M_kept)), (a 3, .inl (Y 0, 238, .inl M_saved)), (a 4, .inl (Y 0, 238, .inl M_before)), (a 5, .inl (Y 0, 60, .inl M_input)), (a 6, .inl (Y 2, 100, .inl M_signs)), (a 7, .inl (Y 0, 6, .inl M_column)), (a 8, .inl (Y 0, 6, .inl M_loads)), (a 9, .inl (Y 0, 2048, .inl M_sums)), (a 10, .inl (Y 0, 2048, .inl M_groups)), (a 11, .inl (Y 0, 155, .inl M_told))] s.heap := hP
  have hl := lv_entry ([.ref (a 0)]) (n := 4) (Nat.le_of_ble_eq_true rfl)
  rw [lg_entry_eq]
  generalize (lg_sl ([.ref (a 0)]) ++ List.replicate (4 - (lg_sl ([.ref (a 0)])).length) Slot.unset).toArray = ls at hl ⊢
  have hl : lv_has ls 4 [(0, .ref (a 0))] := hl
  rw [f_X11_safe] at hf
  refine lv_fconst0 hx hb dX11_safe_0 ?_
  refine lv_fstore_n (lv' := [(1, .float FP.fconst0), (0, .ref (a 0))]) hx hb dX11_safe_1 rfl hl (by decide) rfl (fun ls hl => ?_)
  refine lv_iconst (v := 0) hx hb dX11_safe_2 (by decide) ?_
  refine lv_istore_n (lv' := [(2, .int 0), (1, .float FP.fconst0), (0, .ref (a 0))]) hx hb dX11_safe_3 rfl hl (by decide) rfl (fun ls hl => ?_)
  exact wl_X11_safe_L4 C0 hK hP FU FP.fconst0 0 hf ls (lv_sub hl [2, 1, 0] rfl)
theorem lk_X11_safety_RX11_95 : Cond.fieldLink RX11 95 "CircusLedgerModel" "many" "I" ∈ wsX11_safety := by decide +kernel
theorem in_X11_safety_X11 : ∀ w ∈ u_ws RX11 TX11 22, w ∈ wsX11_safety := by decide +kernel
def f_X11_safety (M_g : Nat → Int32) (M_code : Int32) (M_column : Nat → Int32) (M_loads : Nat → Int32) (M_many : Int32) (x1 : Int32) : Option (UInt32 × Int32 × (Nat → Int32) × (Nat → Int32) × Int32) :=
  wkb5 (f_X11_isWrong M_g M_code M_column M_loads M_many x1) (fun r1 w2 w3 w4 w5 =>
  if r1 = 0 then
    (if w5 = 1 then
      (wkb2 (f_X11_fails w2 2) (fun r15 w16 =>
      if r15 = 0 then
        (wkb1 (f_X11_safe M_g w3 w4 w5) (fun r19 =>
        some (r19, w16, w3, w4, w5)))
      else
        (some (FP.fconst0, w16, w3, w4, w5))))
    else
      (wkb2 (f_X11_fails w2 0) (fun r9 w10 =>
      if r9 = 0 then
        (wkb1 (f_X11_safe M_g w3 w4 w5) (fun r13 =>
        some (r13, w10, w3, w4, w5)))
      else
        (some (FP.fconst0, w10, w3, w4, w5)))))
  else
    (some (FP.fconst0, w2, w3, w4, w5)))
set_option maxHeartbeats 4000000 in
set_option maxRecDepth 100000 in
theorem c_X11_safety (l : Launch) (dC : Nat → ClassId) (dI : Nat → Nat → Nat) (Y : Nat → ClassId) (a : Nat → Nat) (M_g : Nat → Int32) (M_kept : Nat → Int32) (M_saved : Nat → Int32) (M_before : Nat → Int32) (M_isSaved : Int32) (M_changes : Int32) (M_isWithin : Int32) (M_code : Int32) (M_input : Nat → Int32) (M_length : Int32) (M_fault : Int32) (M_failed : Int32) (M_signs : Nat → Int32) (M_signMany : Int32) (M_column : Nat → Int32) (M_loads : Nat → Int32) (M_many : Int32) (M_sums : Nat → Int32) (M_groups : Nat → Int32) (M_at : Int32) (M_told : Nat → Int32) (M_toldMany : Int32) (x1 : Int32) (sz : Nat) (r : UInt32) (zM_code : Int32) (zM_column : Nat → Int32) (zM_loads : Nat → Int32) (zM_many : Int32) (hf : f_X11_safety M_g M_code M_column M_loads M_many x1 = some (r, zM_code, zM_column, zM_loads, zM_many)) : Met l yX11_safety wsX11_safety ({ frames := 4, cells := 0, slots := 0, locals := 89 } : Room) (va_Pc [.ref (a 0), .int x1] (wk_E (dC, dI) Y (wX11 Y a M_g M_kept M_saved M_before M_isSaved M_changes M_isWithin M_code M_input M_length M_fault M_failed M_signs M_signMany M_column M_loads M_many M_sums M_groups M_at M_told M_toldMany) sz)) (va_Qf (fun r2 (_ : Unit) => r2 = r) (fun _ t => wk_X (dC, dI) Y (wX11 Y a M_g M_kept M_saved M_before M_isSaved M_changes M_isWithin zM_code M_input M_length M_fault M_failed M_signs M_signMany zM_column zM_loads zM_many M_sums M_groups M_at M_told M_toldMany) (va_A (wX11 Y a M_g M_kept M_saved M_before M_isSaved M_changes M_isWithin M_code M_input M_length M_fault M_failed M_signs M_signMany M_column M_loads M_many M_sums M_groups M_at M_told M_toldMany) sz) t) (va_A (wX11 Y a M_g M_kept M_saved M_before M_isSaved M_changes M_isWithin M_code M_input M_length M_fault M_failed M_signs M_signMany M_column M_loads M_many M_sums M_groups M_at M_told M_toldMany) sz)) 0 0 (va_A (wX11 Y a M_g M_kept M_saved M_before M_isSaved M_changes M_isWithin M_code M_input M_length M_fault M_failed M_signs M_signMany M_column M_loads M_many M_sums M_groups M_at M_told M_toldMany) sz) := by
  refine Met.ofW (cc := cX11_safety) (maxL := 2) (ret := (some .float)) (by decide) rfl ?_
  intro p e s m args below meth c s₁ B hml hv
  obtain ⟨rfl, hsz, hP, hK, hD0⟩ := hv
  have hx := B.exec
  have hb := B.bytes
  have hr := B.returns
  have hts := atoms_spec (ws := wsX11_safety) B.pre
  have hown : s.vm.findClass RX11 = some m.cls := findClass_of_methodNamed B.named
  have hlocks := B.notSynchronized
  have C0 : wk_C p s m _ meth c cX11_safety 2 (some .float) wsX11_safety RX11 := ⟨hx, hb, hml, hr, hlocks, hown, hts⟩
  subst hsz
  have hD := hD0.self (sz := s.heap.size)
  generalize hAe : va_A (wX11 Y a M_g M_kept M_saved M_before M_isSaved M_changes M_isWithin M_code M_input M_length M_fault M_failed M_signs M_signMany M_column M_loads M_many M_sums M_groups M_at M_told M_toldMany) s.heap.size = A at hD ⊢
  have hA : ∀ q : Nat, s.heap.size ≤ q → A q := fun q h => by rw [← hAe]; exact Or.inr h
  have hS : va_S A s.heap s.heap [] := va_S.rf
  obtain ⟨H, hHe⟩ : ∃ H, H = s.heap := ⟨_, rfl⟩
  have hS : va_S A s.heap H [] := by rw [hHe]; exact hS
  have hP : va_P (dC, dI) vwCl [(a 0, .inr (11, [.ref (a 1), .ref (a 2), .ref (a 3), .ref (a 4), .int M_isSaved, .int M_changes, .int M_isWithin, .int M_code, .ref (a 5), .int M_length, .int M_fault, .int M_failed, .ref (a 6), .int M_signMany, .ref (a 7), .ref (a 8), .int M_many, .ref (a 9), .ref (a 10), .int M_at, .ref (a 11), .int M_toldMany])), (a 1, .inl (Y 0, 238, .inl M_g)), (a 2, .inl (Y 0, 1904, .inl M_kept)), (a 3, .inl (Y 0, 238, .inl M_saved)), (a 4, .inl (Y 0, 238, .inl M_before)), (a 5, .inl (Y 0, 60, .inl M_input)), (a 6, .inl (Y 2, 100, .inl M_signs)), (a 7, .inl (Y 0, 6, .inl M_column)), (a 8, .inl (Y 0, 6, .inl M_loads)), (a 9, .inl (Y 0, 2048, .inl M_sums)), (a 10, .inl (Y 0, 2048, .inl M_groups)), (a 11, .inl (Y 0, 155, .inl M_told))] H := by rw [hHe]; exact hP
  have hD : va_D A [(a 0, .inr (11, [.ref (a 1), .ref (a 2), .ref (a 3), .ref (a 4), .int M_isSaved, .int M_changes, .int M_isWithin, .int M_code, .ref (a 5), .int M_length, .int M_fault, .int M_failed, .ref (a 6), .int M_signMany, .ref (a 7), .ref (a 8), .int M_many, .ref (a 9), .ref (a 10), .int M_at, .ref (a 11), .int M_toldMany])), (a 1, .inl (Y 0, 238, .inl M_g)), (a 2, .inl (Y 0, 1904, .inl M_kept)), (a 3, .inl (Y 0, 238, .inl M_saved)), (a 4, .inl (Y 0, 238, .inl M_before)), (a 5, .inl (Y 0, 60, .inl M_input)), (a 6, .inl (Y 2, 100, .inl M_signs)), (a 7, .inl (Y 0, 6, .inl M_column)), (a 8, .inl (Y 0, 6, .inl M_loads)), (a 9, .inl (Y 0, 2048, .inl M_sums)), (a 10, .inl (Y 0, 2048, .inl M_groups)), (a 11, .inl (Y 0, 155, .inl M_told))] := hD
  obtain ⟨locs, hlo⟩ : ∃ locs : List Loc, locs = [] := ⟨_, rfl⟩
  have hS : va_S A s.heap H locs := by rw [hlo]; exact hS
  have hl := lv_entry ([.ref (a 0), .int x1]) (n := 2) (Nat.le_of_ble_eq_true rfl)
  rw [lg_entry_eq]
  generalize (lg_sl ([.ref (a 0), .int x1]) ++ List.replicate (2 - (lg_sl ([.ref (a 0), .int x1])).length) Slot.unset).toArray = ls at hl ⊢
  have hl : lv_has ls 2 [(0, .ref (a 0)), (1, .int x1)] := hl
  refine wk_start hHe hlo ?_
  rw [f_X11_safety] at hf
  refine lv_aload_n hx hb dX11_safety_0 rfl (lv_at hl 0 rfl) ?_
  refine lv_iload_n hx hb dX11_safety_1 rfl (lv_at hl 1 rfl) ?_
  obtain ⟨r1, w2, w3, w4, w5, hr6, hf⟩ := wkb5_s hf
  refine wk_evi (As := [.int x1]) (rest := []) (wc := (wX11 Y a M_g M_kept M_saved M_before M_isSaved M_changes M_isWithin M_code M_input M_length M_fault M_failed M_signs M_signMany M_column M_loads M_many M_sums M_groups M_at M_told M_toldMany)) (w1 := (wX11 Y a M_g M_kept M_saved M_before M_isSaved M_changes M_isWithin w2 M_input M_length M_fault M_failed M_signs M_signMany w3 w4 w5 M_sums M_groups M_at M_told M_toldMany)) (wr := []) ⟨hx, hb, hml, hown, hts⟩ (c_X11_isWrong l dC dI Y a M_g M_kept M_saved M_before M_isSaved M_changes M_isWithin M_code M_input M_length M_fault M_failed M_signs M_signMany M_column M_loads M_many M_sums M_groups M_at M_told M_toldMany x1 H.size r1 w2 w3 w4 w5 hr6) (cwV 1 hts gX11_safety_X11_isWrong rfl rfl rfl (by decide +kernel) ⟨Nat.le_of_ble_eq_true rfl, Nat.le_of_ble_eq_true rfl⟩) hK hP hD hS hA [0, 1, 2, 3, 4, 5, 6, 7, 8, 9, 10, 11] [] rfl rfl (by decide) (by decide) (by decide) (va_recv hK hP (ci := 11) (q0 := 0) rfl rfl) rfl hl.1 rfl (Nat.le_of_ble_eq_true rfl) dX11_safety_2 ⟨Nat.le_of_ble_eq_true rfl, Nat.le_of_ble_eq_true rfl⟩ (fun H locs hP hD hS => ?_)
  have hP : va_P (dC, dI) vwCl [(a 0, .inr (11, [.ref (a 1), .ref (a 2), .ref (a 3), .ref (a 4), .int M_isSaved, .int M_changes, .int M_isWithin, .int w2, .ref (a 5), .int M_length, .int M_fault, .int M_failed, .ref (a 6), .int M_signMany, .ref (a 7), .ref (a 8), .int w5, .ref (a 9), .ref (a 10), .int M_at, .ref (a 11), .int M_toldMany])), (a 1, .inl (Y 0, 238, .inl M_g)), (a 2, .inl (Y 0, 1904, .inl M_kept)), (a 3, .inl (Y 0, 238, .inl M_saved)), (a 4, .inl (Y 0, 238, .inl M_before)), (a 5, .inl (Y 0, 60, .inl M_input)), (a 6, .inl (Y 2, 100, .inl M_signs)), (a 7, .inl (Y 0, 6, .inl w3)), (a 8, .inl (Y 0, 6, .inl w4)), (a 9, .inl (Y 0, 2048, .inl M_sums)), (a 10, .inl (Y 0, 2048, .inl M_groups)), (a 11, .inl (Y 0, 155, .inl M_told))] H := hP
  have hD : va_D A [(a 0, .inr (11, [.ref (a 1), .ref (a 2), .ref (a 3), .ref (a 4), .int M_isSaved, .int M_changes, .int M_isWithin, .int w2, .ref (a 5), .int M_length, .int M_fault, .int M_failed, .ref (a 6), .int M_signMany, .ref (a 7), .ref (a 8), .int w5, .ref (a 9), .ref (a 10), .int M_at, .ref (a 11), .int M_toldMany])), (a 1, .inl (Y 0, 238, .inl M_g)), (a 2, .inl (Y 0, 1904, .inl M_kept)), (a 3, .inl (Y 0, 238, .inl M_saved)), (a 4, .inl (Y 0, 238, .inl M_before)), (a 5, .inl (Y 0, 60, .inl M_input)), (a 6, .inl (Y 2, 100, .inl M_signs)), (a 7, .inl (Y 0, 6, .inl w3)), (a 8, .inl (Y 0, 6, .inl w4)), (a 9, .inl (Y 0, 2048, .inl M_sums)), (a 10, .inl (Y 0, 2048, .inl M_groups)), (a 11, .inl (Y 0, 155, .inl M_told))] := hD
  refine lv_if_ne (tgt := 28) hx hb dX11_safety_5 (by decide) (fun q7 => ?_) (fun q7 => ?_)
  · have hf := wk_f hf q7
    refine lv_fconst0 hx hb dX11_safety_28 ?_
    refine lv_goto (tgt := 36) hx hb dX11_safety_29 (by decide) ?_
    obtain ⟨e0, e1, e2, e3, e4⟩ := wke5 hf
    subst e0
    subst e1
    subst e2
    subst e3
    subst e4
    have hP9 := hP.sub (ws' := (wX11 Y a M_g M_kept M_saved M_before M_isSaved M_changes M_isWithin w2 M_input M_length M_fault M_failed M_signs M_signMany w3 w4 w5 M_sums M_groups M_at M_told M_toldMany)) [0, 1, 2, 3, 4, 5, 6, 7, 8, 9, 10, 11] rfl
    have hD9 := hD.sub (ws' := (wX11 Y a M_g M_kept M_saved M_before M_isSaved M_changes M_isWithin w2 M_input M_length M_fault M_failed M_signs M_signMany w3 w4 w5 M_sums M_groups M_at M_told M_toldMany)) [0, 1, 2, 3, 4, 5, 6, 7, 8, 9, 10, 11] (by decide) rfl
    exact W.fret (v := FP.fconst0) hx hb hr (fun t ht hW => ⟨⟨FP.fconst0, (), rfl, rfl, by rw [ht]; exact hP9, va_K.moved hW.alike hK, hD9⟩, hS.F ht⟩) hS.2.2 dX11_safety_36
  · have hf := wk_t hf q7
    refine lv_aload_n hx hb dX11_safety_8 rfl (lv_at hl 0 rfl) ?_
    refine lv_aload_n hx hb dX11_safety_9 rfl (lv_at hl 0 rfl) ?_
    refine va_get (D := (dC, dI)) (ci := 11) (v := .int w5) (C := RX11) (T := TX11) (N := 22) hx hb hts in_X11_safety_X11 hown hK hP 0 rfl rfl 16 (by decide) (hts _ lk_X11_safety_RX11_95) (fun _ h9 => h9) rfl dX11_safety_10 ?_
    refine lv_iconst (v := 1) hx hb dX11_safety_13 (by decide) ?_
    refine lv_icmp_ne (tgt := 21) hx hb dX11_safety_14 (by decide) (fun q8 => ?_) (fun q8 => ?_)
    · have hf := wk_f hf q8
      refine lv_iconst (v := 0) hx hb dX11_safety_21 (by decide) ?_
      obtain ⟨r9, w10, hr11, hf⟩ := wkb2_s hf
      refine wk_evi (As := [.int 0]) (rest := []) (wc := (wX11 Y a M_g M_kept M_saved M_before M_isSaved M_changes M_isWithin w2 M_input M_length M_fault M_failed M_signs M_signMany w3 w4 w5 M_sums M_groups M_at M_told M_toldMany)) (w1 := (wX11 Y a M_g M_kept M_saved M_before M_isSaved M_changes M_isWithin w10 M_input M_length M_fault M_failed M_signs M_signMany w3 w4 w5 M_sums M_groups M_at M_told M_toldMany)) (wr := []) ⟨hx, hb, hml, hown, hts⟩ (c_X11_fails l dC dI Y a M_g M_kept M_saved M_before M_isSaved M_changes M_isWithin w2 M_input M_length M_fault M_failed M_signs M_signMany w3 w4 w5 M_sums M_groups M_at M_told M_toldMany 0 H.size r9 w10 hr11) (cwV 1 hts gX11_safety_X11_fails rfl rfl rfl (by decide +kernel) ⟨Nat.le_of_ble_eq_true rfl, Nat.le_of_ble_eq_true rfl⟩) hK hP hD hS hA [0, 1, 2, 3, 4, 5, 6, 7, 8, 9, 10, 11] [] rfl rfl (by decide) (by decide) (by decide) (va_recv hK hP (ci := 11) (q0 := 0) rfl rfl) rfl hl.1 rfl (Nat.le_of_ble_eq_true rfl) dX11_safety_22 ⟨Nat.le_of_ble_eq_true rfl, Nat.le_of_ble_eq_true rfl⟩ (fun H locs hP hD hS => ?_)
      have hP : va_P (dC, dI) vwCl [(a 0, .inr (11, [.ref (a 1), .ref (a 2), .ref (a 3), .ref (a 4), .int M_isSaved, .int M_changes, .int M_isWithin, .int w10, .ref (a 5), .int M_length, .int M_fault, .int M_failed, .ref (a 6), .int M_signMany, .ref (a 7), .ref (a 8), .int w5, .ref (a 9), .ref (a 10), .int M_at, .ref (a 11), .int M_toldMany])), (a 1, .inl (Y 0, 238, .inl M_g)), (a 2, .inl (Y 0, 1904, .inl M_kept)), (a 3, .inl (Y 0, 238, .inl M_saved)), (a 4, .inl (Y 0, 238, .inl M_before)), (a 5, .inl (Y 0, 60, .inl M_input)), (a 6, .inl (Y 2, 100, .inl M_signs)), (a 7, .inl (Y 0, 6, .inl w3)), (a 8, .inl (Y 0, 6, .inl w4)), (a 9, .inl (Y 0, 2048, .inl M_sums)), (a 10, .inl (Y 0, 2048, .inl M_groups)), (a 11, .inl (Y 0, 155, .inl M_told))] H := hP
      have hD : va_D A [(a 0, .inr (11, [.ref (a 1), .ref (a 2), .ref (a 3), .ref (a 4), .int M_isSaved, .int M_changes, .int M_isWithin, .int w10, .ref (a 5), .int M_length, .int M_fault, .int M_failed, .ref (a 6), .int M_signMany, .ref (a 7), .ref (a 8), .int w5, .ref (a 9), .ref (a 10), .int M_at, .ref (a 11), .int M_toldMany])), (a 1, .inl (Y 0, 238, .inl M_g)), (a 2, .inl (Y 0, 1904, .inl M_kept)), (a 3, .inl (Y 0, 238, .inl M_saved)), (a 4, .inl (Y 0, 238, .inl M_before)), (a 5, .inl (Y 0, 60, .inl M_input)), (a 6, .inl (Y 2, 100, .inl M_signs)), (a 7, .inl (Y 0, 6, .inl w3)), (a 8, .inl (Y 0, 6, .inl w4)), (a 9, .inl (Y 0, 2048, .inl M_sums)), (a 10, .inl (Y 0, 2048, .inl M_groups)), (a 11, .inl (Y 0, 155, .inl M_told))] := hD
      refine lv_if_eq (tgt := 32) hx hb dX11_safety_25 (by decide) (fun q12 => ?_) (fun q12 => ?_)
      · have hf := wk_t hf q12
        refine lv_aload_n hx hb dX11_safety_32 rfl (lv_at hl 0 rfl) ?_
        obtain ⟨r13, hr14, hf⟩ := wkb1_s hf
        have hPc := hP.sub (ws' := (wX11 Y a M_g M_kept M_saved M_before M_isSaved M_changes M_isWithin w10 M_input M_length M_fault M_failed M_signs M_signMany w3 w4 w5 M_sums M_groups M_at M_told M_toldMany)) [0, 1, 2, 3, 4, 5, 6, 7, 8, 9, 10, 11] rfl
        refine wk_vf (As := []) (rest := []) ⟨hx, hb, hml, hown, hts⟩ (c_X11_safe l dC dI Y a M_g M_kept M_saved M_before M_isSaved M_changes M_isWithin w10 M_input M_length M_fault M_failed M_signs M_signMany w3 w4 w5 M_sums M_groups M_at M_told M_toldMany r13 hr14) (cwV 0 hts gX11_safety_X11_safe rfl rfl rfl (by decide +kernel) ⟨Nat.le_of_ble_eq_true rfl, Nat.le_of_ble_eq_true rfl⟩) hK hPc (va_recv hK hP (ci := 11) (q0 := 0) rfl rfl) rfl hl.1 rfl (Nat.le_of_ble_eq_true rfl) dX11_safety_33 ⟨Nat.le_of_ble_eq_true rfl, Nat.le_of_ble_eq_true rfl⟩ ?_
        obtain ⟨e0, e1, e2, e3, e4⟩ := wke5 hf
        subst e0
        subst e1
        subst e2
        subst e3
        subst e4
        have hP9 := hP.sub (ws' := (wX11 Y a M_g M_kept M_saved M_before M_isSaved M_changes M_isWithin w10 M_input M_length M_fault M_failed M_signs M_signMany w3 w4 w5 M_sums M_groups M_at M_told M_toldMany)) [0, 1, 2, 3, 4, 5, 6, 7, 8, 9, 10, 11] rfl
        have hD9 := hD.sub (ws' := (wX11 Y a M_g M_kept M_saved M_before M_isSaved M_changes M_isWithin w10 M_input M_length M_fault M_failed M_signs M_signMany w3 w4 w5 M_sums M_groups M_at M_told M_toldMany)) [0, 1, 2, 3, 4, 5, 6, 7, 8, 9, 10, 11] (by decide) rfl
        exact W.fret (v := r13) hx hb hr (fun t ht hW => ⟨⟨r13, (), rfl, rfl, by rw [ht]; exact hP9, va_K.moved hW.alike hK, hD9⟩, hS.F ht⟩) hS.2.2 dX11_safety_36
      · have hf := wk_f hf q12
        refine lv_fconst0 hx hb dX11_safety_28 ?_
        refine lv_goto (tgt := 36) hx hb dX11_safety_29 (by decide) ?_
        obtain ⟨e0, e1, e2, e3, e4⟩ := wke5 hf
        subst e0
        subst e1
        subst e2
        subst e3
        subst e4
        have hP9 := hP.sub (ws' := (wX11 Y a M_g M_kept M_saved M_before M_isSaved M_changes M_isWithin w10 M_input M_length M_fault M_failed M_signs M_signMany w3 w4 w5 M_sums M_groups M_at M_told M_toldMany)) [0, 1, 2, 3, 4, 5, 6, 7, 8, 9, 10, 11] rfl
        have hD9 := hD.sub (ws' := (wX11 Y a M_g M_kept M_saved M_before M_isSaved M_changes M_isWithin w10 M_input M_length M_fault M_failed M_signs M_signMany w3 w4 w5 M_sums M_groups M_at M_told M_toldMany)) [0, 1, 2, 3, 4, 5, 6, 7, 8, 9, 10, 11] (by decide) rfl
        exact W.fret (v := FP.fconst0) hx hb hr (fun t ht hW => ⟨⟨FP.fconst0, (), rfl, rfl, by rw [ht]; exact hP9, va_K.moved hW.alike hK, hD9⟩, hS.F ht⟩) hS.2.2 dX11_safety_36
    · have hf := wk_t hf q8
      refine lv_iconst (v := 2) hx hb dX11_safety_17 (by decide) ?_
      refine lv_goto (tgt := 22) hx hb dX11_safety_18 (by decide) ?_
      obtain ⟨r15, w16, hr17, hf⟩ := wkb2_s hf
      refine wk_evi (As := [.int 2]) (rest := []) (wc := (wX11 Y a M_g M_kept M_saved M_before M_isSaved M_changes M_isWithin w2 M_input M_length M_fault M_failed M_signs M_signMany w3 w4 w5 M_sums M_groups M_at M_told M_toldMany)) (w1 := (wX11 Y a M_g M_kept M_saved M_before M_isSaved M_changes M_isWithin w16 M_input M_length M_fault M_failed M_signs M_signMany w3 w4 w5 M_sums M_groups M_at M_told M_toldMany)) (wr := []) ⟨hx, hb, hml, hown, hts⟩ (c_X11_fails l dC dI Y a M_g M_kept M_saved M_before M_isSaved M_changes M_isWithin w2 M_input M_length M_fault M_failed M_signs M_signMany w3 w4 w5 M_sums M_groups M_at M_told M_toldMany 2 H.size r15 w16 hr17) (cwV 1 hts gX11_safety_X11_fails rfl rfl rfl (by decide +kernel) ⟨Nat.le_of_ble_eq_true rfl, Nat.le_of_ble_eq_true rfl⟩) hK hP hD hS hA [0, 1, 2, 3, 4, 5, 6, 7, 8, 9, 10, 11] [] rfl rfl (by decide) (by decide) (by decide) (va_recv hK hP (ci := 11) (q0 := 0) rfl rfl) rfl hl.1 rfl (Nat.le_of_ble_eq_true rfl) dX11_safety_22 ⟨Nat.le_of_ble_eq_true rfl, Nat.le_of_ble_eq_true rfl⟩ (fun H locs hP hD hS => ?_)
      have hP : va_P (dC, dI) vwCl [(a 0, .inr (11, [.ref (a 1), .ref (a 2), .ref (a 3), .ref (a 4), .int M_isSaved, .int M_changes, .int M_isWithin, .int w16, .ref (a 5), .int M_length, .int M_fault, .int M_failed, .ref (a 6), .int M_signMany, .ref (a 7), .ref (a 8), .int w5, .ref (a 9), .ref (a 10), .int M_at, .ref (a 11), .int M_toldMany])), (a 1, .inl (Y 0, 238, .inl M_g)), (a 2, .inl (Y 0, 1904, .inl M_kept)), (a 3, .inl (Y 0, 238, .inl M_saved)), (a 4, .inl (Y 0, 238, .inl M_before)), (a 5, .inl (Y 0, 60, .inl M_input)), (a 6, .inl (Y 2, 100, .inl M_signs)), (a 7, .inl (Y 0, 6, .inl w3)), (a 8, .inl (Y 0, 6, .inl w4)), (a 9, .inl (Y 0, 2048, .inl M_sums)), (a 10, .inl (Y 0, 2048, .inl M_groups)), (a 11, .inl (Y 0, 155, .inl M_told))] H := hP
      have hD : va_D A [(a 0, .inr (11, [.ref (a 1), .ref (a 2), .ref (a 3), .ref (a 4), .int M_isSaved, .int M_changes, .int M_isWithin, .int w16, .ref (a 5), .int M_length, .int M_fault, .int M_failed, .ref (a 6), .int M_signMany, .ref (a 7), .ref (a 8), .int w5, .ref (a 9), .ref (a 10), .int M_at, .ref (a 11), .int M_toldMany])), (a 1, .inl (Y 0, 238, .inl M_g)), (a 2, .inl (Y 0, 1904, .inl M_kept)), (a 3, .inl (Y 0, 238, .inl M_saved)), (a 4, .inl (Y 0, 238, .inl M_before)), (a 5, .inl (Y 0, 60, .inl M_input)), (a 6, .inl (Y 2, 100, .inl M_signs)), (a 7, .inl (Y 0, 6, .inl w3)), (a 8, .inl (Y 0, 6, .inl w4)), (a 9, .inl (Y 0, 2048, .inl M_sums)), (a 10, .inl (Y 0, 2048, .inl M_groups)), (a 11, .inl (Y 0, 155, .inl M_told))] := hD
      refine lv_if_eq (tgt := 32) hx hb dX11_safety_25 (by decide) (fun q18 => ?_) (fun q18 => ?_)
      · have hf := wk_t hf q18
        refine lv_aload_n hx hb dX11_safety_32 rfl (lv_at hl 0 rfl) ?_
        obtain ⟨r19, hr20, hf⟩ := wkb1_s hf
        have hPc := hP.sub (ws' := (wX11 Y a M_g M_kept M_saved M_before M_isSaved M_changes M_isWithin w16 M_input M_length M_fault M_failed M_signs M_signMany w3 w4 w5 M_sums M_groups M_at M_told M_toldMany)) [0, 1, 2, 3, 4, 5, 6, 7, 8, 9, 10, 11] rfl
        refine wk_vf (As := []) (rest := []) ⟨hx, hb, hml, hown, hts⟩ (c_X11_safe l dC dI Y a M_g M_kept M_saved M_before M_isSaved M_changes M_isWithin w16 M_input M_length M_fault M_failed M_signs M_signMany w3 w4 w5 M_sums M_groups M_at M_told M_toldMany r19 hr20) (cwV 0 hts gX11_safety_X11_safe rfl rfl rfl (by decide +kernel) ⟨Nat.le_of_ble_eq_true rfl, Nat.le_of_ble_eq_true rfl⟩) hK hPc (va_recv hK hP (ci := 11) (q0 := 0) rfl rfl) rfl hl.1 rfl (Nat.le_of_ble_eq_true rfl) dX11_safety_33 ⟨Nat.le_of_ble_eq_true rfl, Nat.le_of_ble_eq_true rfl⟩ ?_
        obtain ⟨e0, e1, e2, e3, e4⟩ := wke5 hf
        subst e0
        subst e1
        subst e2
        subst e3
        subst e4
        have hP9 := hP.sub (ws' := (wX11 Y a M_g M_kept M_saved M_before M_isSaved M_changes M_isWithin w16 M_input M_length M_fault M_failed M_signs M_signMany w3 w4 w5 M_sums M_groups M_at M_told M_toldMany)) [0, 1, 2, 3, 4, 5, 6, 7, 8, 9, 10, 11] rfl
        have hD9 := hD.sub (ws' := (wX11 Y a M_g M_kept M_saved M_before M_isSaved M_changes M_isWithin w16 M_input M_length M_fault M_failed M_signs M_signMany w3 w4 w5 M_sums M_groups M_at M_told M_toldMany)) [0, 1, 2, 3, 4, 5, 6, 7, 8, 9, 10, 11] (by decide) rfl
        exact W.fret (v := r19) hx hb hr (fun t ht hW => ⟨⟨r19, (), rfl, rfl, by rw [ht]; exact hP9, va_K.moved hW.alike hK, hD9⟩, hS.F ht⟩) hS.2.2 dX11_safety_36
      · have hf := wk_f hf q18
        refine lv_fconst0 hx hb dX11_safety_28 ?_
        refine lv_goto (tgt := 36) hx hb dX11_safety_29 (by decide) ?_
        obtain ⟨e0, e1, e2, e3, e4⟩ := wke5 hf
        subst e0
        subst e1
        subst e2
        subst e3
        subst e4
        have hP9 := hP.sub (ws' := (wX11 Y a M_g M_kept M_saved M_before M_isSaved M_changes M_isWithin w16 M_input M_length M_fault M_failed M_signs M_signMany w3 w4 w5 M_sums M_groups M_at M_told M_toldMany)) [0, 1, 2, 3, 4, 5, 6, 7, 8, 9, 10, 11] rfl
        have hD9 := hD.sub (ws' := (wX11 Y a M_g M_kept M_saved M_before M_isSaved M_changes M_isWithin w16 M_input M_length M_fault M_failed M_signs M_signMany w3 w4 w5 M_sums M_groups M_at M_told M_toldMany)) [0, 1, 2, 3, 4, 5, 6, 7, 8, 9, 10, 11] (by decide) rfl
        exact W.fret (v := FP.fconst0) hx hb hr (fun t ht hW => ⟨⟨FP.fconst0, (), rfl, rfl, by rw [ht]; exact hP9, va_K.moved hW.alike hK, hD9⟩, hS.F ht⟩) hS.2.2 dX11_safety_36
theorem lk_X11_safetyBits_RX11_95 : Cond.fieldLink RX11 95 "CircusLedgerModel" "many" "I" ∈ wsX11_safetyBits := by decide +kernel
theorem in_X11_safetyBits_X11 : ∀ w ∈ u_ws RX11 TX11 22, w ∈ wsX11_safetyBits := by decide +kernel
def f_X11_safetyBits (M_g : Nat → Int32) (M_code : Int32) (M_column : Nat → Int32) (M_loads : Nat → Int32) (M_many : Int32) (x1 : Int32) : Option (Int32 × Int32 × (Nat → Int32) × (Nat → Int32) × Int32) :=
  wkb5 (f_X11_isWrong M_g M_code M_column M_loads M_many x1) (fun r1 w2 w3 w4 w5 =>
  if r1 = 0 then
    (if w5 = 1 then
      (wkb2 (f_X11_fails w2 2) (fun r17 w18 =>
      if r17 = 0 then
        (wkb1 (f_X11_safe M_g w3 w4 w5) (fun r21 =>
        wkb1 (f_Jxf58ca_floatToIntBits_5c35a r21) (fun r23 =>
        some (r23, w18, w3, w4, w5))))
      else
        (some (0, w18, w3, w4, w5))))
    else
      (wkb2 (f_X11_fails w2 0) (fun r9 w10 =>
      if r9 = 0 then
        (wkb1 (f_X11_safe M_g w3 w4 w5) (fun r13 =>
        wkb1 (f_Jxf58ca_floatToIntBits_5c35a r13) (fun r15 =>
        some (r15, w10, w3, w4, w5))))
      else
        (some (0, w10, w3, w4, w5)))))
  else
    (some (0, w2, w3, w4, w5)))
set_option maxHeartbeats 4000000 in
set_option maxRecDepth 100000 in
theorem c_X11_safetyBits (l : Launch) (dC : Nat → ClassId) (dI : Nat → Nat → Nat) (Y : Nat → ClassId) (a : Nat → Nat) (M_g : Nat → Int32) (M_kept : Nat → Int32) (M_saved : Nat → Int32) (M_before : Nat → Int32) (M_isSaved : Int32) (M_changes : Int32) (M_isWithin : Int32) (M_code : Int32) (M_input : Nat → Int32) (M_length : Int32) (M_fault : Int32) (M_failed : Int32) (M_signs : Nat → Int32) (M_signMany : Int32) (M_column : Nat → Int32) (M_loads : Nat → Int32) (M_many : Int32) (M_sums : Nat → Int32) (M_groups : Nat → Int32) (M_at : Int32) (M_told : Nat → Int32) (M_toldMany : Int32) (x1 : Int32) (sz : Nat) (r : Int32) (zM_code : Int32) (zM_column : Nat → Int32) (zM_loads : Nat → Int32) (zM_many : Int32) (hf : f_X11_safetyBits M_g M_code M_column M_loads M_many x1 = some (r, zM_code, zM_column, zM_loads, zM_many)) : Met l yX11_safetyBits wsX11_safetyBits ({ frames := 4, cells := 0, slots := 0, locals := 89 } : Room) (va_Pc [.ref (a 0), .int x1] (wk_E (dC, dI) Y (wX11 Y a M_g M_kept M_saved M_before M_isSaved M_changes M_isWithin M_code M_input M_length M_fault M_failed M_signs M_signMany M_column M_loads M_many M_sums M_groups M_at M_told M_toldMany) sz)) (va_Qi (fun r2 (_ : Unit) => r2 = r) (fun _ t => wk_X (dC, dI) Y (wX11 Y a M_g M_kept M_saved M_before M_isSaved M_changes M_isWithin zM_code M_input M_length M_fault M_failed M_signs M_signMany zM_column zM_loads zM_many M_sums M_groups M_at M_told M_toldMany) (va_A (wX11 Y a M_g M_kept M_saved M_before M_isSaved M_changes M_isWithin M_code M_input M_length M_fault M_failed M_signs M_signMany M_column M_loads M_many M_sums M_groups M_at M_told M_toldMany) sz) t) (va_A (wX11 Y a M_g M_kept M_saved M_before M_isSaved M_changes M_isWithin M_code M_input M_length M_fault M_failed M_signs M_signMany M_column M_loads M_many M_sums M_groups M_at M_told M_toldMany) sz)) 0 0 (va_A (wX11 Y a M_g M_kept M_saved M_before M_isSaved M_changes M_isWithin M_code M_input M_length M_fault M_failed M_signs M_signMany M_column M_loads M_many M_sums M_groups M_at M_told M_toldMany) sz) := by
  refine Met.ofW (cc := cX11_safetyBits) (maxL := 2) (ret := (some .int)) (by decide) rfl ?_
  intro p e s m args below meth c s₁ B hml hv
  obtain ⟨rfl, hsz, hP, hK, hD0⟩ := hv
  have hx := B.exec
  have hb := B.bytes
  have hr := B.returns
  have hts := atoms_spec (ws := wsX11_safetyBits) B.pre
  have hown : s.vm.findClass RX11 = some m.cls := findClass_of_methodNamed B.named
  have hlocks := B.notSynchronized
  have C0 : wk_C p s m _ meth c cX11_safetyBits 2 (some .int) wsX11_safetyBits RX11 := ⟨hx, hb, hml, hr, hlocks, hown, hts⟩
  subst hsz
  have hD := hD0.self (sz := s.heap.size)
  generalize hAe : va_A (wX11 Y a M_g M_kept M_saved M_before M_isSaved M_changes M_isWithin M_code M_input M_length M_fault M_failed M_signs M_signMany M_column M_loads M_many M_sums M_groups M_at M_told M_toldMany) s.heap.size = A at hD ⊢
  have hA : ∀ q : Nat, s.heap.size ≤ q → A q := fun q h => by rw [← hAe]; exact Or.inr h
  have hS : va_S A s.heap s.heap [] := va_S.rf
  obtain ⟨H, hHe⟩ : ∃ H, H = s.heap := ⟨_, rfl⟩
  have hS : va_S A s.heap H [] := by rw [hHe]; exact hS
  have hP : va_P (dC, dI) vwCl [(a 0, .inr (11, [.ref (a 1), .ref (a 2), .ref (a 3), .ref (a 4), .int M_isSaved, .int M_changes, .int M_isWithin, .int M_code, .ref (a 5), .int M_length, .int M_fault, .int M_failed, .ref (a 6), .int M_signMany, .ref (a 7), .ref (a 8), .int M_many, .ref (a 9), .ref (a 10), .int M_at, .ref (a 11), .int M_toldMany])), (a 1, .inl (Y 0, 238, .inl M_g)), (a 2, .inl (Y 0, 1904, .inl M_kept)), (a 3, .inl (Y 0, 238, .inl M_saved)), (a 4, .inl (Y 0, 238, .inl M_before)), (a 5, .inl (Y 0, 60, .inl M_input)), (a 6, .inl (Y 2, 100, .inl M_signs)), (a 7, .inl (Y 0, 6, .inl M_column)), (a 8, .inl (Y 0, 6, .inl M_loads)), (a 9, .inl (Y 0, 2048, .inl M_sums)), (a 10, .inl (Y 0, 2048, .inl M_groups)), (a 11, .inl (Y 0, 155, .inl M_told))] H := by rw [hHe]; exact hP
  have hD : va_D A [(a 0, .inr (11, [.ref (a 1), .ref (a 2), .ref (a 3), .ref (a 4), .int M_isSaved, .int M_changes, .int M_isWithin, .int M_code, .ref (a 5), .int M_length, .int M_fault, .int M_failed, .ref (a 6), .int M_signMany, .ref (a 7), .ref (a 8), .int M_many, .ref (a 9), .ref (a 10), .int M_at, .ref (a 11), .int M_toldMany])), (a 1, .inl (Y 0, 238, .inl M_g)), (a 2, .inl (Y 0, 1904, .inl M_kept)), (a 3, .inl (Y 0, 238, .inl M_saved)), (a 4, .inl (Y 0, 238, .inl M_before)), (a 5, .inl (Y 0, 60, .inl M_input)), (a 6, .inl (Y 2, 100, .inl M_signs)), (a 7, .inl (Y 0, 6, .inl M_column)), (a 8, .inl (Y 0, 6, .inl M_loads)), (a 9, .inl (Y 0, 2048, .inl M_sums)), (a 10, .inl (Y 0, 2048, .inl M_groups)), (a 11, .inl (Y 0, 155, .inl M_told))] := hD
  obtain ⟨locs, hlo⟩ : ∃ locs : List Loc, locs = [] := ⟨_, rfl⟩
  have hS : va_S A s.heap H locs := by rw [hlo]; exact hS
  have hl := lv_entry ([.ref (a 0), .int x1]) (n := 2) (Nat.le_of_ble_eq_true rfl)
  rw [lg_entry_eq]
  generalize (lg_sl ([.ref (a 0), .int x1]) ++ List.replicate (2 - (lg_sl ([.ref (a 0), .int x1])).length) Slot.unset).toArray = ls at hl ⊢
  have hl : lv_has ls 2 [(0, .ref (a 0)), (1, .int x1)] := hl
  refine wk_start hHe hlo ?_
  rw [f_X11_safetyBits] at hf
  refine lv_aload_n hx hb dX11_safetyBits_0 rfl (lv_at hl 0 rfl) ?_
  refine lv_iload_n hx hb dX11_safetyBits_1 rfl (lv_at hl 1 rfl) ?_
  obtain ⟨r1, w2, w3, w4, w5, hr6, hf⟩ := wkb5_s hf
  refine wk_evi (As := [.int x1]) (rest := []) (wc := (wX11 Y a M_g M_kept M_saved M_before M_isSaved M_changes M_isWithin M_code M_input M_length M_fault M_failed M_signs M_signMany M_column M_loads M_many M_sums M_groups M_at M_told M_toldMany)) (w1 := (wX11 Y a M_g M_kept M_saved M_before M_isSaved M_changes M_isWithin w2 M_input M_length M_fault M_failed M_signs M_signMany w3 w4 w5 M_sums M_groups M_at M_told M_toldMany)) (wr := []) ⟨hx, hb, hml, hown, hts⟩ (c_X11_isWrong l dC dI Y a M_g M_kept M_saved M_before M_isSaved M_changes M_isWithin M_code M_input M_length M_fault M_failed M_signs M_signMany M_column M_loads M_many M_sums M_groups M_at M_told M_toldMany x1 H.size r1 w2 w3 w4 w5 hr6) (cwV 1 hts gX11_safetyBits_X11_isWrong rfl rfl rfl (by decide +kernel) ⟨Nat.le_of_ble_eq_true rfl, Nat.le_of_ble_eq_true rfl⟩) hK hP hD hS hA [0, 1, 2, 3, 4, 5, 6, 7, 8, 9, 10, 11] [] rfl rfl (by decide) (by decide) (by decide) (va_recv hK hP (ci := 11) (q0 := 0) rfl rfl) rfl hl.1 rfl (Nat.le_of_ble_eq_true rfl) dX11_safetyBits_2 ⟨Nat.le_of_ble_eq_true rfl, Nat.le_of_ble_eq_true rfl⟩ (fun H locs hP hD hS => ?_)
  have hP : va_P (dC, dI) vwCl [(a 0, .inr (11, [.ref (a 1), .ref (a 2), .ref (a 3), .ref (a 4), .int M_isSaved, .int M_changes, .int M_isWithin, .int w2, .ref (a 5), .int M_length, .int M_fault, .int M_failed, .ref (a 6), .int M_signMany, .ref (a 7), .ref (a 8), .int w5, .ref (a 9), .ref (a 10), .int M_at, .ref (a 11), .int M_toldMany])), (a 1, .inl (Y 0, 238, .inl M_g)), (a 2, .inl (Y 0, 1904, .inl M_kept)), (a 3, .inl (Y 0, 238, .inl M_saved)), (a 4, .inl (Y 0, 238, .inl M_before)), (a 5, .inl (Y 0, 60, .inl M_input)), (a 6, .inl (Y 2, 100, .inl M_signs)), (a 7, .inl (Y 0, 6, .inl w3)), (a 8, .inl (Y 0, 6, .inl w4)), (a 9, .inl (Y 0, 2048, .inl M_sums)), (a 10, .inl (Y 0, 2048, .inl M_groups)), (a 11, .inl (Y 0, 155, .inl M_told))] H := hP
  have hD : va_D A [(a 0, .inr (11, [.ref (a 1), .ref (a 2), .ref (a 3), .ref (a 4), .int M_isSaved, .int M_changes, .int M_isWithin, .int w2, .ref (a 5), .int M_length, .int M_fault, .int M_failed, .ref (a 6), .int M_signMany, .ref (a 7), .ref (a 8), .int w5, .ref (a 9), .ref (a 10), .int M_at, .ref (a 11), .int M_toldMany])), (a 1, .inl (Y 0, 238, .inl M_g)), (a 2, .inl (Y 0, 1904, .inl M_kept)), (a 3, .inl (Y 0, 238, .inl M_saved)), (a 4, .inl (Y 0, 238, .inl M_before)), (a 5, .inl (Y 0, 60, .inl M_input)), (a 6, .inl (Y 2, 100, .inl M_signs)), (a 7, .inl (Y 0, 6, .inl w3)), (a 8, .inl (Y 0, 6, .inl w4)), (a 9, .inl (Y 0, 2048, .inl M_sums)), (a 10, .inl (Y 0, 2048, .inl M_groups)), (a 11, .inl (Y 0, 155, .inl M_told))] := hD
  refine lv_if_ne (tgt := 28) hx hb dX11_safetyBits_5 (by decide) (fun q7 => ?_) (fun q7 => ?_)
  · have hf := wk_f hf q7
    refine lv_iconst (v := 0) hx hb dX11_safetyBits_28 (by decide) ?_
    refine lv_goto (tgt := 39) hx hb dX11_safetyBits_29 (by decide) ?_
    obtain ⟨e0, e1, e2, e3, e4⟩ := wke5 hf
    subst e0
    subst e1
    subst e2
    subst e3
    subst e4
    have hP9 := hP.sub (ws' := (wX11 Y a M_g M_kept M_saved M_before M_isSaved M_changes M_isWithin w2 M_input M_length M_fault M_failed M_signs M_signMany w3 w4 w5 M_sums M_groups M_at M_told M_toldMany)) [0, 1, 2, 3, 4, 5, 6, 7, 8, 9, 10, 11] rfl
    have hD9 := hD.sub (ws' := (wX11 Y a M_g M_kept M_saved M_before M_isSaved M_changes M_isWithin w2 M_input M_length M_fault M_failed M_signs M_signMany w3 w4 w5 M_sums M_groups M_at M_told M_toldMany)) [0, 1, 2, 3, 4, 5, 6, 7, 8, 9, 10, 11] (by decide) rfl
    exact W.iret (v := 0) hx hb hr (fun t ht hW => ⟨⟨0, (), rfl, rfl, by rw [ht]; exact hP9, va_K.moved hW.alike hK, hD9⟩, hS.F ht⟩) hS.2.2 dX11_safetyBits_39
  · have hf := wk_t hf q7
    refine lv_aload_n hx hb dX11_safetyBits_8 rfl (lv_at hl 0 rfl) ?_
    refine lv_aload_n hx hb dX11_safetyBits_9 rfl (lv_at hl 0 rfl) ?_
    refine va_get (D := (dC, dI)) (ci := 11) (v := .int w5) (C := RX11) (T := TX11) (N := 22) hx hb hts in_X11_safetyBits_X11 hown hK hP 0 rfl rfl 16 (by decide) (hts _ lk_X11_safetyBits_RX11_95) (fun _ h9 => h9) rfl dX11_safetyBits_10 ?_
    refine lv_iconst (v := 1) hx hb dX11_safetyBits_13 (by decide) ?_
    refine lv_icmp_ne (tgt := 21) hx hb dX11_safetyBits_14 (by decide) (fun q8 => ?_) (fun q8 => ?_)
    · have hf := wk_f hf q8
      refine lv_iconst (v := 0) hx hb dX11_safetyBits_21 (by decide) ?_
      obtain ⟨r9, w10, hr11, hf⟩ := wkb2_s hf
      refine wk_evi (As := [.int 0]) (rest := []) (wc := (wX11 Y a M_g M_kept M_saved M_before M_isSaved M_changes M_isWithin w2 M_input M_length M_fault M_failed M_signs M_signMany w3 w4 w5 M_sums M_groups M_at M_told M_toldMany)) (w1 := (wX11 Y a M_g M_kept M_saved M_before M_isSaved M_changes M_isWithin w10 M_input M_length M_fault M_failed M_signs M_signMany w3 w4 w5 M_sums M_groups M_at M_told M_toldMany)) (wr := []) ⟨hx, hb, hml, hown, hts⟩ (c_X11_fails l dC dI Y a M_g M_kept M_saved M_before M_isSaved M_changes M_isWithin w2 M_input M_length M_fault M_failed M_signs M_signMany w3 w4 w5 M_sums M_groups M_at M_told M_toldMany 0 H.size r9 w10 hr11) (cwV 1 hts gX11_safetyBits_X11_fails rfl rfl rfl (by decide +kernel) ⟨Nat.le_of_ble_eq_true rfl, Nat.le_of_ble_eq_true rfl⟩) hK hP hD hS hA [0, 1, 2, 3, 4, 5, 6, 7, 8, 9, 10, 11] [] rfl rfl (by decide) (by decide) (by decide) (va_recv hK hP (ci := 11) (q0 := 0) rfl rfl) rfl hl.1 rfl (Nat.le_of_ble_eq_true rfl) dX11_safetyBits_22 ⟨Nat.le_of_ble_eq_true rfl, Nat.le_of_ble_eq_true rfl⟩ (fun H locs hP hD hS => ?_)
      have hP : va_P (dC, dI) vwCl [(a 0, .inr (11, [.ref (a 1), .ref (a 2), .ref (a 3), .ref (a 4), .int M_isSaved, .int M_changes, .int M_isWithin, .int w10, .ref (a 5), .int M_length, .int M_fault, .int M_failed, .ref (a 6), .int M_signMany, .ref (a 7), .ref (a 8), .int w5, .ref (a 9), .ref (a 10), .int M_at, .ref (a 11), .int M_toldMany])), (a 1, .inl (Y 0, 238, .inl M_g)), (a 2, .inl (Y 0, 1904, .inl M_kept)), (a 3, .inl (Y 0, 238, .inl M_saved)), (a 4, .inl (Y 0, 238, .inl M_before)), (a 5, .inl (Y 0, 60, .inl M_input)), (a 6, .inl (Y 2, 100, .inl M_signs)), (a 7, .inl (Y 0, 6, .inl w3)), (a 8, .inl (Y 0, 6, .inl w4)), (a 9, .inl (Y 0, 2048, .inl M_sums)), (a 10, .inl (Y 0, 2048, .inl M_groups)), (a 11, .inl (Y 0, 155, .inl M_told))] H := hP
      have hD : va_D A [(a 0, .inr (11, [.ref (a 1), .ref (a 2), .ref (a 3), .ref (a 4), .int M_isSaved, .int M_changes, .int M_isWithin, .int w10, .ref (a 5), .int M_length, .int M_fault, .int M_failed, .ref (a 6), .int M_signMany, .ref (a 7), .ref (a 8), .int w5, .ref (a 9), .ref (a 10), .int M_at, .ref (a 11), .int M_toldMany])), (a 1, .inl (Y 0, 238, .inl M_g)), (a 2, .inl (Y 0, 1904, .inl M_kept)), (a 3, .inl (Y 0, 238, .inl M_saved)), (a 4, .inl (Y 0, 238, .inl M_before)), (a 5, .inl (Y 0, 60, .inl M_input)), (a 6, .inl (Y 2, 100, .inl M_signs)), (a 7, .inl (Y 0, 6, .inl w3)), (a 8, .inl (Y 0, 6, .inl w4)), (a 9, .inl (Y 0, 2048, .inl M_sums)), (a 10, .inl (Y 0, 2048, .inl M_groups)), (a 11, .inl (Y 0, 155, .inl M_told))] := hD
      refine lv_if_eq (tgt := 32) hx hb dX11_safetyBits_25 (by decide) (fun q12 => ?_) (fun q12 => ?_)
      · have hf := wk_t hf q12
        refine lv_aload_n hx hb dX11_safetyBits_32 rfl (lv_at hl 0 rfl) ?_
        obtain ⟨r13, hr14, hf⟩ := wkb1_s hf
        have hPc := hP.sub (ws' := (wX11 Y a M_g M_kept M_saved M_before M_isSaved M_changes M_isWithin w10 M_input M_length M_fault M_failed M_signs M_signMany w3 w4 w5 M_sums M_groups M_at M_told M_toldMany)) [0, 1, 2, 3, 4, 5, 6, 7, 8, 9, 10, 11] rfl
        refine wk_vf (As := []) (rest := []) ⟨hx, hb, hml, hown, hts⟩ (c_X11_safe l dC dI Y a M_g M_kept M_saved M_before M_isSaved M_changes M_isWithin w10 M_input M_length M_fault M_failed M_signs M_signMany w3 w4 w5 M_sums M_groups M_at M_told M_toldMany r13 hr14) (cwV 0 hts gX11_safetyBits_X11_safe rfl rfl rfl (by decide +kernel) ⟨Nat.le_of_ble_eq_true rfl, Nat.le_of_ble_eq_true rfl⟩) hK hPc (va_recv hK hP (ci := 11) (q0 := 0) rfl rfl) rfl hl.1 rfl (Nat.le_of_ble_eq_true rfl) dX11_safetyBits_33 ⟨Nat.le_of_ble_eq_true rfl, Nat.le_of_ble_eq_true rfl⟩ ?_
        obtain ⟨r15, hr16, hf⟩ := wkb1_s hf
        have hPc := hP.sub (ws' := ([] : va_W)) [] rfl
        refine wk_si (As := [.float r13]) (rest := []) ⟨hx, hb, hml, hown, hts⟩ (c_Jxf58ca_floatToIntBits_5c35a l dC dI Y r13 r15 hr16) (va_cwS 1 hts gX11_safetyBits_Jxf58ca_floatToIntBits_5c35a rfl rfl rfl (by decide +kernel) ⟨Nat.le_of_ble_eq_true rfl, Nat.le_of_ble_eq_true rfl⟩) hK hPc rfl hl.1 rfl (Nat.le_of_ble_eq_true rfl) dX11_safetyBits_36 ⟨Nat.le_of_ble_eq_true rfl, Nat.le_of_ble_eq_true rfl⟩ ?_
        obtain ⟨e0, e1, e2, e3, e4⟩ := wke5 hf
        subst e0
        subst e1
        subst e2
        subst e3
        subst e4
        have hP9 := hP.sub (ws' := (wX11 Y a M_g M_kept M_saved M_before M_isSaved M_changes M_isWithin w10 M_input M_length M_fault M_failed M_signs M_signMany w3 w4 w5 M_sums M_groups M_at M_told M_toldMany)) [0, 1, 2, 3, 4, 5, 6, 7, 8, 9, 10, 11] rfl
        have hD9 := hD.sub (ws' := (wX11 Y a M_g M_kept M_saved M_before M_isSaved M_changes M_isWithin w10 M_input M_length M_fault M_failed M_signs M_signMany w3 w4 w5 M_sums M_groups M_at M_told M_toldMany)) [0, 1, 2, 3, 4, 5, 6, 7, 8, 9, 10, 11] (by decide) rfl
        exact W.iret (v := r15) hx hb hr (fun t ht hW => ⟨⟨r15, (), rfl, rfl, by rw [ht]; exact hP9, va_K.moved hW.alike hK, hD9⟩, hS.F ht⟩) hS.2.2 dX11_safetyBits_39
      · have hf := wk_f hf q12
        refine lv_iconst (v := 0) hx hb dX11_safetyBits_28 (by decide) ?_
        refine lv_goto (tgt := 39) hx hb dX11_safetyBits_29 (by decide) ?_
        obtain ⟨e0, e1, e2, e3, e4⟩ := wke5 hf
        subst e0
        subst e1
        subst e2
        subst e3
        subst e4
        have hP9 := hP.sub (ws' := (wX11 Y a M_g M_kept M_saved M_before M_isSaved M_changes M_isWithin w10 M_input M_length M_fault M_failed M_signs M_signMany w3 w4 w5 M_sums M_groups M_at M_told M_toldMany)) [0, 1, 2, 3, 4, 5, 6, 7, 8, 9, 10, 11] rfl
        have hD9 := hD.sub (ws' := (wX11 Y a M_g M_kept M_saved M_before M_isSaved M_changes M_isWithin w10 M_input M_length M_fault M_failed M_signs M_signMany w3 w4 w5 M_sums M_groups M_at M_told M_toldMany)) [0, 1, 2, 3, 4, 5, 6, 7, 8, 9, 10, 11] (by decide) rfl
        exact W.iret (v := 0) hx hb hr (fun t ht hW => ⟨⟨0, (), rfl, rfl, by rw [ht]; exact hP9, va_K.moved hW.alike hK, hD9⟩, hS.F ht⟩) hS.2.2 dX11_safetyBits_39
    · have hf := wk_t hf q8
      refine lv_iconst (v := 2) hx hb dX11_safetyBits_17 (by decide) ?_
      refine lv_goto (tgt := 22) hx hb dX11_safetyBits_18 (by decide) ?_
      obtain ⟨r17, w18, hr19, hf⟩ := wkb2_s hf
      refine wk_evi (As := [.int 2]) (rest := []) (wc := (wX11 Y a M_g M_kept M_saved M_before M_isSaved M_changes M_isWithin w2 M_input M_length M_fault M_failed M_signs M_signMany w3 w4 w5 M_sums M_groups M_at M_told M_toldMany)) (w1 := (wX11 Y a M_g M_kept M_saved M_before M_isSaved M_changes M_isWithin w18 M_input M_length M_fault M_failed M_signs M_signMany w3 w4 w5 M_sums M_groups M_at M_told M_toldMany)) (wr := []) ⟨hx, hb, hml, hown, hts⟩ (c_X11_fails l dC dI Y a M_g M_kept M_saved M_before M_isSaved M_changes M_isWithin w2 M_input M_length M_fault M_failed M_signs M_signMany w3 w4 w5 M_sums M_groups M_at M_told M_toldMany 2 H.size r17 w18 hr19) (cwV 1 hts gX11_safetyBits_X11_fails rfl rfl rfl (by decide +kernel) ⟨Nat.le_of_ble_eq_true rfl, Nat.le_of_ble_eq_true rfl⟩) hK hP hD hS hA [0, 1, 2, 3, 4, 5, 6, 7, 8, 9, 10, 11] [] rfl rfl (by decide) (by decide) (by decide) (va_recv hK hP (ci := 11) (q0 := 0) rfl rfl) rfl hl.1 rfl (Nat.le_of_ble_eq_true rfl) dX11_safetyBits_22 ⟨Nat.le_of_ble_eq_true rfl, Nat.le_of_ble_eq_true rfl⟩ (fun H locs hP hD hS => ?_)
      have hP : va_P (dC, dI) vwCl [(a 0, .inr (11, [.ref (a 1), .ref (a 2), .ref (a 3), .ref (a 4), .int M_isSaved, .int M_changes, .int M_isWithin, .int w18, .ref (a 5), .int M_length, .int M_fault, .int M_failed, .ref (a 6), .int M_signMany, .ref (a 7), .ref (a 8), .int w5, .ref (a 9), .ref (a 10), .int M_at, .ref (a 11), .int M_toldMany])), (a 1, .inl (Y 0, 238, .inl M_g)), (a 2, .inl (Y 0, 1904, .inl M_kept)), (a 3, .inl (Y 0, 238, .inl M_saved)), (a 4, .inl (Y 0, 238, .inl M_before)), (a 5, .inl (Y 0, 60, .inl M_input)), (a 6, .inl (Y 2, 100, .inl M_signs)), (a 7, .inl (Y 0, 6, .inl w3)), (a 8, .inl (Y 0, 6, .inl w4)), (a 9, .inl (Y 0, 2048, .inl M_sums)), (a 10, .inl (Y 0, 2048, .inl M_groups)), (a 11, .inl (Y 0, 155, .inl M_told))] H := hP
      have hD : va_D A [(a 0, .inr (11, [.ref (a 1), .ref (a 2), .ref (a 3), .ref (a 4), .int M_isSaved, .int M_changes, .int M_isWithin, .int w18, .ref (a 5), .int M_length, .int M_fault, .int M_failed, .ref (a 6), .int M_signMany, .ref (a 7), .ref (a 8), .int w5, .ref (a 9), .ref (a 10), .int M_at, .ref (a 11), .int M_toldMany])), (a 1, .inl (Y 0, 238, .inl M_g)), (a 2, .inl (Y 0, 1904, .inl M_kept)), (a 3, .inl (Y 0, 238, .inl M_saved)), (a 4, .inl (Y 0, 238, .inl M_before)), (a 5, .inl (Y 0, 60, .inl M_input)), (a 6, .inl (Y 2, 100, .inl M_signs)), (a 7, .inl (Y 0, 6, .inl w3)), (a 8, .inl (Y 0, 6, .inl w4)), (a 9, .inl (Y 0, 2048, .inl M_sums)), (a 10, .inl (Y 0, 2048, .inl M_groups)), (a 11, .inl (Y 0, 155, .inl M_told))] := hD
      refine lv_if_eq (tgt := 32) hx hb dX11_safetyBits_25 (by decide) (fun q20 => ?_) (fun q20 => ?_)
      · have hf := wk_t hf q20
        refine lv_aload_n hx hb dX11_safetyBits_32 rfl (lv_at hl 0 rfl) ?_
        obtain ⟨r21, hr22, hf⟩ := wkb1_s hf
        have hPc := hP.sub (ws' := (wX11 Y a M_g M_kept M_saved M_before M_isSaved M_changes M_isWithin w18 M_input M_length M_fault M_failed M_signs M_signMany w3 w4 w5 M_sums M_groups M_at M_told M_toldMany)) [0, 1, 2, 3, 4, 5, 6, 7, 8, 9, 10, 11] rfl
        refine wk_vf (As := []) (rest := []) ⟨hx, hb, hml, hown, hts⟩ (c_X11_safe l dC dI Y a M_g M_kept M_saved M_before M_isSaved M_changes M_isWithin w18 M_input M_length M_fault M_failed M_signs M_signMany w3 w4 w5 M_sums M_groups M_at M_told M_toldMany r21 hr22) (cwV 0 hts gX11_safetyBits_X11_safe rfl rfl rfl (by decide +kernel) ⟨Nat.le_of_ble_eq_true rfl, Nat.le_of_ble_eq_true rfl⟩) hK hPc (va_recv hK hP (ci := 11) (q0 := 0) rfl rfl) rfl hl.1 rfl (Nat.le_of_ble_eq_true rfl) dX11_safetyBits_33 ⟨Nat.le_of_ble_eq_true rfl, Nat.le_of_ble_eq_true rfl⟩ ?_
        obtain ⟨r23, hr24, hf⟩ := wkb1_s hf
        have hPc := hP.sub (ws' := ([] : va_W)) [] rfl
        refine wk_si (As := [.float r21]) (rest := []) ⟨hx, hb, hml, hown, hts⟩ (c_Jxf58ca_floatToIntBits_5c35a l dC dI Y r21 r23 hr24) (va_cwS 1 hts gX11_safetyBits_Jxf58ca_floatToIntBits_5c35a rfl rfl rfl (by decide +kernel) ⟨Nat.le_of_ble_eq_true rfl, Nat.le_of_ble_eq_true rfl⟩) hK hPc rfl hl.1 rfl (Nat.le_of_ble_eq_true rfl) dX11_safetyBits_36 ⟨Nat.le_of_ble_eq_true rfl, Nat.le_of_ble_eq_true rfl⟩ ?_
        obtain ⟨e0, e1, e2, e3, e4⟩ := wke5 hf
        subst e0
        subst e1
        subst e2
        subst e3
        subst e4
        have hP9 := hP.sub (ws' := (wX11 Y a M_g M_kept M_saved M_before M_isSaved M_changes M_isWithin w18 M_input M_length M_fault M_failed M_signs M_signMany w3 w4 w5 M_sums M_groups M_at M_told M_toldMany)) [0, 1, 2, 3, 4, 5, 6, 7, 8, 9, 10, 11] rfl
        have hD9 := hD.sub (ws' := (wX11 Y a M_g M_kept M_saved M_before M_isSaved M_changes M_isWithin w18 M_input M_length M_fault M_failed M_signs M_signMany w3 w4 w5 M_sums M_groups M_at M_told M_toldMany)) [0, 1, 2, 3, 4, 5, 6, 7, 8, 9, 10, 11] (by decide) rfl
        exact W.iret (v := r23) hx hb hr (fun t ht hW => ⟨⟨r23, (), rfl, rfl, by rw [ht]; exact hP9, va_K.moved hW.alike hK, hD9⟩, hS.F ht⟩) hS.2.2 dX11_safetyBits_39
      · have hf := wk_f hf q20
        refine lv_iconst (v := 0) hx hb dX11_safetyBits_28 (by decide) ?_
        refine lv_goto (tgt := 39) hx hb dX11_safetyBits_29 (by decide) ?_
        obtain ⟨e0, e1, e2, e3, e4⟩ := wke5 hf
        subst e0
        subst e1
        subst e2
        subst e3
        subst e4
        have hP9 := hP.sub (ws' := (wX11 Y a M_g M_kept M_saved M_before M_isSaved M_changes M_isWithin w18 M_input M_length M_fault M_failed M_signs M_signMany w3 w4 w5 M_sums M_groups M_at M_told M_toldMany)) [0, 1, 2, 3, 4, 5, 6, 7, 8, 9, 10, 11] rfl
        have hD9 := hD.sub (ws' := (wX11 Y a M_g M_kept M_saved M_before M_isSaved M_changes M_isWithin w18 M_input M_length M_fault M_failed M_signs M_signMany w3 w4 w5 M_sums M_groups M_at M_told M_toldMany)) [0, 1, 2, 3, 4, 5, 6, 7, 8, 9, 10, 11] (by decide) rfl
        exact W.iret (v := 0) hx hb hr (fun t ht hW => ⟨⟨0, (), rfl, rfl, by rw [ht]; exact hP9, va_K.moved hW.alike hK, hD9⟩, hS.F ht⟩) hS.2.2 dX11_safetyBits_39
theorem lk_X11_accountCount_RX11_7 : Cond.fieldLink RX11 7 "CircusLedgerModel" "g" "[I" ∈ wsX11_accountCount := by decide +kernel
theorem lk_X11_accountCount_RX11_51 : Cond.fieldLink RX11 51 "CircusLedgerModel" "code" "I" ∈ wsX11_accountCount := by decide +kernel
theorem in_X11_accountCount_X11 : ∀ w ∈ u_ws RX11 TX11 22, w ∈ wsX11_accountCount := by decide +kernel
def f_X11_accountCount (M_g : Nat → Int32) (M_code : Int32) : Option (Int32 × Int32) :=
  some ((5 + (M_g 0)), 0)
set_option maxHeartbeats 4000000 in
set_option maxRecDepth 100000 in
theorem c_X11_accountCount (l : Launch) (dC : Nat → ClassId) (dI : Nat → Nat → Nat) (Y : Nat → ClassId) (a : Nat → Nat) (M_g : Nat → Int32) (M_kept : Nat → Int32) (M_saved : Nat → Int32) (M_before : Nat → Int32) (M_isSaved : Int32) (M_changes : Int32) (M_isWithin : Int32) (M_code : Int32) (M_input : Nat → Int32) (M_length : Int32) (M_fault : Int32) (M_failed : Int32) (M_signs : Nat → Int32) (M_signMany : Int32) (M_column : Nat → Int32) (M_loads : Nat → Int32) (M_many : Int32) (M_sums : Nat → Int32) (M_groups : Nat → Int32) (M_at : Int32) (M_told : Nat → Int32) (M_toldMany : Int32)  (sz : Nat) (r : Int32) (zM_code : Int32) (hf : f_X11_accountCount M_g M_code = some (r, zM_code)) : Met l yX11_accountCount wsX11_accountCount ({ frames := 0, cells := 0, slots := 0, locals := 0 } : Room) (va_Pc [.ref (a 0)] (wk_E (dC, dI) Y (wX11 Y a M_g M_kept M_saved M_before M_isSaved M_changes M_isWithin M_code M_input M_length M_fault M_failed M_signs M_signMany M_column M_loads M_many M_sums M_groups M_at M_told M_toldMany) sz)) (va_Qi (fun r2 (_ : Unit) => r2 = r) (fun _ t => wk_X (dC, dI) Y (wX11 Y a M_g M_kept M_saved M_before M_isSaved M_changes M_isWithin zM_code M_input M_length M_fault M_failed M_signs M_signMany M_column M_loads M_many M_sums M_groups M_at M_told M_toldMany) (va_A (wX11 Y a M_g M_kept M_saved M_before M_isSaved M_changes M_isWithin M_code M_input M_length M_fault M_failed M_signs M_signMany M_column M_loads M_many M_sums M_groups M_at M_told M_toldMany) sz) t) (va_A (wX11 Y a M_g M_kept M_saved M_before M_isSaved M_changes M_isWithin M_code M_input M_length M_fault M_failed M_signs M_signMany M_column M_loads M_many M_sums M_groups M_at M_told M_toldMany) sz)) 0 0 (va_A (wX11 Y a M_g M_kept M_saved M_before M_isSaved M_changes M_isWithin M_code M_input M_length M_fault M_failed M_signs M_signMany M_column M_loads M_many M_sums M_groups M_at M_told M_toldMany) sz) := by
  refine Met.ofW (cc := cX11_accountCount) (maxL := 1) (ret := (some .int)) (by decide) rfl ?_
  intro p e s m args below meth c s₁ B hml hv
  obtain ⟨rfl, hsz, hP, hK, hD0⟩ := hv
  have hx := B.exec
  have hb := B.bytes
  have hr := B.returns
  have hts := atoms_spec (ws := wsX11_accountCount) B.pre
  have hown : s.vm.findClass RX11 = some m.cls := findClass_of_methodNamed B.named
  have hlocks := B.notSynchronized
  have C0 : wk_C p s m _ meth c cX11_accountCount 1 (some .int) wsX11_accountCount RX11 := ⟨hx, hb, hml, hr, hlocks, hown, hts⟩
  subst hsz
  have hD := hD0.self (sz := s.heap.size)
  generalize hAe : va_A (wX11 Y a M_g M_kept M_saved M_before M_isSaved M_changes M_isWithin M_code M_input M_length M_fault M_failed M_signs M_signMany M_column M_loads M_many M_sums M_groups M_at M_told M_toldMany) s.heap.size = A at hD ⊢
  have hA : ∀ q : Nat, s.heap.size ≤ q → A q := fun q h => by rw [← hAe]; exact Or.inr h
  have hS : va_S A s.heap s.heap [] := va_S.rf
  obtain ⟨H, hHe⟩ : ∃ H, H = s.heap := ⟨_, rfl⟩
  have hS : va_S A s.heap H [] := by rw [hHe]; exact hS
  have hP : va_P (dC, dI) vwCl [(a 0, .inr (11, [.ref (a 1), .ref (a 2), .ref (a 3), .ref (a 4), .int M_isSaved, .int M_changes, .int M_isWithin, .int M_code, .ref (a 5), .int M_length, .int M_fault, .int M_failed, .ref (a 6), .int M_signMany, .ref (a 7), .ref (a 8), .int M_many, .ref (a 9), .ref (a 10), .int M_at, .ref (a 11), .int M_toldMany])), (a 1, .inl (Y 0, 238, .inl M_g)), (a 2, .inl (Y 0, 1904, .inl M_kept)), (a 3, .inl (Y 0, 238, .inl M_saved)), (a 4, .inl (Y 0, 238, .inl M_before)), (a 5, .inl (Y 0, 60, .inl M_input)), (a 6, .inl (Y 2, 100, .inl M_signs)), (a 7, .inl (Y 0, 6, .inl M_column)), (a 8, .inl (Y 0, 6, .inl M_loads)), (a 9, .inl (Y 0, 2048, .inl M_sums)), (a 10, .inl (Y 0, 2048, .inl M_groups)), (a 11, .inl (Y 0, 155, .inl M_told))] H := by rw [hHe]; exact hP
  have hD : va_D A [(a 0, .inr (11, [.ref (a 1), .ref (a 2), .ref (a 3), .ref (a 4), .int M_isSaved, .int M_changes, .int M_isWithin, .int M_code, .ref (a 5), .int M_length, .int M_fault, .int M_failed, .ref (a 6), .int M_signMany, .ref (a 7), .ref (a 8), .int M_many, .ref (a 9), .ref (a 10), .int M_at, .ref (a 11), .int M_toldMany])), (a 1, .inl (Y 0, 238, .inl M_g)), (a 2, .inl (Y 0, 1904, .inl M_kept)), (a 3, .inl (Y 0, 238, .inl M_saved)), (a 4, .inl (Y 0, 238, .inl M_before)), (a 5, .inl (Y 0, 60, .inl M_input)), (a 6, .inl (Y 2, 100, .inl M_signs)), (a 7, .inl (Y 0, 6, .inl M_column)), (a 8, .inl (Y 0, 6, .inl M_loads)), (a 9, .inl (Y 0, 2048, .inl M_sums)), (a 10, .inl (Y 0, 2048, .inl M_groups)), (a 11, .inl (Y 0, 155, .inl M_told))] := hD
  obtain ⟨locs, hlo⟩ : ∃ locs : List Loc, locs = [] := ⟨_, rfl⟩
  have hS : va_S A s.heap H locs := by rw [hlo]; exact hS
  have hl := lv_entry ([.ref (a 0)]) (n := 1) (Nat.le_of_ble_eq_true rfl)
  rw [lg_entry_eq]
  generalize (lg_sl ([.ref (a 0)]) ++ List.replicate (1 - (lg_sl ([.ref (a 0)])).length) Slot.unset).toArray = ls at hl ⊢
  have hl : lv_has ls 1 [(0, .ref (a 0))] := hl
  refine wk_start hHe hlo ?_
  rw [f_X11_accountCount] at hf
  refine lv_aload_n hx hb dX11_accountCount_0 rfl (lv_at hl 0 rfl) ?_
  refine lv_iconst (v := 0) hx hb dX11_accountCount_1 (by decide) ?_
  refine va_put (D := (dC, dI)) (ci := 11) (v := .int 0) (ty := .int) (C := RX11) (T := TX11) (N := 22) hx hb hts in_X11_accountCount_X11 tyX11 tyX11_ok nmX11 hown hK hP hD hS 0 rfl rfl 7 (by decide) (hts _ lk_X11_accountCount_RX11_51) (fun _ h9 => h9) rfl (by decide +kernel) rfl rfl (Nat.le_of_ble_eq_true rfl) dX11_accountCount_2 (fun H locs hP hD hS => ?_)
  have hP : va_P (dC, dI) vwCl [(a 0, .inr (11, [.ref (a 1), .ref (a 2), .ref (a 3), .ref (a 4), .int M_isSaved, .int M_changes, .int M_isWithin, .int 0, .ref (a 5), .int M_length, .int M_fault, .int M_failed, .ref (a 6), .int M_signMany, .ref (a 7), .ref (a 8), .int M_many, .ref (a 9), .ref (a 10), .int M_at, .ref (a 11), .int M_toldMany])), (a 1, .inl (Y 0, 238, .inl M_g)), (a 2, .inl (Y 0, 1904, .inl M_kept)), (a 3, .inl (Y 0, 238, .inl M_saved)), (a 4, .inl (Y 0, 238, .inl M_before)), (a 5, .inl (Y 0, 60, .inl M_input)), (a 6, .inl (Y 2, 100, .inl M_signs)), (a 7, .inl (Y 0, 6, .inl M_column)), (a 8, .inl (Y 0, 6, .inl M_loads)), (a 9, .inl (Y 0, 2048, .inl M_sums)), (a 10, .inl (Y 0, 2048, .inl M_groups)), (a 11, .inl (Y 0, 155, .inl M_told))] H := hP
  have hD : va_D A [(a 0, .inr (11, [.ref (a 1), .ref (a 2), .ref (a 3), .ref (a 4), .int M_isSaved, .int M_changes, .int M_isWithin, .int 0, .ref (a 5), .int M_length, .int M_fault, .int M_failed, .ref (a 6), .int M_signMany, .ref (a 7), .ref (a 8), .int M_many, .ref (a 9), .ref (a 10), .int M_at, .ref (a 11), .int M_toldMany])), (a 1, .inl (Y 0, 238, .inl M_g)), (a 2, .inl (Y 0, 1904, .inl M_kept)), (a 3, .inl (Y 0, 238, .inl M_saved)), (a 4, .inl (Y 0, 238, .inl M_before)), (a 5, .inl (Y 0, 60, .inl M_input)), (a 6, .inl (Y 2, 100, .inl M_signs)), (a 7, .inl (Y 0, 6, .inl M_column)), (a 8, .inl (Y 0, 6, .inl M_loads)), (a 9, .inl (Y 0, 2048, .inl M_sums)), (a 10, .inl (Y 0, 2048, .inl M_groups)), (a 11, .inl (Y 0, 155, .inl M_told))] := hD
  refine lv_iconst (v := 5) hx hb dX11_accountCount_5 (by decide) ?_
  refine lv_aload_n hx hb dX11_accountCount_6 rfl (lv_at hl 0 rfl) ?_
  refine va_get (D := (dC, dI)) (ci := 11) (v := .ref (a 1)) (C := RX11) (T := TX11) (N := 22) hx hb hts in_X11_accountCount_X11 hown hK hP 0 rfl rfl 0 (by decide) (hts _ lk_X11_accountCount_RX11_7) (fun _ h9 => h9) rfl dX11_accountCount_7 ?_
  refine lv_iconst (v := 0) hx hb dX11_accountCount_10 (by decide) ?_
  refine wk_iald hx hb hK hP 1 0 (k := 0) rfl rfl (vp_lit (by decide)) (by decide) dX11_accountCount_11 ?_
  refine lv_iadd hx hb dX11_accountCount_12 ?_
  obtain ⟨e0, e1⟩ := wke2 hf
  subst e0
  subst e1
  have hP9 := hP.sub (ws' := (wX11 Y a M_g M_kept M_saved M_before M_isSaved M_changes M_isWithin 0 M_input M_length M_fault M_failed M_signs M_signMany M_column M_loads M_many M_sums M_groups M_at M_told M_toldMany)) [0, 1, 2, 3, 4, 5, 6, 7, 8, 9, 10, 11] rfl
  have hD9 := hD.sub (ws' := (wX11 Y a M_g M_kept M_saved M_before M_isSaved M_changes M_isWithin 0 M_input M_length M_fault M_failed M_signs M_signMany M_column M_loads M_many M_sums M_groups M_at M_told M_toldMany)) [0, 1, 2, 3, 4, 5, 6, 7, 8, 9, 10, 11] (by decide) rfl
  exact W.iret (v := (5 + (M_g 0))) hx hb hr (fun t ht hW => ⟨⟨(5 + (M_g 0)), (), rfl, rfl, by rw [ht]; exact hP9, va_K.moved hW.alike hK, hD9⟩, hS.F ht⟩) hS.2.2 dX11_accountCount_13
def f_X11_isLost (M_g : Nat → Int32) (M_code : Int32) (x1 : Int32) : Option (Int32 × Int32) :=
  wkb1 (f_X11_isAccount M_g x1) (fun r1 =>
  if r1 = 0 then
    (wkb2 (f_X11_fails M_code 1) (fun r4 w5 =>
    gbo r4 (some (r4, w5))))
  else
    (wkb2 (f_X11_fails M_code 0) (fun r7 w8 =>
    gbo r7 (some (r7, w8)))))
set_option maxHeartbeats 4000000 in
set_option maxRecDepth 100000 in
theorem c_X11_isLost (l : Launch) (dC : Nat → ClassId) (dI : Nat → Nat → Nat) (Y : Nat → ClassId) (a : Nat → Nat) (M_g : Nat → Int32) (M_kept : Nat → Int32) (M_saved : Nat → Int32) (M_before : Nat → Int32) (M_isSaved : Int32) (M_changes : Int32) (M_isWithin : Int32) (M_code : Int32) (M_input : Nat → Int32) (M_length : Int32) (M_fault : Int32) (M_failed : Int32) (M_signs : Nat → Int32) (M_signMany : Int32) (M_column : Nat → Int32) (M_loads : Nat → Int32) (M_many : Int32) (M_sums : Nat → Int32) (M_groups : Nat → Int32) (M_at : Int32) (M_told : Nat → Int32) (M_toldMany : Int32) (x1 : Int32) (sz : Nat) (r : Int32) (zM_code : Int32) (hf : f_X11_isLost M_g M_code x1 = some (r, zM_code)) : Met l yX11_isLost wsX11_isLost ({ frames := 2, cells := 0, slots := 0, locals := 43 } : Room) (va_Pc [.ref (a 0), .int x1] (wk_E (dC, dI) Y (wX11 Y a M_g M_kept M_saved M_before M_isSaved M_changes M_isWithin M_code M_input M_length M_fault M_failed M_signs M_signMany M_column M_loads M_many M_sums M_groups M_at M_told M_toldMany) sz)) (va_Qi (fun r2 (_ : Unit) => r2 = r) (fun _ t => wk_X (dC, dI) Y (wX11 Y a M_g M_kept M_saved M_before M_isSaved M_changes M_isWithin zM_code M_input M_length M_fault M_failed M_signs M_signMany M_column M_loads M_many M_sums M_groups M_at M_told M_toldMany) (va_A (wX11 Y a M_g M_kept M_saved M_before M_isSaved M_changes M_isWithin M_code M_input M_length M_fault M_failed M_signs M_signMany M_column M_loads M_many M_sums M_groups M_at M_told M_toldMany) sz) t) (va_A (wX11 Y a M_g M_kept M_saved M_before M_isSaved M_changes M_isWithin M_code M_input M_length M_fault M_failed M_signs M_signMany M_column M_loads M_many M_sums M_groups M_at M_told M_toldMany) sz)) 0 0 (va_A (wX11 Y a M_g M_kept M_saved M_before M_isSaved M_changes M_isWithin M_code M_input M_length M_fault M_failed M_signs M_signMany M_column M_loads M_many M_sums M_groups M_at M_told M_toldMany) sz) := by
  refine Met.ofW (cc := cX11_isLost) (maxL := 2) (ret := (some .boolean)) (by decide) rfl ?_
  intro p e s m args below meth c s₁ B hml hv
  obtain ⟨rfl, hsz, hP, hK, hD0⟩ := hv
  have hx := B.exec
  have hb := B.bytes
  have hr := B.returns
  have hts := atoms_spec (ws := wsX11_isLost) B.pre
  have hown : s.vm.findClass RX11 = some m.cls := findClass_of_methodNamed B.named
  have hlocks := B.notSynchronized
  have C0 : wk_C p s m _ meth c cX11_isLost 2 (some .boolean) wsX11_isLost RX11 := ⟨hx, hb, hml, hr, hlocks, hown, hts⟩
  subst hsz
  have hD := hD0.self (sz := s.heap.size)
  generalize hAe : va_A (wX11 Y a M_g M_kept M_saved M_before M_isSaved M_changes M_isWithin M_code M_input M_length M_fault M_failed M_signs M_signMany M_column M_loads M_many M_sums M_groups M_at M_told M_toldMany) s.heap.size = A at hD ⊢
  have hA : ∀ q : Nat, s.heap.size ≤ q → A q := fun q h => by rw [← hAe]; exact Or.inr h
  have hS : va_S A s.heap s.heap [] := va_S.rf
  obtain ⟨H, hHe⟩ : ∃ H, H = s.heap := ⟨_, rfl⟩
  have hS : va_S A s.heap H [] := by rw [hHe]; exact hS
  have hP : va_P (dC, dI) vwCl [(a 0, .inr (11, [.ref (a 1), .ref (a 2), .ref (a 3), .ref (a 4), .int M_isSaved, .int M_changes, .int M_isWithin, .int M_code, .ref (a 5), .int M_length, .int M_fault, .int M_failed, .ref (a 6), .int M_signMany, .ref (a 7), .ref (a 8), .int M_many, .ref (a 9), .ref (a 10), .int M_at, .ref (a 11), .int M_toldMany])), (a 1, .inl (Y 0, 238, .inl M_g)), (a 2, .inl (Y 0, 1904, .inl M_kept)), (a 3, .inl (Y 0, 238, .inl M_saved)), (a 4, .inl (Y 0, 238, .inl M_before)), (a 5, .inl (Y 0, 60, .inl M_input)), (a 6, .inl (Y 2, 100, .inl M_signs)), (a 7, .inl (Y 0, 6, .inl M_column)), (a 8, .inl (Y 0, 6, .inl M_loads)), (a 9, .inl (Y 0, 2048, .inl M_sums)), (a 10, .inl (Y 0, 2048, .inl M_groups)), (a 11, .inl (Y 0, 155, .inl M_told))] H := by rw [hHe]; exact hP
  have hD : va_D A [(a 0, .inr (11, [.ref (a 1), .ref (a 2), .ref (a 3), .ref (a 4), .int M_isSaved, .int M_changes, .int M_isWithin, .int M_code, .ref (a 5), .int M_length, .int M_fault, .int M_failed, .ref (a 6), .int M_signMany, .ref (a 7), .ref (a 8), .int M_many, .ref (a 9), .ref (a 10), .int M_at, .ref (a 11), .int M_toldMany])), (a 1, .inl (Y 0, 238, .inl M_g)), (a 2, .inl (Y 0, 1904, .inl M_kept)), (a 3, .inl (Y 0, 238, .inl M_saved)), (a 4, .inl (Y 0, 238, .inl M_before)), (a 5, .inl (Y 0, 60, .inl M_input)), (a 6, .inl (Y 2, 100, .inl M_signs)), (a 7, .inl (Y 0, 6, .inl M_column)), (a 8, .inl (Y 0, 6, .inl M_loads)), (a 9, .inl (Y 0, 2048, .inl M_sums)), (a 10, .inl (Y 0, 2048, .inl M_groups)), (a 11, .inl (Y 0, 155, .inl M_told))] := hD
  obtain ⟨locs, hlo⟩ : ∃ locs : List Loc, locs = [] := ⟨_, rfl⟩
  have hS : va_S A s.heap H locs := by rw [hlo]; exact hS
  have hl := lv_entry ([.ref (a 0), .int x1]) (n := 2) (Nat.le_of_ble_eq_true rfl)
  rw [lg_entry_eq]
  generalize (lg_sl ([.ref (a 0), .int x1]) ++ List.replicate (2 - (lg_sl ([.ref (a 0), .int x1])).length) Slot.unset).toArray = ls at hl ⊢
  have hl : lv_has ls 2 [(0, .ref (a 0)), (1, .int x1)] := hl
  refine wk_start hHe hlo ?_
  rw [f_X11_isLost] at hf
  refine lv_aload_n hx hb dX11_isLost_0 rfl (lv_at hl 0 rfl) ?_
  refine lv_aload_n hx hb dX11_isLost_1 rfl (lv_at hl 0 rfl) ?_
  refine lv_iload_n hx hb dX11_isLost_2 rfl (lv_at hl 1 rfl) ?_
  obtain ⟨r1, hr2, hf⟩ := wkb1_s hf
  have hPc := hP.sub (ws' := (wX11 Y a M_g M_kept M_saved M_before M_isSaved M_changes M_isWithin M_code M_input M_length M_fault M_failed M_signs M_signMany M_column M_loads M_many M_sums M_groups M_at M_told M_toldMany)) [0, 1, 2, 3, 4, 5, 6, 7, 8, 9, 10, 11] rfl
  refine wk_vi (As := [.int x1]) (rest := [.ref (a 0)]) ⟨hx, hb, hml, hown, hts⟩ (c_X11_isAccount l dC dI Y a M_g M_kept M_saved M_before M_isSaved M_changes M_isWithin M_code M_input M_length M_fault M_failed M_signs M_signMany M_column M_loads M_many M_sums M_groups M_at M_told M_toldMany x1 r1 hr2) (cwV 1 hts gX11_isLost_X11_isAccount rfl rfl rfl (by decide +kernel) ⟨Nat.le_of_ble_eq_true rfl, Nat.le_of_ble_eq_true rfl⟩) hK hPc (va_recv hK hP (ci := 11) (q0 := 0) rfl rfl) rfl hl.1 rfl (Nat.le_of_ble_eq_true rfl) dX11_isLost_3 ⟨Nat.le_of_ble_eq_true rfl, Nat.le_of_ble_eq_true rfl⟩ ?_
  refine lv_if_eq (tgt := 13) hx hb dX11_isLost_6 (by decide) (fun q3 => ?_) (fun q3 => ?_)
  · have hf := wk_t hf q3
    refine lv_iconst (v := 1) hx hb dX11_isLost_13 (by decide) ?_
    obtain ⟨r4, w5, hr6, hf⟩ := wkb2_s hf
    refine wk_evi (As := [.int 1]) (rest := []) (wc := (wX11 Y a M_g M_kept M_saved M_before M_isSaved M_changes M_isWithin M_code M_input M_length M_fault M_failed M_signs M_signMany M_column M_loads M_many M_sums M_groups M_at M_told M_toldMany)) (w1 := (wX11 Y a M_g M_kept M_saved M_before M_isSaved M_changes M_isWithin w5 M_input M_length M_fault M_failed M_signs M_signMany M_column M_loads M_many M_sums M_groups M_at M_told M_toldMany)) (wr := []) ⟨hx, hb, hml, hown, hts⟩ (c_X11_fails l dC dI Y a M_g M_kept M_saved M_before M_isSaved M_changes M_isWithin M_code M_input M_length M_fault M_failed M_signs M_signMany M_column M_loads M_many M_sums M_groups M_at M_told M_toldMany 1 H.size r4 w5 hr6) (cwV 1 hts gX11_isLost_X11_fails rfl rfl rfl (by decide +kernel) ⟨Nat.le_of_ble_eq_true rfl, Nat.le_of_ble_eq_true rfl⟩) hK hP hD hS hA [0, 1, 2, 3, 4, 5, 6, 7, 8, 9, 10, 11] [] rfl rfl (by decide) (by decide) (by decide) (va_recv hK hP (ci := 11) (q0 := 0) rfl rfl) rfl hl.1 rfl (Nat.le_of_ble_eq_true rfl) dX11_isLost_14 ⟨Nat.le_of_ble_eq_true rfl, Nat.le_of_ble_eq_true rfl⟩ (fun H locs hP hD hS => ?_)
    have hP : va_P (dC, dI) vwCl [(a 0, .inr (11, [.ref (a 1), .ref (a 2), .ref (a 3), .ref (a 4), .int M_isSaved, .int M_changes, .int M_isWithin, .int w5, .ref (a 5), .int M_length, .int M_fault, .int M_failed, .ref (a 6), .int M_signMany, .ref (a 7), .ref (a 8), .int M_many, .ref (a 9), .ref (a 10), .int M_at, .ref (a 11), .int M_toldMany])), (a 1, .inl (Y 0, 238, .inl M_g)), (a 2, .inl (Y 0, 1904, .inl M_kept)), (a 3, .inl (Y 0, 238, .inl M_saved)), (a 4, .inl (Y 0, 238, .inl M_before)), (a 5, .inl (Y 0, 60, .inl M_input)), (a 6, .inl (Y 2, 100, .inl M_signs)), (a 7, .inl (Y 0, 6, .inl M_column)), (a 8, .inl (Y 0, 6, .inl M_loads)), (a 9, .inl (Y 0, 2048, .inl M_sums)), (a 10, .inl (Y 0, 2048, .inl M_groups)), (a 11, .inl (Y 0, 155, .inl M_told))] H := hP
    have hD : va_D A [(a 0, .inr (11, [.ref (a 1), .ref (a 2), .ref (a 3), .ref (a 4), .int M_isSaved, .int M_changes, .int M_isWithin, .int w5, .ref (a 5), .int M_length, .int M_fault, .int M_failed, .ref (a 6), .int M_signMany, .ref (a 7), .ref (a 8), .int M_many, .ref (a 9), .ref (a 10), .int M_at, .ref (a 11), .int M_toldMany])), (a 1, .inl (Y 0, 238, .inl M_g)), (a 2, .inl (Y 0, 1904, .inl M_kept)), (a 3, .inl (Y 0, 238, .inl M_saved)), (a 4, .inl (Y 0, 238, .inl M_before)), (a 5, .inl (Y 0, 60, .inl M_input)), (a 6, .inl (Y 2, 100, .inl M_signs)), (a 7, .inl (Y 0, 6, .inl M_column)), (a 8, .inl (Y 0, 6, .inl M_loads)), (a 9, .inl (Y 0, 2048, .inl M_sums)), (a 10, .inl (Y 0, 2048, .inl M_groups)), (a 11, .inl (Y 0, 155, .inl M_told))] := hD
    obtain ⟨h01, hf⟩ := gbo_s hf
    obtain ⟨e0, e1⟩ := wke2 hf
    subst e0
    subst e1
    have hP9 := hP.sub (ws' := (wX11 Y a M_g M_kept M_saved M_before M_isSaved M_changes M_isWithin w5 M_input M_length M_fault M_failed M_signs M_signMany M_column M_loads M_many M_sums M_groups M_at M_told M_toldMany)) [0, 1, 2, 3, 4, 5, 6, 7, 8, 9, 10, 11] rfl
    have hD9 := hD.sub (ws' := (wX11 Y a M_g M_kept M_saved M_before M_isSaved M_changes M_isWithin w5 M_input M_length M_fault M_failed M_signs M_signMany M_column M_loads M_many M_sums M_groups M_at M_told M_toldMany)) [0, 1, 2, 3, 4, 5, 6, 7, 8, 9, 10, 11] (by decide) rfl
    exact W.zret (v := r4) (ty := .boolean) hx hb hr (gbo_n h01) (fun t ht hW => ⟨⟨r4, (), rfl, rfl, by rw [ht]; exact hP9, va_K.moved hW.alike hK, hD9⟩, hS.F ht⟩) hS.2.2 dX11_isLost_17
  · have hf := wk_f hf q3
    refine lv_iconst (v := 0) hx hb dX11_isLost_9 (by decide) ?_
    refine lv_goto (tgt := 14) hx hb dX11_isLost_10 (by decide) ?_
    obtain ⟨r7, w8, hr9, hf⟩ := wkb2_s hf
    refine wk_evi (As := [.int 0]) (rest := []) (wc := (wX11 Y a M_g M_kept M_saved M_before M_isSaved M_changes M_isWithin M_code M_input M_length M_fault M_failed M_signs M_signMany M_column M_loads M_many M_sums M_groups M_at M_told M_toldMany)) (w1 := (wX11 Y a M_g M_kept M_saved M_before M_isSaved M_changes M_isWithin w8 M_input M_length M_fault M_failed M_signs M_signMany M_column M_loads M_many M_sums M_groups M_at M_told M_toldMany)) (wr := []) ⟨hx, hb, hml, hown, hts⟩ (c_X11_fails l dC dI Y a M_g M_kept M_saved M_before M_isSaved M_changes M_isWithin M_code M_input M_length M_fault M_failed M_signs M_signMany M_column M_loads M_many M_sums M_groups M_at M_told M_toldMany 0 H.size r7 w8 hr9) (cwV 1 hts gX11_isLost_X11_fails rfl rfl rfl (by decide +kernel) ⟨Nat.le_of_ble_eq_true rfl, Nat.le_of_ble_eq_true rfl⟩) hK hP hD hS hA [0, 1, 2, 3, 4, 5, 6, 7, 8, 9, 10, 11] [] rfl rfl (by decide) (by decide) (by decide) (va_recv hK hP (ci := 11) (q0 := 0) rfl rfl) rfl hl.1 rfl (Nat.le_of_ble_eq_true rfl) dX11_isLost_14 ⟨Nat.le_of_ble_eq_true rfl, Nat.le_of_ble_eq_true rfl⟩ (fun H locs hP hD hS => ?_)
    have hP : va_P (dC, dI) vwCl [(a 0, .inr (11, [.ref (a 1), .ref (a 2), .ref (a 3), .ref (a 4), .int M_isSaved, .int M_changes, .int M_isWithin, .int w8, .ref (a 5), .int M_length, .int M_fault, .int M_failed, .ref (a 6), .int M_signMany, .ref (a 7), .ref (a 8), .int M_many, .ref (a 9), .ref (a 10), .int M_at, .ref (a 11), .int M_toldMany])), (a 1, .inl (Y 0, 238, .inl M_g)), (a 2, .inl (Y 0, 1904, .inl M_kept)), (a 3, .inl (Y 0, 238, .inl M_saved)), (a 4, .inl (Y 0, 238, .inl M_before)), (a 5, .inl (Y 0, 60, .inl M_input)), (a 6, .inl (Y 2, 100, .inl M_signs)), (a 7, .inl (Y 0, 6, .inl M_column)), (a 8, .inl (Y 0, 6, .inl M_loads)), (a 9, .inl (Y 0, 2048, .inl M_sums)), (a 10, .inl (Y 0, 2048, .inl M_groups)), (a 11, .inl (Y 0, 155, .inl M_told))] H := hP
    have hD : va_D A [(a 0, .inr (11, [.ref (a 1), .ref (a 2), .ref (a 3), .ref (a 4), .int M_isSaved, .int M_changes, .int M_isWithin, .int w8, .ref (a 5), .int M_length, .int M_fault, .int M_failed, .ref (a 6), .int M_signMany, .ref (a 7), .ref (a 8), .int M_many, .ref (a 9), .ref (a 10), .int M_at, .ref (a 11), .int M_toldMany])), (a 1, .inl (Y 0, 238, .inl M_g)), (a 2, .inl (Y 0, 1904, .inl M_kept)), (a 3, .inl (Y 0, 238, .inl M_saved)), (a 4, .inl (Y 0, 238, .inl M_before)), (a 5, .inl (Y 0, 60, .inl M_input)), (a 6, .inl (Y 2, 100, .inl M_signs)), (a 7, .inl (Y 0, 6, .inl M_column)), (a 8, .inl (Y 0, 6, .inl M_loads)), (a 9, .inl (Y 0, 2048, .inl M_sums)), (a 10, .inl (Y 0, 2048, .inl M_groups)), (a 11, .inl (Y 0, 155, .inl M_told))] := hD
    obtain ⟨h01, hf⟩ := gbo_s hf
    obtain ⟨e0, e1⟩ := wke2 hf
    subst e0
    subst e1
    have hP9 := hP.sub (ws' := (wX11 Y a M_g M_kept M_saved M_before M_isSaved M_changes M_isWithin w8 M_input M_length M_fault M_failed M_signs M_signMany M_column M_loads M_many M_sums M_groups M_at M_told M_toldMany)) [0, 1, 2, 3, 4, 5, 6, 7, 8, 9, 10, 11] rfl
    have hD9 := hD.sub (ws' := (wX11 Y a M_g M_kept M_saved M_before M_isSaved M_changes M_isWithin w8 M_input M_length M_fault M_failed M_signs M_signMany M_column M_loads M_many M_sums M_groups M_at M_told M_toldMany)) [0, 1, 2, 3, 4, 5, 6, 7, 8, 9, 10, 11] (by decide) rfl
    exact W.zret (v := r7) (ty := .boolean) hx hb hr (gbo_n h01) (fun t ht hW => ⟨⟨r7, (), rfl, rfl, by rw [ht]; exact hP9, va_K.moved hW.alike hK, hD9⟩, hS.F ht⟩) hS.2.2 dX11_isLost_17
theorem lk_X11_balance_RX11_7 : Cond.fieldLink RX11 7 "CircusLedgerModel" "g" "[I" ∈ wsX11_balance := by decide +kernel
theorem in_X11_balance_X11 : ∀ w ∈ u_ws RX11 TX11 22, w ∈ wsX11_balance := by decide +kernel
def f_X11_balance (M_g : Nat → Int32) (M_code : Int32) (x1 : Int32) : Option (Int32 × Int32) :=
  wkb2 (f_X11_isLost M_g M_code x1) (fun r1 w2 =>
  if r1 = 0 then
    (gin (36 + x1) 238 (some ((M_g (36 + x1).toNatClampNeg), w2)))
  else
    (some (0, w2)))
set_option maxHeartbeats 4000000 in
set_option maxRecDepth 100000 in
theorem c_X11_balance (l : Launch) (dC : Nat → ClassId) (dI : Nat → Nat → Nat) (Y : Nat → ClassId) (a : Nat → Nat) (M_g : Nat → Int32) (M_kept : Nat → Int32) (M_saved : Nat → Int32) (M_before : Nat → Int32) (M_isSaved : Int32) (M_changes : Int32) (M_isWithin : Int32) (M_code : Int32) (M_input : Nat → Int32) (M_length : Int32) (M_fault : Int32) (M_failed : Int32) (M_signs : Nat → Int32) (M_signMany : Int32) (M_column : Nat → Int32) (M_loads : Nat → Int32) (M_many : Int32) (M_sums : Nat → Int32) (M_groups : Nat → Int32) (M_at : Int32) (M_told : Nat → Int32) (M_toldMany : Int32) (x1 : Int32) (sz : Nat) (r : Int32) (zM_code : Int32) (hf : f_X11_balance M_g M_code x1 = some (r, zM_code)) : Met l yX11_balance wsX11_balance ({ frames := 3, cells := 0, slots := 0, locals := 64 } : Room) (va_Pc [.ref (a 0), .int x1] (wk_E (dC, dI) Y (wX11 Y a M_g M_kept M_saved M_before M_isSaved M_changes M_isWithin M_code M_input M_length M_fault M_failed M_signs M_signMany M_column M_loads M_many M_sums M_groups M_at M_told M_toldMany) sz)) (va_Qi (fun r2 (_ : Unit) => r2 = r) (fun _ t => wk_X (dC, dI) Y (wX11 Y a M_g M_kept M_saved M_before M_isSaved M_changes M_isWithin zM_code M_input M_length M_fault M_failed M_signs M_signMany M_column M_loads M_many M_sums M_groups M_at M_told M_toldMany) (va_A (wX11 Y a M_g M_kept M_saved M_before M_isSaved M_changes M_isWithin M_code M_input M_length M_fault M_failed M_signs M_signMany M_column M_loads M_many M_sums M_groups M_at M_told M_toldMany) sz) t) (va_A (wX11 Y a M_g M_kept M_saved M_before M_isSaved M_changes M_isWithin M_code M_input M_length M_fault M_failed M_signs M_signMany M_column M_loads M_many M_sums M_groups M_at M_told M_toldMany) sz)) 0 0 (va_A (wX11 Y a M_g M_kept M_saved M_before M_isSaved M_changes M_isWithin M_code M_input M_length M_fault M_failed M_signs M_signMany M_column M_loads M_many M_sums M_groups M_at M_told M_toldMany) sz) := by
  refine Met.ofW (cc := cX11_balance) (maxL := 2) (ret := (some .int)) (by decide) rfl ?_
  intro p e s m args below meth c s₁ B hml hv
  obtain ⟨rfl, hsz, hP, hK, hD0⟩ := hv
  have hx := B.exec
  have hb := B.bytes
  have hr := B.returns
  have hts := atoms_spec (ws := wsX11_balance) B.pre
  have hown : s.vm.findClass RX11 = some m.cls := findClass_of_methodNamed B.named
  have hlocks := B.notSynchronized
  have C0 : wk_C p s m _ meth c cX11_balance 2 (some .int) wsX11_balance RX11 := ⟨hx, hb, hml, hr, hlocks, hown, hts⟩
  subst hsz
  have hD := hD0.self (sz := s.heap.size)
  generalize hAe : va_A (wX11 Y a M_g M_kept M_saved M_before M_isSaved M_changes M_isWithin M_code M_input M_length M_fault M_failed M_signs M_signMany M_column M_loads M_many M_sums M_groups M_at M_told M_toldMany) s.heap.size = A at hD ⊢
  have hA : ∀ q : Nat, s.heap.size ≤ q → A q := fun q h => by rw [← hAe]; exact Or.inr h
  have hS : va_S A s.heap s.heap [] := va_S.rf
  obtain ⟨H, hHe⟩ : ∃ H, H = s.heap := ⟨_, rfl⟩
  have hS : va_S A s.heap H [] := by rw [hHe]; exact hS
  have hP : va_P (dC, dI) vwCl [(a 0, .inr (11, [.ref (a 1), .ref (a 2), .ref (a 3), .ref (a 4), .int M_isSaved, .int M_changes, .int M_isWithin, .int M_code, .ref (a 5), .int M_length, .int M_fault, .int M_failed, .ref (a 6), .int M_signMany, .ref (a 7), .ref (a 8), .int M_many, .ref (a 9), .ref (a 10), .int M_at, .ref (a 11), .int M_toldMany])), (a 1, .inl (Y 0, 238, .inl M_g)), (a 2, .inl (Y 0, 1904, .inl M_kept)), (a 3, .inl (Y 0, 238, .inl M_saved)), (a 4, .inl (Y 0, 238, .inl M_before)), (a 5, .inl (Y 0, 60, .inl M_input)), (a 6, .inl (Y 2, 100, .inl M_signs)), (a 7, .inl (Y 0, 6, .inl M_column)), (a 8, .inl (Y 0, 6, .inl M_loads)), (a 9, .inl (Y 0, 2048, .inl M_sums)), (a 10, .inl (Y 0, 2048, .inl M_groups)), (a 11, .inl (Y 0, 155, .inl M_told))] H := by rw [hHe]; exact hP
  have hD : va_D A [(a 0, .inr (11, [.ref (a 1), .ref (a 2), .ref (a 3), .ref (a 4), .int M_isSaved, .int M_changes, .int M_isWithin, .int M_code, .ref (a 5), .int M_length, .int M_fault, .int M_failed, .ref (a 6), .int M_signMany, .ref (a 7), .ref (a 8), .int M_many, .ref (a 9), .ref (a 10), .int M_at, .ref (a 11), .int M_toldMany])), (a 1, .inl (Y 0, 238, .inl M_g)), (a 2, .inl (Y 0, 1904, .inl M_kept)), (a 3, .inl (Y 0, 238, .inl M_saved)), (a 4, .inl (Y 0, 238, .inl M_before)), (a 5, .inl (Y 0, 60, .inl M_input)), (a 6, .inl (Y 2, 100, .inl M_signs)), (a 7, .inl (Y 0, 6, .inl M_column)), (a 8, .inl (Y 0, 6, .inl M_loads)), (a 9, .inl (Y 0, 2048, .inl M_sums)), (a 10, .inl (Y 0, 2048, .inl M_groups)), (a 11, .inl (Y 0, 155, .inl M_told))] := hD
  obtain ⟨locs, hlo⟩ : ∃ locs : List Loc, locs = [] := ⟨_, rfl⟩
  have hS : va_S A s.heap H locs := by rw [hlo]; exact hS
  have hl := lv_entry ([.ref (a 0), .int x1]) (n := 2) (Nat.le_of_ble_eq_true rfl)
  rw [lg_entry_eq]
  generalize (lg_sl ([.ref (a 0), .int x1]) ++ List.replicate (2 - (lg_sl ([.ref (a 0), .int x1])).length) Slot.unset).toArray = ls at hl ⊢
  have hl : lv_has ls 2 [(0, .ref (a 0)), (1, .int x1)] := hl
  refine wk_start hHe hlo ?_
  rw [f_X11_balance] at hf
  refine lv_aload_n hx hb dX11_balance_0 rfl (lv_at hl 0 rfl) ?_
  refine lv_iload_n hx hb dX11_balance_1 rfl (lv_at hl 1 rfl) ?_
  obtain ⟨r1, w2, hr3, hf⟩ := wkb2_s hf
  refine wk_evi (As := [.int x1]) (rest := []) (wc := (wX11 Y a M_g M_kept M_saved M_before M_isSaved M_changes M_isWithin M_code M_input M_length M_fault M_failed M_signs M_signMany M_column M_loads M_many M_sums M_groups M_at M_told M_toldMany)) (w1 := (wX11 Y a M_g M_kept M_saved M_before M_isSaved M_changes M_isWithin w2 M_input M_length M_fault M_failed M_signs M_signMany M_column M_loads M_many M_sums M_groups M_at M_told M_toldMany)) (wr := []) ⟨hx, hb, hml, hown, hts⟩ (c_X11_isLost l dC dI Y a M_g M_kept M_saved M_before M_isSaved M_changes M_isWithin M_code M_input M_length M_fault M_failed M_signs M_signMany M_column M_loads M_many M_sums M_groups M_at M_told M_toldMany x1 H.size r1 w2 hr3) (cwV 1 hts gX11_balance_X11_isLost rfl rfl rfl (by decide +kernel) ⟨Nat.le_of_ble_eq_true rfl, Nat.le_of_ble_eq_true rfl⟩) hK hP hD hS hA [0, 1, 2, 3, 4, 5, 6, 7, 8, 9, 10, 11] [] rfl rfl (by decide) (by decide) (by decide) (va_recv hK hP (ci := 11) (q0 := 0) rfl rfl) rfl hl.1 rfl (Nat.le_of_ble_eq_true rfl) dX11_balance_2 ⟨Nat.le_of_ble_eq_true rfl, Nat.le_of_ble_eq_true rfl⟩ (fun H locs hP hD hS => ?_)
  have hP : va_P (dC, dI) vwCl [(a 0, .inr (11, [.ref (a 1), .ref (a 2), .ref (a 3), .ref (a 4), .int M_isSaved, .int M_changes, .int M_isWithin, .int w2, .ref (a 5), .int M_length, .int M_fault, .int M_failed, .ref (a 6), .int M_signMany, .ref (a 7), .ref (a 8), .int M_many, .ref (a 9), .ref (a 10), .int M_at, .ref (a 11), .int M_toldMany])), (a 1, .inl (Y 0, 238, .inl M_g)), (a 2, .inl (Y 0, 1904, .inl M_kept)), (a 3, .inl (Y 0, 238, .inl M_saved)), (a 4, .inl (Y 0, 238, .inl M_before)), (a 5, .inl (Y 0, 60, .inl M_input)), (a 6, .inl (Y 2, 100, .inl M_signs)), (a 7, .inl (Y 0, 6, .inl M_column)), (a 8, .inl (Y 0, 6, .inl M_loads)), (a 9, .inl (Y 0, 2048, .inl M_sums)), (a 10, .inl (Y 0, 2048, .inl M_groups)), (a 11, .inl (Y 0, 155, .inl M_told))] H := hP
  have hD : va_D A [(a 0, .inr (11, [.ref (a 1), .ref (a 2), .ref (a 3), .ref (a 4), .int M_isSaved, .int M_changes, .int M_isWithin, .int w2, .ref (a 5), .int M_length, .int M_fault, .int M_failed, .ref (a 6), .int M_signMany, .ref (a 7), .ref (a 8), .int M_many, .ref (a 9), .ref (a 10), .int M_at, .ref (a 11), .int M_toldMany])), (a 1, .inl (Y 0, 238, .inl M_g)), (a 2, .inl (Y 0, 1904, .inl M_kept)), (a 3, .inl (Y 0, 238, .inl M_saved)), (a 4, .inl (Y 0, 238, .inl M_before)), (a 5, .inl (Y 0, 60, .inl M_input)), (a 6, .inl (Y 2, 100, .inl M_signs)), (a 7, .inl (Y 0, 6, .inl M_column)), (a 8, .inl (Y 0, 6, .inl M_loads)), (a 9, .inl (Y 0, 2048, .inl M_sums)), (a 10, .inl (Y 0, 2048, .inl M_groups)), (a 11, .inl (Y 0, 155, .inl M_told))] := hD
  refine lv_if_eq (tgt := 12) hx hb dX11_balance_5 (by decide) (fun q4 => ?_) (fun q4 => ?_)
  · have hf := wk_t hf q4
    refine lv_aload_n hx hb dX11_balance_12 rfl (lv_at hl 0 rfl) ?_
    refine va_get (D := (dC, dI)) (ci := 11) (v := .ref (a 1)) (C := RX11) (T := TX11) (N := 22) hx hb hts in_X11_balance_X11 hown hK hP 0 rfl rfl 0 (by decide) (hts _ lk_X11_balance_RX11_7) (fun _ h9 => h9) rfl dX11_balance_13 ?_
    refine lv_bipush (v := 36) hx hb dX11_balance_16 (by decide) ?_
    refine lv_iload_n hx hb dX11_balance_18 rfl (lv_at hl 1 rfl) ?_
    refine lv_iadd hx hb dX11_balance_19 ?_
    obtain ⟨h5, hf⟩ := gin_s hf
    refine wk_iald hx hb hK hP 1 0 rfl rfl h5 rfl dX11_balance_20 ?_
    obtain ⟨e0, e1⟩ := wke2 hf
    subst e0
    subst e1
    have hP9 := hP.sub (ws' := (wX11 Y a M_g M_kept M_saved M_before M_isSaved M_changes M_isWithin w2 M_input M_length M_fault M_failed M_signs M_signMany M_column M_loads M_many M_sums M_groups M_at M_told M_toldMany)) [0, 1, 2, 3, 4, 5, 6, 7, 8, 9, 10, 11] rfl
    have hD9 := hD.sub (ws' := (wX11 Y a M_g M_kept M_saved M_before M_isSaved M_changes M_isWithin w2 M_input M_length M_fault M_failed M_signs M_signMany M_column M_loads M_many M_sums M_groups M_at M_told M_toldMany)) [0, 1, 2, 3, 4, 5, 6, 7, 8, 9, 10, 11] (by decide) rfl
    exact W.iret (v := (M_g (36 + x1).toNatClampNeg)) hx hb hr (fun t ht hW => ⟨⟨(M_g (36 + x1).toNatClampNeg), (), rfl, rfl, by rw [ht]; exact hP9, va_K.moved hW.alike hK, hD9⟩, hS.F ht⟩) hS.2.2 dX11_balance_21
  · have hf := wk_f hf q4
    refine lv_iconst (v := 0) hx hb dX11_balance_8 (by decide) ?_
    refine lv_goto (tgt := 21) hx hb dX11_balance_9 (by decide) ?_
    obtain ⟨e0, e1⟩ := wke2 hf
    subst e0
    subst e1
    have hP9 := hP.sub (ws' := (wX11 Y a M_g M_kept M_saved M_before M_isSaved M_changes M_isWithin w2 M_input M_length M_fault M_failed M_signs M_signMany M_column M_loads M_many M_sums M_groups M_at M_told M_toldMany)) [0, 1, 2, 3, 4, 5, 6, 7, 8, 9, 10, 11] rfl
    have hD9 := hD.sub (ws' := (wX11 Y a M_g M_kept M_saved M_before M_isSaved M_changes M_isWithin w2 M_input M_length M_fault M_failed M_signs M_signMany M_column M_loads M_many M_sums M_groups M_at M_told M_toldMany)) [0, 1, 2, 3, 4, 5, 6, 7, 8, 9, 10, 11] (by decide) rfl
    exact W.iret (v := 0) hx hb hr (fun t ht hW => ⟨⟨0, (), rfl, rfl, by rw [ht]; exact hP9, va_K.moved hW.alike hK, hD9⟩, hS.F ht⟩) hS.2.2 dX11_balance_21
theorem lk_X11_sumOf_RX11_7 : Cond.fieldLink RX11 7 "CircusLedgerModel" "g" "[I" ∈ wsX11_sumOf := by decide +kernel
theorem in_X11_sumOf_X11 : ∀ w ∈ u_ws RX11 TX11 22, w ∈ wsX11_sumOf := by decide +kernel
def f_X11_sumOf_L5 (M_g : Nat → Int32) (x1 : Int32) (x2 : Int32) : Nat → Int32 → Int32 → Option (Int32)
  | 0, _, _ => none
  | nn + 1, x3, x4 =>
    if (M_g 3) ≤ x4 then
      (some (x3))
    else
      (wkb1 (f_X11_entry M_g x4 x2) (fun r2 =>
      if r2 = x1 then
        (wkb1 (f_X11_entry M_g x4 2) (fun r5 =>
        f_X11_sumOf_L5 M_g x1 x2 nn (x3 + r5) (x4 + 1)))
      else
        (f_X11_sumOf_L5 M_g x1 x2 nn (x3 + 0) (x4 + 1))))
def f_X11_sumOf (M_g : Nat → Int32) (x1 : Int32) (x2 : Int32) : Option (Int32) :=
  f_X11_sumOf_L5 M_g x1 x2 FU 0 0
set_option maxHeartbeats 4000000 in
set_option maxRecDepth 100000 in
theorem wl_X11_sumOf_L5 {p : Program} {l : Launch} {e : Env} {s : State} {m : MethodId} {args : Array Value} {below : List Frame} {meth : Method} {c : Code} {dC : Nat → ClassId} {dI : Nat → Nat → Nat} {Y : Nat → ClassId} {a : Nat → Nat} {M_g : Nat → Int32} {M_kept : Nat → Int32} {M_saved : Nat → Int32} {M_before : Nat → Int32} {M_isSaved : Int32} {M_changes : Int32} {M_isWithin : Int32} {M_code : Int32} {M_input : Nat → Int32} {M_length : Int32} {M_fault : Int32} {M_failed : Int32} {M_signs : Nat → Int32} {M_signMany : Int32} {M_column : Nat → Int32} {M_loads : Nat → Int32} {M_many : Int32} {M_sums : Nat → Int32} {M_groups : Nat → Int32} {M_at : Int32} {M_told : Nat → Int32} {M_toldMany : Int32} {x1 : Int32} {x2 : Int32} {r : Int32}  (C0 : wk_C p s m args meth c cX11_sumOf 5 (some .int) wsX11_sumOf RX11) (hK : va_K (dC, dI) vwCl (vTy Y) s) (hP : va_P (dC, dI) vwCl (wX11 Y a M_g M_kept M_saved M_before M_isSaved M_changes M_isWithin M_code M_input M_length M_fault M_failed M_signs M_signMany M_column M_loads M_many M_sums M_groups M_at M_told M_toldMany) s.heap) : ∀ (nn : Nat) (x3 : Int32) (x4 : Int32)  , f_X11_sumOf_L5 M_g x1 x2 nn x3 x4 = some (r) → ∀ (ls : Array Slot), lv_has ls 5 [(0, .ref (a 0)), (1, .int x1), (2, .int x2), (3, .int x3), (4, .int x4)] → W p l e (headSpec wsX11_sumOf ({ frames := 1, cells := 0, slots := 0, locals := 22 } : Room)).room s m args below meth c s.heap [] 0 0 (MQ below (vp_Si (fun r2 => r2 = r)) args s 0 0 (fun _ => False)) (F0 m 5 ls []) := by
  have C0 := C0
  obtain ⟨hx, hb, hml, hr, hlocks, hown, hts⟩ := id C0
  intro nn
  induction nn with
  | zero =>
    intro x3 x4 hf
    rw [f_X11_sumOf_L5] at hf
    cases hf
  | succ nn ih =>
    intro x3 x4 hf ls hl
    rw [f_X11_sumOf_L5] at hf
    have hP : va_P (dC, dI) vwCl [(a 0, .inr (11, [.ref (a 1), .ref (a 2), .ref (a 3), .ref (a 4), .int M_isSaved, .int M_changes, .int M_isWithin, .int M_code, .ref (a 5), .int M_length, .int M_fault, .int M_failed, .ref (a 6), .int M_signMany, .ref (a 7), .ref (a 8), .int M_many, .ref (a 9), .ref (a 10), .int M_at, .ref (a 11), .int M_toldMany])), (a 1, .inl (Y 0, 238, .inl M_g)), (a 2, .inl (Y 0, 1904, .inl M_kept)), (a 3, .inl (Y 0, 238, .inl M_saved)), (a 4, .inl (Y 0, 238, .inl M_before)), (a 5, .inl (Y 0, 60, .inl M_input)), (a 6, .inl (Y 2, 100, .inl M_signs)), (a 7, .inl (Y 0, 6, .inl M_column)), (a 8, .inl (Y 0, 6, .inl M_loads)), (a 9, .inl (Y 0, 2048, .inl M_sums)), (a 10, .inl (Y 0, 2048, .inl M_groups)), (a 11, .inl (Y 0, 155, .inl M_told))] s.heap := hP
    refine lv_iload hx hb dX11_sumOf_5 (lv_at hl 4 rfl) ?_
    refine lv_aload_n hx hb dX11_sumOf_7 rfl (lv_at hl 0 rfl) ?_
    refine va_get (D := (dC, dI)) (ci := 11) (v := .ref (a 1)) (C := RX11) (T := TX11) (N := 22) hx hb hts in_X11_sumOf_X11 hown hK hP 0 rfl rfl 0 (by decide) (hts _ lk_X11_sumOf_RX11_7) (fun _ h9 => h9) rfl dX11_sumOf_8 ?_
    refine lv_iconst (v := 3) hx hb dX11_sumOf_11 (by decide) ?_
    refine wk_iald hx hb hK hP 1 0 (k := 3) rfl rfl (vp_lit (by decide)) (by decide) dX11_sumOf_12 ?_
    refine lv_icmp_ge (tgt := 47) hx hb dX11_sumOf_13 (by decide) (fun q1 => ?_) (fun q1 => ?_)
    · have hf := wk_t hf q1
      refine lv_iload_n hx hb dX11_sumOf_47 rfl (lv_at hl 3 rfl) ?_
      have e0 := wke1 hf
      subst e0
      exact W.iret (v := x3) hx hb hr (fun t ht hW => ⟨x3, rfl, rfl, ht⟩) (fun q h => absurd h List.not_mem_nil) dX11_sumOf_48
    · have hf := wk_f hf q1
      refine lv_iload_n hx hb dX11_sumOf_16 rfl (lv_at hl 3 rfl) ?_
      refine lv_aload_n hx hb dX11_sumOf_17 rfl (lv_at hl 0 rfl) ?_
      refine lv_iload hx hb dX11_sumOf_18 (lv_at hl 4 rfl) ?_
      refine lv_iload_n hx hb dX11_sumOf_20 rfl (lv_at hl 2 rfl) ?_
      obtain ⟨r2, hr3, hf⟩ := wkb1_s hf
      have hPc := hP.sub (ws' := (wX11 Y a M_g M_kept M_saved M_before M_isSaved M_changes M_isWithin M_code M_input M_length M_fault M_failed M_signs M_signMany M_column M_loads M_many M_sums M_groups M_at M_told M_toldMany)) [0, 1, 2, 3, 4, 5, 6, 7, 8, 9, 10, 11] rfl
      refine wk_vi (As := [.int x4, .int x2]) (rest := [.int x3]) ⟨hx, hb, hml, hown, hts⟩ (c_X11_entry l dC dI Y a M_g M_kept M_saved M_before M_isSaved M_changes M_isWithin M_code M_input M_length M_fault M_failed M_signs M_signMany M_column M_loads M_many M_sums M_groups M_at M_told M_toldMany x4 x2 r2 hr3) (cwV 2 hts gX11_sumOf_X11_entry rfl rfl rfl (by decide +kernel) ⟨Nat.le_of_ble_eq_true rfl, Nat.le_of_ble_eq_true rfl⟩) hK hPc (va_recv hK hP (ci := 11) (q0 := 0) rfl rfl) rfl hl.1 rfl (Nat.le_of_ble_eq_true rfl) dX11_sumOf_21 ⟨Nat.le_of_ble_eq_true rfl, Nat.le_of_ble_eq_true rfl⟩ ?_
      refine lv_iload_n hx hb dX11_sumOf_24 rfl (lv_at hl 1 rfl) ?_
      refine lv_icmp_ne (tgt := 38) hx hb dX11_sumOf_25 (by decide) (fun q4 => ?_) (fun q4 => ?_)
      · have hf := wk_f hf q4
        refine lv_iconst (v := 0) hx hb dX11_sumOf_38 (by decide) ?_
        refine lv_iadd hx hb dX11_sumOf_39 ?_
        refine lv_istore_n (lv' := [(3, .int (x3 + 0)), (0, .ref (a 0)), (1, .int x1), (2, .int x2), (4, .int x4)]) hx hb dX11_sumOf_40 rfl hl (by decide) rfl (fun ls hl => ?_)
        refine lv_iinc (v := (x4 + 1)) (lv' := [(4, .int (x4 + 1)), (3, .int (x3 + 0)), (0, .ref (a 0)), (1, .int x1), (2, .int x2)]) hx hb dX11_sumOf_41 hl (k := 4) rfl rfl (by decide) rfl (fun ls hl => ?_)
        refine lv_goto (tgt := 5) hx hb dX11_sumOf_44 (by decide) ?_
        exact ih (x3 + 0) (x4 + 1) hf ls (lv_sub hl [2, 3, 4, 1, 0] rfl)
      · have hf := wk_t hf q4
        refine lv_aload_n hx hb dX11_sumOf_28 rfl (lv_at hl 0 rfl) ?_
        refine lv_iload hx hb dX11_sumOf_29 (lv_at hl 4 rfl) ?_
        refine lv_iconst (v := 2) hx hb dX11_sumOf_31 (by decide) ?_
        obtain ⟨r5, hr6, hf⟩ := wkb1_s hf
        have hPc := hP.sub (ws' := (wX11 Y a M_g M_kept M_saved M_before M_isSaved M_changes M_isWithin M_code M_input M_length M_fault M_failed M_signs M_signMany M_column M_loads M_many M_sums M_groups M_at M_told M_toldMany)) [0, 1, 2, 3, 4, 5, 6, 7, 8, 9, 10, 11] rfl
        refine wk_vi (As := [.int x4, .int 2]) (rest := [.int x3]) ⟨hx, hb, hml, hown, hts⟩ (c_X11_entry l dC dI Y a M_g M_kept M_saved M_before M_isSaved M_changes M_isWithin M_code M_input M_length M_fault M_failed M_signs M_signMany M_column M_loads M_many M_sums M_groups M_at M_told M_toldMany x4 2 r5 hr6) (cwV 2 hts gX11_sumOf_X11_entry rfl rfl rfl (by decide +kernel) ⟨Nat.le_of_ble_eq_true rfl, Nat.le_of_ble_eq_true rfl⟩) hK hPc (va_recv hK hP (ci := 11) (q0 := 0) rfl rfl) rfl hl.1 rfl (Nat.le_of_ble_eq_true rfl) dX11_sumOf_32 ⟨Nat.le_of_ble_eq_true rfl, Nat.le_of_ble_eq_true rfl⟩ ?_
        refine lv_goto (tgt := 39) hx hb dX11_sumOf_35 (by decide) ?_
        refine lv_iadd hx hb dX11_sumOf_39 ?_
        refine lv_istore_n (lv' := [(3, .int (x3 + r5)), (0, .ref (a 0)), (1, .int x1), (2, .int x2), (4, .int x4)]) hx hb dX11_sumOf_40 rfl hl (by decide) rfl (fun ls hl => ?_)
        refine lv_iinc (v := (x4 + 1)) (lv' := [(4, .int (x4 + 1)), (3, .int (x3 + r5)), (0, .ref (a 0)), (1, .int x1), (2, .int x2)]) hx hb dX11_sumOf_41 hl (k := 4) rfl rfl (by decide) rfl (fun ls hl => ?_)
        refine lv_goto (tgt := 5) hx hb dX11_sumOf_44 (by decide) ?_
        exact ih (x3 + r5) (x4 + 1) hf ls (lv_sub hl [2, 3, 4, 1, 0] rfl)
set_option maxHeartbeats 4000000 in
set_option maxRecDepth 100000 in
theorem c_X11_sumOf (l : Launch) (dC : Nat → ClassId) (dI : Nat → Nat → Nat) (Y : Nat → ClassId) (a : Nat → Nat) (M_g : Nat → Int32) (M_kept : Nat → Int32) (M_saved : Nat → Int32) (M_before : Nat → Int32) (M_isSaved : Int32) (M_changes : Int32) (M_isWithin : Int32) (M_code : Int32) (M_input : Nat → Int32) (M_length : Int32) (M_fault : Int32) (M_failed : Int32) (M_signs : Nat → Int32) (M_signMany : Int32) (M_column : Nat → Int32) (M_loads : Nat → Int32) (M_many : Int32) (M_sums : Nat → Int32) (M_groups : Nat → Int32) (M_at : Int32) (M_told : Nat → Int32) (M_toldMany : Int32) (x1 : Int32) (x2 : Int32) (r : Int32) (hf : f_X11_sumOf M_g x1 x2 = some (r)) : Met l yX11_sumOf wsX11_sumOf ({ frames := 1, cells := 0, slots := 0, locals := 22 } : Room) (va_Pc [.ref (a 0), .int x1, .int x2] (wk_B (dC, dI) Y (wX11 Y a M_g M_kept M_saved M_before M_isSaved M_changes M_isWithin M_code M_input M_length M_fault M_failed M_signs M_signMany M_column M_loads M_many M_sums M_groups M_at M_told M_toldMany))) (vp_Si (fun r2 => r2 = r)) 0 0 (fun _ => False) := by
  refine Met.ofW (cc := cX11_sumOf) (maxL := 5) (ret := (some .int)) (by decide) rfl ?_
  intro p e s m args below meth c s₁ B hml hv
  obtain ⟨rfl, hP, hK⟩ := hv
  have hx := B.exec
  have hb := B.bytes
  have hr := B.returns
  have hts := atoms_spec (ws := wsX11_sumOf) B.pre
  have hown : s.vm.findClass RX11 = some m.cls := findClass_of_methodNamed B.named
  have hlocks := B.notSynchronized
  have C0 : wk_C p s m _ meth c cX11_sumOf 5 (some .int) wsX11_sumOf RX11 := ⟨hx, hb, hml, hr, hlocks, hown, hts⟩
  have hP : va_P (dC, dI) vwCl [(a 0, .inr (11, [.ref (a 1), .ref (a 2), .ref (a 3), .ref (a 4), .int M_isSaved, .int M_changes, .int M_isWithin, .int M_code, .ref (a 5), .int M_length, .int M_fault, .int M_failed, .ref (a 6), .int M_signMany, .ref (a 7), .ref (a 8), .int M_many, .ref (a 9), .ref (a 10), .int M_at, .ref (a 11), .int M_toldMany])), (a 1, .inl (Y 0, 238, .inl M_g)), (a 2, .inl (Y 0, 1904, .inl M_kept)), (a 3, .inl (Y 0, 238, .inl M_saved)), (a 4, .inl (Y 0, 238, .inl M_before)), (a 5, .inl (Y 0, 60, .inl M_input)), (a 6, .inl (Y 2, 100, .inl M_signs)), (a 7, .inl (Y 0, 6, .inl M_column)), (a 8, .inl (Y 0, 6, .inl M_loads)), (a 9, .inl (Y 0, 2048, .inl M_sums)), (a 10, .inl (Y 0, 2048, .inl M_groups)), (a 11, .inl (Y 0, 155, .inl M_told))] s.heap := hP
  have hl := lv_entry ([.ref (a 0), .int x1, .int x2]) (n := 5) (Nat.le_of_ble_eq_true rfl)
  rw [lg_entry_eq]
  generalize (lg_sl ([.ref (a 0), .int x1, .int x2]) ++ List.replicate (5 - (lg_sl ([.ref (a 0), .int x1, .int x2])).length) Slot.unset).toArray = ls at hl ⊢
  have hl : lv_has ls 5 [(0, .ref (a 0)), (1, .int x1), (2, .int x2)] := hl
  rw [f_X11_sumOf] at hf
  refine lv_iconst (v := 0) hx hb dX11_sumOf_0 (by decide) ?_
  refine lv_istore_n (lv' := [(3, .int 0), (0, .ref (a 0)), (1, .int x1), (2, .int x2)]) hx hb dX11_sumOf_1 rfl hl (by decide) rfl (fun ls hl => ?_)
  refine lv_iconst (v := 0) hx hb dX11_sumOf_2 (by decide) ?_
  refine lv_istore (lv' := [(4, .int 0), (3, .int 0), (0, .ref (a 0)), (1, .int x1), (2, .int x2)]) hx hb dX11_sumOf_3 hl (by decide) rfl (fun ls hl => ?_)
  exact wl_X11_sumOf_L5 C0 hK hP FU 0 0 hf ls (lv_sub hl [2, 3, 4, 1, 0] rfl)
theorem lk_X11_balanceByJournal_RX11_7 : Cond.fieldLink RX11 7 "CircusLedgerModel" "g" "[I" ∈ wsX11_balanceByJournal := by decide +kernel
theorem in_X11_balanceByJournal_X11 : ∀ w ∈ u_ws RX11 TX11 22, w ∈ wsX11_balanceByJournal := by decide +kernel
def f_X11_balanceByJournal (M_g : Nat → Int32) (M_code : Int32) (x1 : Int32) : Option (Int32 × Int32) :=
  wkb2 (f_X11_isLost M_g M_code x1) (fun r1 w2 =>
  if r1 = 0 then
    (gin (47 + x1) 238 (wkb1 (f_X11_sumOf M_g x1 0) (fun r6 =>
    wkb1 (f_X11_sumOf M_g x1 1) (fun r8 =>
    some ((((M_g (47 + x1).toNatClampNeg) + r6) - r8), w2)))))
  else
    (some (0, w2)))
set_option maxHeartbeats 4000000 in
set_option maxRecDepth 100000 in
theorem c_X11_balanceByJournal (l : Launch) (dC : Nat → ClassId) (dI : Nat → Nat → Nat) (Y : Nat → ClassId) (a : Nat → Nat) (M_g : Nat → Int32) (M_kept : Nat → Int32) (M_saved : Nat → Int32) (M_before : Nat → Int32) (M_isSaved : Int32) (M_changes : Int32) (M_isWithin : Int32) (M_code : Int32) (M_input : Nat → Int32) (M_length : Int32) (M_fault : Int32) (M_failed : Int32) (M_signs : Nat → Int32) (M_signMany : Int32) (M_column : Nat → Int32) (M_loads : Nat → Int32) (M_many : Int32) (M_sums : Nat → Int32) (M_groups : Nat → Int32) (M_at : Int32) (M_told : Nat → Int32) (M_toldMany : Int32) (x1 : Int32) (sz : Nat) (r : Int32) (zM_code : Int32) (hf : f_X11_balanceByJournal M_g M_code x1 = some (r, zM_code)) : Met l yX11_balanceByJournal wsX11_balanceByJournal ({ frames := 3, cells := 0, slots := 0, locals := 64 } : Room) (va_Pc [.ref (a 0), .int x1] (wk_E (dC, dI) Y (wX11 Y a M_g M_kept M_saved M_before M_isSaved M_changes M_isWithin M_code M_input M_length M_fault M_failed M_signs M_signMany M_column M_loads M_many M_sums M_groups M_at M_told M_toldMany) sz)) (va_Qi (fun r2 (_ : Unit) => r2 = r) (fun _ t => wk_X (dC, dI) Y (wX11 Y a M_g M_kept M_saved M_before M_isSaved M_changes M_isWithin zM_code M_input M_length M_fault M_failed M_signs M_signMany M_column M_loads M_many M_sums M_groups M_at M_told M_toldMany) (va_A (wX11 Y a M_g M_kept M_saved M_before M_isSaved M_changes M_isWithin M_code M_input M_length M_fault M_failed M_signs M_signMany M_column M_loads M_many M_sums M_groups M_at M_told M_toldMany) sz) t) (va_A (wX11 Y a M_g M_kept M_saved M_before M_isSaved M_changes M_isWithin M_code M_input M_length M_fault M_failed M_signs M_signMany M_column M_loads M_many M_sums M_groups M_at M_told M_toldMany) sz)) 0 0 (va_A (wX11 Y a M_g M_kept M_saved M_before M_isSaved M_changes M_isWithin M_code M_input M_length M_fault M_failed M_signs M_signMany M_column M_loads M_many M_sums M_groups M_at M_told M_toldMany) sz) := by
  refine Met.ofW (cc := cX11_balanceByJournal) (maxL := 2) (ret := (some .int)) (by decide) rfl ?_
  intro p e s m args below meth c s₁ B hml hv
  obtain ⟨rfl, hsz, hP, hK, hD0⟩ := hv
  have hx := B.exec
  have hb := B.bytes
  have hr := B.returns
  have hts := atoms_spec (ws := wsX11_balanceByJournal) B.pre
  have hown : s.vm.findClass RX11 = some m.cls := findClass_of_methodNamed B.named
  have hlocks := B.notSynchronized
  have C0 : wk_C p s m _ meth c cX11_balanceByJournal 2 (some .int) wsX11_balanceByJournal RX11 := ⟨hx, hb, hml, hr, hlocks, hown, hts⟩
  subst hsz
  have hD := hD0.self (sz := s.heap.size)
  generalize hAe : va_A (wX11 Y a M_g M_kept M_saved M_before M_isSaved M_changes M_isWithin M_code M_input M_length M_fault M_failed M_signs M_signMany M_column M_loads M_many M_sums M_groups M_at M_told M_toldMany) s.heap.size = A at hD ⊢
  have hA : ∀ q : Nat, s.heap.size ≤ q → A q := fun q h => by rw [← hAe]; exact Or.inr h
  have hS : va_S A s.heap s.heap [] := va_S.rf
  obtain ⟨H, hHe⟩ : ∃ H, H = s.heap := ⟨_, rfl⟩
  have hS : va_S A s.heap H [] := by rw [hHe]; exact hS
  have hP : va_P (dC, dI) vwCl [(a 0, .inr (11, [.ref (a 1), .ref (a 2), .ref (a 3), .ref (a 4), .int M_isSaved, .int M_changes, .int M_isWithin, .int M_code, .ref (a 5), .int M_length, .int M_fault, .int M_failed, .ref (a 6), .int M_signMany, .ref (a 7), .ref (a 8), .int M_many, .ref (a 9), .ref (a 10), .int M_at, .ref (a 11), .int M_toldMany])), (a 1, .inl (Y 0, 238, .inl M_g)), (a 2, .inl (Y 0, 1904, .inl M_kept)), (a 3, .inl (Y 0, 238, .inl M_saved)), (a 4, .inl (Y 0, 238, .inl M_before)), (a 5, .inl (Y 0, 60, .inl M_input)), (a 6, .inl (Y 2, 100, .inl M_signs)), (a 7, .inl (Y 0, 6, .inl M_column)), (a 8, .inl (Y 0, 6, .inl M_loads)), (a 9, .inl (Y 0, 2048, .inl M_sums)), (a 10, .inl (Y 0, 2048, .inl M_groups)), (a 11, .inl (Y 0, 155, .inl M_told))] H := by rw [hHe]; exact hP
  have hD : va_D A [(a 0, .inr (11, [.ref (a 1), .ref (a 2), .ref (a 3), .ref (a 4), .int M_isSaved, .int M_changes, .int M_isWithin, .int M_code, .ref (a 5), .int M_length, .int M_fault, .int M_failed, .ref (a 6), .int M_signMany, .ref (a 7), .ref (a 8), .int M_many, .ref (a 9), .ref (a 10), .int M_at, .ref (a 11), .int M_toldMany])), (a 1, .inl (Y 0, 238, .inl M_g)), (a 2, .inl (Y 0, 1904, .inl M_kept)), (a 3, .inl (Y 0, 238, .inl M_saved)), (a 4, .inl (Y 0, 238, .inl M_before)), (a 5, .inl (Y 0, 60, .inl M_input)), (a 6, .inl (Y 2, 100, .inl M_signs)), (a 7, .inl (Y 0, 6, .inl M_column)), (a 8, .inl (Y 0, 6, .inl M_loads)), (a 9, .inl (Y 0, 2048, .inl M_sums)), (a 10, .inl (Y 0, 2048, .inl M_groups)), (a 11, .inl (Y 0, 155, .inl M_told))] := hD
  obtain ⟨locs, hlo⟩ : ∃ locs : List Loc, locs = [] := ⟨_, rfl⟩
  have hS : va_S A s.heap H locs := by rw [hlo]; exact hS
  have hl := lv_entry ([.ref (a 0), .int x1]) (n := 2) (Nat.le_of_ble_eq_true rfl)
  rw [lg_entry_eq]
  generalize (lg_sl ([.ref (a 0), .int x1]) ++ List.replicate (2 - (lg_sl ([.ref (a 0), .int x1])).length) Slot.unset).toArray = ls at hl ⊢
  have hl : lv_has ls 2 [(0, .ref (a 0)), (1, .int x1)] := hl
  refine wk_start hHe hlo ?_
  rw [f_X11_balanceByJournal] at hf
  refine lv_aload_n hx hb dX11_balanceByJournal_0 rfl (lv_at hl 0 rfl) ?_
  refine lv_iload_n hx hb dX11_balanceByJournal_1 rfl (lv_at hl 1 rfl) ?_
  obtain ⟨r1, w2, hr3, hf⟩ := wkb2_s hf
  refine wk_evi (As := [.int x1]) (rest := []) (wc := (wX11 Y a M_g M_kept M_saved M_before M_isSaved M_changes M_isWithin M_code M_input M_length M_fault M_failed M_signs M_signMany M_column M_loads M_many M_sums M_groups M_at M_told M_toldMany)) (w1 := (wX11 Y a M_g M_kept M_saved M_before M_isSaved M_changes M_isWithin w2 M_input M_length M_fault M_failed M_signs M_signMany M_column M_loads M_many M_sums M_groups M_at M_told M_toldMany)) (wr := []) ⟨hx, hb, hml, hown, hts⟩ (c_X11_isLost l dC dI Y a M_g M_kept M_saved M_before M_isSaved M_changes M_isWithin M_code M_input M_length M_fault M_failed M_signs M_signMany M_column M_loads M_many M_sums M_groups M_at M_told M_toldMany x1 H.size r1 w2 hr3) (cwV 1 hts gX11_balanceByJournal_X11_isLost rfl rfl rfl (by decide +kernel) ⟨Nat.le_of_ble_eq_true rfl, Nat.le_of_ble_eq_true rfl⟩) hK hP hD hS hA [0, 1, 2, 3, 4, 5, 6, 7, 8, 9, 10, 11] [] rfl rfl (by decide) (by decide) (by decide) (va_recv hK hP (ci := 11) (q0 := 0) rfl rfl) rfl hl.1 rfl (Nat.le_of_ble_eq_true rfl) dX11_balanceByJournal_2 ⟨Nat.le_of_ble_eq_true rfl, Nat.le_of_ble_eq_true rfl⟩ (fun H locs hP hD hS => ?_)
  have hP : va_P (dC, dI) vwCl [(a 0, .inr (11, [.ref (a 1), .ref (a 2), .ref (a 3), .ref (a 4), .int M_isSaved, .int M_changes, .int M_isWithin, .int w2, .ref (a 5), .int M_length, .int M_fault, .int M_failed, .ref (a 6), .int M_signMany, .ref (a 7), .ref (a 8), .int M_many, .ref (a 9), .ref (a 10), .int M_at, .ref (a 11), .int M_toldMany])), (a 1, .inl (Y 0, 238, .inl M_g)), (a 2, .inl (Y 0, 1904, .inl M_kept)), (a 3, .inl (Y 0, 238, .inl M_saved)), (a 4, .inl (Y 0, 238, .inl M_before)), (a 5, .inl (Y 0, 60, .inl M_input)), (a 6, .inl (Y 2, 100, .inl M_signs)), (a 7, .inl (Y 0, 6, .inl M_column)), (a 8, .inl (Y 0, 6, .inl M_loads)), (a 9, .inl (Y 0, 2048, .inl M_sums)), (a 10, .inl (Y 0, 2048, .inl M_groups)), (a 11, .inl (Y 0, 155, .inl M_told))] H := hP
  have hD : va_D A [(a 0, .inr (11, [.ref (a 1), .ref (a 2), .ref (a 3), .ref (a 4), .int M_isSaved, .int M_changes, .int M_isWithin, .int w2, .ref (a 5), .int M_length, .int M_fault, .int M_failed, .ref (a 6), .int M_signMany, .ref (a 7), .ref (a 8), .int M_many, .ref (a 9), .ref (a 10), .int M_at, .ref (a 11), .int M_toldMany])), (a 1, .inl (Y 0, 238, .inl M_g)), (a 2, .inl (Y 0, 1904, .inl M_kept)), (a 3, .inl (Y 0, 238, .inl M_saved)), (a 4, .inl (Y 0, 238, .inl M_before)), (a 5, .inl (Y 0, 60, .inl M_input)), (a 6, .inl (Y 2, 100, .inl M_signs)), (a 7, .inl (Y 0, 6, .inl M_column)), (a 8, .inl (Y 0, 6, .inl M_loads)), (a 9, .inl (Y 0, 2048, .inl M_sums)), (a 10, .inl (Y 0, 2048, .inl M_groups)), (a 11, .inl (Y 0, 155, .inl M_told))] := hD
  refine lv_if_eq (tgt := 12) hx hb dX11_balanceByJournal_5 (by decide) (fun q4 => ?_) (fun q4 => ?_)
  · have hf := wk_t hf q4
    refine lv_aload_n hx hb dX11_balanceByJournal_12 rfl (lv_at hl 0 rfl) ?_
    refine va_get (D := (dC, dI)) (ci := 11) (v := .ref (a 1)) (C := RX11) (T := TX11) (N := 22) hx hb hts in_X11_balanceByJournal_X11 hown hK hP 0 rfl rfl 0 (by decide) (hts _ lk_X11_balanceByJournal_RX11_7) (fun _ h9 => h9) rfl dX11_balanceByJournal_13 ?_
    refine lv_bipush (v := 47) hx hb dX11_balanceByJournal_16 (by decide) ?_
    refine lv_iload_n hx hb dX11_balanceByJournal_18 rfl (lv_at hl 1 rfl) ?_
    refine lv_iadd hx hb dX11_balanceByJournal_19 ?_
    obtain ⟨h5, hf⟩ := gin_s hf
    refine wk_iald hx hb hK hP 1 0 rfl rfl h5 rfl dX11_balanceByJournal_20 ?_
    refine lv_aload_n hx hb dX11_balanceByJournal_21 rfl (lv_at hl 0 rfl) ?_
    refine lv_iload_n hx hb dX11_balanceByJournal_22 rfl (lv_at hl 1 rfl) ?_
    refine lv_iconst (v := 0) hx hb dX11_balanceByJournal_23 (by decide) ?_
    obtain ⟨r6, hr7, hf⟩ := wkb1_s hf
    have hPc := hP.sub (ws' := (wX11 Y a M_g M_kept M_saved M_before M_isSaved M_changes M_isWithin w2 M_input M_length M_fault M_failed M_signs M_signMany M_column M_loads M_many M_sums M_groups M_at M_told M_toldMany)) [0, 1, 2, 3, 4, 5, 6, 7, 8, 9, 10, 11] rfl
    refine wk_vi (As := [.int x1, .int 0]) (rest := [.int (M_g (47 + x1).toNatClampNeg)]) ⟨hx, hb, hml, hown, hts⟩ (c_X11_sumOf l dC dI Y a M_g M_kept M_saved M_before M_isSaved M_changes M_isWithin w2 M_input M_length M_fault M_failed M_signs M_signMany M_column M_loads M_many M_sums M_groups M_at M_told M_toldMany x1 0 r6 hr7) (cwV 2 hts gX11_balanceByJournal_X11_sumOf rfl rfl rfl (by decide +kernel) ⟨Nat.le_of_ble_eq_true rfl, Nat.le_of_ble_eq_true rfl⟩) hK hPc (va_recv hK hP (ci := 11) (q0 := 0) rfl rfl) rfl hl.1 rfl (Nat.le_of_ble_eq_true rfl) dX11_balanceByJournal_24 ⟨Nat.le_of_ble_eq_true rfl, Nat.le_of_ble_eq_true rfl⟩ ?_
    refine lv_iadd hx hb dX11_balanceByJournal_27 ?_
    refine lv_aload_n hx hb dX11_balanceByJournal_28 rfl (lv_at hl 0 rfl) ?_
    refine lv_iload_n hx hb dX11_balanceByJournal_29 rfl (lv_at hl 1 rfl) ?_
    refine lv_iconst (v := 1) hx hb dX11_balanceByJournal_30 (by decide) ?_
    obtain ⟨r8, hr9, hf⟩ := wkb1_s hf
    have hPc := hP.sub (ws' := (wX11 Y a M_g M_kept M_saved M_before M_isSaved M_changes M_isWithin w2 M_input M_length M_fault M_failed M_signs M_signMany M_column M_loads M_many M_sums M_groups M_at M_told M_toldMany)) [0, 1, 2, 3, 4, 5, 6, 7, 8, 9, 10, 11] rfl
    refine wk_vi (As := [.int x1, .int 1]) (rest := [.int ((M_g (47 + x1).toNatClampNeg) + r6)]) ⟨hx, hb, hml, hown, hts⟩ (c_X11_sumOf l dC dI Y a M_g M_kept M_saved M_before M_isSaved M_changes M_isWithin w2 M_input M_length M_fault M_failed M_signs M_signMany M_column M_loads M_many M_sums M_groups M_at M_told M_toldMany x1 1 r8 hr9) (cwV 2 hts gX11_balanceByJournal_X11_sumOf rfl rfl rfl (by decide +kernel) ⟨Nat.le_of_ble_eq_true rfl, Nat.le_of_ble_eq_true rfl⟩) hK hPc (va_recv hK hP (ci := 11) (q0 := 0) rfl rfl) rfl hl.1 rfl (Nat.le_of_ble_eq_true rfl) dX11_balanceByJournal_31 ⟨Nat.le_of_ble_eq_true rfl, Nat.le_of_ble_eq_true rfl⟩ ?_
    refine lv_isub hx hb dX11_balanceByJournal_34 ?_
    obtain ⟨e0, e1⟩ := wke2 hf
    subst e0
    subst e1
    have hP9 := hP.sub (ws' := (wX11 Y a M_g M_kept M_saved M_before M_isSaved M_changes M_isWithin w2 M_input M_length M_fault M_failed M_signs M_signMany M_column M_loads M_many M_sums M_groups M_at M_told M_toldMany)) [0, 1, 2, 3, 4, 5, 6, 7, 8, 9, 10, 11] rfl
    have hD9 := hD.sub (ws' := (wX11 Y a M_g M_kept M_saved M_before M_isSaved M_changes M_isWithin w2 M_input M_length M_fault M_failed M_signs M_signMany M_column M_loads M_many M_sums M_groups M_at M_told M_toldMany)) [0, 1, 2, 3, 4, 5, 6, 7, 8, 9, 10, 11] (by decide) rfl
    exact W.iret (v := (((M_g (47 + x1).toNatClampNeg) + r6) - r8)) hx hb hr (fun t ht hW => ⟨⟨(((M_g (47 + x1).toNatClampNeg) + r6) - r8), (), rfl, rfl, by rw [ht]; exact hP9, va_K.moved hW.alike hK, hD9⟩, hS.F ht⟩) hS.2.2 dX11_balanceByJournal_35
  · have hf := wk_f hf q4
    refine lv_iconst (v := 0) hx hb dX11_balanceByJournal_8 (by decide) ?_
    refine lv_goto (tgt := 35) hx hb dX11_balanceByJournal_9 (by decide) ?_
    obtain ⟨e0, e1⟩ := wke2 hf
    subst e0
    subst e1
    have hP9 := hP.sub (ws' := (wX11 Y a M_g M_kept M_saved M_before M_isSaved M_changes M_isWithin w2 M_input M_length M_fault M_failed M_signs M_signMany M_column M_loads M_many M_sums M_groups M_at M_told M_toldMany)) [0, 1, 2, 3, 4, 5, 6, 7, 8, 9, 10, 11] rfl
    have hD9 := hD.sub (ws' := (wX11 Y a M_g M_kept M_saved M_before M_isSaved M_changes M_isWithin w2 M_input M_length M_fault M_failed M_signs M_signMany M_column M_loads M_many M_sums M_groups M_at M_told M_toldMany)) [0, 1, 2, 3, 4, 5, 6, 7, 8, 9, 10, 11] (by decide) rfl
    exact W.iret (v := 0) hx hb hr (fun t ht hW => ⟨⟨0, (), rfl, rfl, by rw [ht]; exact hP9, va_K.moved hW.alike hK, hD9⟩, hS.F ht⟩) hS.2.2 dX11_balanceByJournal_35
def f_X11_debits (M_g : Nat → Int32) (M_code : Int32) (x1 : Int32) : Option (Int32 × Int32) :=
  wkb2 (f_X11_isLost M_g M_code x1) (fun r1 w2 =>
  if r1 = 0 then
    (wkb1 (f_X11_sumOf M_g x1 0) (fun r5 =>
    some (r5, w2)))
  else
    (some (0, w2)))
set_option maxHeartbeats 4000000 in
set_option maxRecDepth 100000 in
theorem c_X11_debits (l : Launch) (dC : Nat → ClassId) (dI : Nat → Nat → Nat) (Y : Nat → ClassId) (a : Nat → Nat) (M_g : Nat → Int32) (M_kept : Nat → Int32) (M_saved : Nat → Int32) (M_before : Nat → Int32) (M_isSaved : Int32) (M_changes : Int32) (M_isWithin : Int32) (M_code : Int32) (M_input : Nat → Int32) (M_length : Int32) (M_fault : Int32) (M_failed : Int32) (M_signs : Nat → Int32) (M_signMany : Int32) (M_column : Nat → Int32) (M_loads : Nat → Int32) (M_many : Int32) (M_sums : Nat → Int32) (M_groups : Nat → Int32) (M_at : Int32) (M_told : Nat → Int32) (M_toldMany : Int32) (x1 : Int32) (sz : Nat) (r : Int32) (zM_code : Int32) (hf : f_X11_debits M_g M_code x1 = some (r, zM_code)) : Met l yX11_debits wsX11_debits ({ frames := 3, cells := 0, slots := 0, locals := 64 } : Room) (va_Pc [.ref (a 0), .int x1] (wk_E (dC, dI) Y (wX11 Y a M_g M_kept M_saved M_before M_isSaved M_changes M_isWithin M_code M_input M_length M_fault M_failed M_signs M_signMany M_column M_loads M_many M_sums M_groups M_at M_told M_toldMany) sz)) (va_Qi (fun r2 (_ : Unit) => r2 = r) (fun _ t => wk_X (dC, dI) Y (wX11 Y a M_g M_kept M_saved M_before M_isSaved M_changes M_isWithin zM_code M_input M_length M_fault M_failed M_signs M_signMany M_column M_loads M_many M_sums M_groups M_at M_told M_toldMany) (va_A (wX11 Y a M_g M_kept M_saved M_before M_isSaved M_changes M_isWithin M_code M_input M_length M_fault M_failed M_signs M_signMany M_column M_loads M_many M_sums M_groups M_at M_told M_toldMany) sz) t) (va_A (wX11 Y a M_g M_kept M_saved M_before M_isSaved M_changes M_isWithin M_code M_input M_length M_fault M_failed M_signs M_signMany M_column M_loads M_many M_sums M_groups M_at M_told M_toldMany) sz)) 0 0 (va_A (wX11 Y a M_g M_kept M_saved M_before M_isSaved M_changes M_isWithin M_code M_input M_length M_fault M_failed M_signs M_signMany M_column M_loads M_many M_sums M_groups M_at M_told M_toldMany) sz) := by
  refine Met.ofW (cc := cX11_debits) (maxL := 2) (ret := (some .int)) (by decide) rfl ?_
  intro p e s m args below meth c s₁ B hml hv
  obtain ⟨rfl, hsz, hP, hK, hD0⟩ := hv
  have hx := B.exec
  have hb := B.bytes
  have hr := B.returns
  have hts := atoms_spec (ws := wsX11_debits) B.pre
  have hown : s.vm.findClass RX11 = some m.cls := findClass_of_methodNamed B.named
  have hlocks := B.notSynchronized
  have C0 : wk_C p s m _ meth c cX11_debits 2 (some .int) wsX11_debits RX11 := ⟨hx, hb, hml, hr, hlocks, hown, hts⟩
  subst hsz
  have hD := hD0.self (sz := s.heap.size)
  generalize hAe : va_A (wX11 Y a M_g M_kept M_saved M_before M_isSaved M_changes M_isWithin M_code M_input M_length M_fault M_failed M_signs M_signMany M_column M_loads M_many M_sums M_groups M_at M_told M_toldMany) s.heap.size = A at hD ⊢
  have hA : ∀ q : Nat, s.heap.size ≤ q → A q := fun q h => by rw [← hAe]; exact Or.inr h
  have hS : va_S A s.heap s.heap [] := va_S.rf
  obtain ⟨H, hHe⟩ : ∃ H, H = s.heap := ⟨_, rfl⟩
  have hS : va_S A s.heap H [] := by rw [hHe]; exact hS
  have hP : va_P (dC, dI) vwCl [(a 0, .inr (11, [.ref (a 1), .ref (a 2), .ref (a 3), .ref (a 4), .int M_isSaved, .int M_changes, .int M_isWithin, .int M_code, .ref (a 5), .int M_length, .int M_fault, .int M_failed, .ref (a 6), .int M_signMany, .ref (a 7), .ref (a 8), .int M_many, .ref (a 9), .ref (a 10), .int M_at, .ref (a 11), .int M_toldMany])), (a 1, .inl (Y 0, 238, .inl M_g)), (a 2, .inl (Y 0, 1904, .inl M_kept)), (a 3, .inl (Y 0, 238, .inl M_saved)), (a 4, .inl (Y 0, 238, .inl M_before)), (a 5, .inl (Y 0, 60, .inl M_input)), (a 6, .inl (Y 2, 100, .inl M_signs)), (a 7, .inl (Y 0, 6, .inl M_column)), (a 8, .inl (Y 0, 6, .inl M_loads)), (a 9, .inl (Y 0, 2048, .inl M_sums)), (a 10, .inl (Y 0, 2048, .inl M_groups)), (a 11, .inl (Y 0, 155, .inl M_told))] H := by rw [hHe]; exact hP
  have hD : va_D A [(a 0, .inr (11, [.ref (a 1), .ref (a 2), .ref (a 3), .ref (a 4), .int M_isSaved, .int M_changes, .int M_isWithin, .int M_code, .ref (a 5), .int M_length, .int M_fault, .int M_failed, .ref (a 6), .int M_signMany, .ref (a 7), .ref (a 8), .int M_many, .ref (a 9), .ref (a 10), .int M_at, .ref (a 11), .int M_toldMany])), (a 1, .inl (Y 0, 238, .inl M_g)), (a 2, .inl (Y 0, 1904, .inl M_kept)), (a 3, .inl (Y 0, 238, .inl M_saved)), (a 4, .inl (Y 0, 238, .inl M_before)), (a 5, .inl (Y 0, 60, .inl M_input)), (a 6, .inl (Y 2, 100, .inl M_signs)), (a 7, .inl (Y 0, 6, .inl M_column)), (a 8, .inl (Y 0, 6, .inl M_loads)), (a 9, .inl (Y 0, 2048, .inl M_sums)), (a 10, .inl (Y 0, 2048, .inl M_groups)), (a 11, .inl (Y 0, 155, .inl M_told))] := hD
  obtain ⟨locs, hlo⟩ : ∃ locs : List Loc, locs = [] := ⟨_, rfl⟩
  have hS : va_S A s.heap H locs := by rw [hlo]; exact hS
  have hl := lv_entry ([.ref (a 0), .int x1]) (n := 2) (Nat.le_of_ble_eq_true rfl)
  rw [lg_entry_eq]
  generalize (lg_sl ([.ref (a 0), .int x1]) ++ List.replicate (2 - (lg_sl ([.ref (a 0), .int x1])).length) Slot.unset).toArray = ls at hl ⊢
  have hl : lv_has ls 2 [(0, .ref (a 0)), (1, .int x1)] := hl
  refine wk_start hHe hlo ?_
  rw [f_X11_debits] at hf
  refine lv_aload_n hx hb dX11_debits_0 rfl (lv_at hl 0 rfl) ?_
  refine lv_iload_n hx hb dX11_debits_1 rfl (lv_at hl 1 rfl) ?_
  obtain ⟨r1, w2, hr3, hf⟩ := wkb2_s hf
  refine wk_evi (As := [.int x1]) (rest := []) (wc := (wX11 Y a M_g M_kept M_saved M_before M_isSaved M_changes M_isWithin M_code M_input M_length M_fault M_failed M_signs M_signMany M_column M_loads M_many M_sums M_groups M_at M_told M_toldMany)) (w1 := (wX11 Y a M_g M_kept M_saved M_before M_isSaved M_changes M_isWithin w2 M_input M_length M_fault M_failed M_signs M_signMany M_column M_loads M_many M_sums M_groups M_at M_told M_toldMany)) (wr := []) ⟨hx, hb, hml, hown, hts⟩ (c_X11_isLost l dC dI Y a M_g M_kept M_saved M_before M_isSaved M_changes M_isWithin M_code M_input M_length M_fault M_failed M_signs M_signMany M_column M_loads M_many M_sums M_groups M_at M_told M_toldMany x1 H.size r1 w2 hr3) (cwV 1 hts gX11_debits_X11_isLost rfl rfl rfl (by decide +kernel) ⟨Nat.le_of_ble_eq_true rfl, Nat.le_of_ble_eq_true rfl⟩) hK hP hD hS hA [0, 1, 2, 3, 4, 5, 6, 7, 8, 9, 10, 11] [] rfl rfl (by decide) (by decide) (by decide) (va_recv hK hP (ci := 11) (q0 := 0) rfl rfl) rfl hl.1 rfl (Nat.le_of_ble_eq_true rfl) dX11_debits_2 ⟨Nat.le_of_ble_eq_true rfl, Nat.le_of_ble_eq_true rfl⟩ (fun H locs hP hD hS => ?_)
  have hP : va_P (dC, dI) vwCl [(a 0, .inr (11, [.ref (a 1), .ref (a 2), .ref (a 3), .ref (a 4), .int M_isSaved, .int M_changes, .int M_isWithin, .int w2, .ref (a 5), .int M_length, .int M_fault, .int M_failed, .ref (a 6), .int M_signMany, .ref (a 7), .ref (a 8), .int M_many, .ref (a 9), .ref (a 10), .int M_at, .ref (a 11), .int M_toldMany])), (a 1, .inl (Y 0, 238, .inl M_g)), (a 2, .inl (Y 0, 1904, .inl M_kept)), (a 3, .inl (Y 0, 238, .inl M_saved)), (a 4, .inl (Y 0, 238, .inl M_before)), (a 5, .inl (Y 0, 60, .inl M_input)), (a 6, .inl (Y 2, 100, .inl M_signs)), (a 7, .inl (Y 0, 6, .inl M_column)), (a 8, .inl (Y 0, 6, .inl M_loads)), (a 9, .inl (Y 0, 2048, .inl M_sums)), (a 10, .inl (Y 0, 2048, .inl M_groups)), (a 11, .inl (Y 0, 155, .inl M_told))] H := hP
  have hD : va_D A [(a 0, .inr (11, [.ref (a 1), .ref (a 2), .ref (a 3), .ref (a 4), .int M_isSaved, .int M_changes, .int M_isWithin, .int w2, .ref (a 5), .int M_length, .int M_fault, .int M_failed, .ref (a 6), .int M_signMany, .ref (a 7), .ref (a 8), .int M_many, .ref (a 9), .ref (a 10), .int M_at, .ref (a 11), .int M_toldMany])), (a 1, .inl (Y 0, 238, .inl M_g)), (a 2, .inl (Y 0, 1904, .inl M_kept)), (a 3, .inl (Y 0, 238, .inl M_saved)), (a 4, .inl (Y 0, 238, .inl M_before)), (a 5, .inl (Y 0, 60, .inl M_input)), (a 6, .inl (Y 2, 100, .inl M_signs)), (a 7, .inl (Y 0, 6, .inl M_column)), (a 8, .inl (Y 0, 6, .inl M_loads)), (a 9, .inl (Y 0, 2048, .inl M_sums)), (a 10, .inl (Y 0, 2048, .inl M_groups)), (a 11, .inl (Y 0, 155, .inl M_told))] := hD
  refine lv_if_eq (tgt := 12) hx hb dX11_debits_5 (by decide) (fun q4 => ?_) (fun q4 => ?_)
  · have hf := wk_t hf q4
    refine lv_aload_n hx hb dX11_debits_12 rfl (lv_at hl 0 rfl) ?_
    refine lv_iload_n hx hb dX11_debits_13 rfl (lv_at hl 1 rfl) ?_
    refine lv_iconst (v := 0) hx hb dX11_debits_14 (by decide) ?_
    obtain ⟨r5, hr6, hf⟩ := wkb1_s hf
    have hPc := hP.sub (ws' := (wX11 Y a M_g M_kept M_saved M_before M_isSaved M_changes M_isWithin w2 M_input M_length M_fault M_failed M_signs M_signMany M_column M_loads M_many M_sums M_groups M_at M_told M_toldMany)) [0, 1, 2, 3, 4, 5, 6, 7, 8, 9, 10, 11] rfl
    refine wk_vi (As := [.int x1, .int 0]) (rest := []) ⟨hx, hb, hml, hown, hts⟩ (c_X11_sumOf l dC dI Y a M_g M_kept M_saved M_before M_isSaved M_changes M_isWithin w2 M_input M_length M_fault M_failed M_signs M_signMany M_column M_loads M_many M_sums M_groups M_at M_told M_toldMany x1 0 r5 hr6) (cwV 2 hts gX11_debits_X11_sumOf rfl rfl rfl (by decide +kernel) ⟨Nat.le_of_ble_eq_true rfl, Nat.le_of_ble_eq_true rfl⟩) hK hPc (va_recv hK hP (ci := 11) (q0 := 0) rfl rfl) rfl hl.1 rfl (Nat.le_of_ble_eq_true rfl) dX11_debits_15 ⟨Nat.le_of_ble_eq_true rfl, Nat.le_of_ble_eq_true rfl⟩ ?_
    obtain ⟨e0, e1⟩ := wke2 hf
    subst e0
    subst e1
    have hP9 := hP.sub (ws' := (wX11 Y a M_g M_kept M_saved M_before M_isSaved M_changes M_isWithin w2 M_input M_length M_fault M_failed M_signs M_signMany M_column M_loads M_many M_sums M_groups M_at M_told M_toldMany)) [0, 1, 2, 3, 4, 5, 6, 7, 8, 9, 10, 11] rfl
    have hD9 := hD.sub (ws' := (wX11 Y a M_g M_kept M_saved M_before M_isSaved M_changes M_isWithin w2 M_input M_length M_fault M_failed M_signs M_signMany M_column M_loads M_many M_sums M_groups M_at M_told M_toldMany)) [0, 1, 2, 3, 4, 5, 6, 7, 8, 9, 10, 11] (by decide) rfl
    exact W.iret (v := r5) hx hb hr (fun t ht hW => ⟨⟨r5, (), rfl, rfl, by rw [ht]; exact hP9, va_K.moved hW.alike hK, hD9⟩, hS.F ht⟩) hS.2.2 dX11_debits_18
  · have hf := wk_f hf q4
    refine lv_iconst (v := 0) hx hb dX11_debits_8 (by decide) ?_
    refine lv_goto (tgt := 18) hx hb dX11_debits_9 (by decide) ?_
    obtain ⟨e0, e1⟩ := wke2 hf
    subst e0
    subst e1
    have hP9 := hP.sub (ws' := (wX11 Y a M_g M_kept M_saved M_before M_isSaved M_changes M_isWithin w2 M_input M_length M_fault M_failed M_signs M_signMany M_column M_loads M_many M_sums M_groups M_at M_told M_toldMany)) [0, 1, 2, 3, 4, 5, 6, 7, 8, 9, 10, 11] rfl
    have hD9 := hD.sub (ws' := (wX11 Y a M_g M_kept M_saved M_before M_isSaved M_changes M_isWithin w2 M_input M_length M_fault M_failed M_signs M_signMany M_column M_loads M_many M_sums M_groups M_at M_told M_toldMany)) [0, 1, 2, 3, 4, 5, 6, 7, 8, 9, 10, 11] (by decide) rfl
    exact W.iret (v := 0) hx hb hr (fun t ht hW => ⟨⟨0, (), rfl, rfl, by rw [ht]; exact hP9, va_K.moved hW.alike hK, hD9⟩, hS.F ht⟩) hS.2.2 dX11_debits_18
def f_X11_credits (M_g : Nat → Int32) (M_code : Int32) (x1 : Int32) : Option (Int32 × Int32) :=
  wkb2 (f_X11_isLost M_g M_code x1) (fun r1 w2 =>
  if r1 = 0 then
    (wkb1 (f_X11_sumOf M_g x1 1) (fun r5 =>
    some (r5, w2)))
  else
    (some (0, w2)))
set_option maxHeartbeats 4000000 in
set_option maxRecDepth 100000 in
theorem c_X11_credits (l : Launch) (dC : Nat → ClassId) (dI : Nat → Nat → Nat) (Y : Nat → ClassId) (a : Nat → Nat) (M_g : Nat → Int32) (M_kept : Nat → Int32) (M_saved : Nat → Int32) (M_before : Nat → Int32) (M_isSaved : Int32) (M_changes : Int32) (M_isWithin : Int32) (M_code : Int32) (M_input : Nat → Int32) (M_length : Int32) (M_fault : Int32) (M_failed : Int32) (M_signs : Nat → Int32) (M_signMany : Int32) (M_column : Nat → Int32) (M_loads : Nat → Int32) (M_many : Int32) (M_sums : Nat → Int32) (M_groups : Nat → Int32) (M_at : Int32) (M_told : Nat → Int32) (M_toldMany : Int32) (x1 : Int32) (sz : Nat) (r : Int32) (zM_code : Int32) (hf : f_X11_credits M_g M_code x1 = some (r, zM_code)) : Met l yX11_credits wsX11_credits ({ frames := 3, cells := 0, slots := 0, locals := 64 } : Room) (va_Pc [.ref (a 0), .int x1] (wk_E (dC, dI) Y (wX11 Y a M_g M_kept M_saved M_before M_isSaved M_changes M_isWithin M_code M_input M_length M_fault M_failed M_signs M_signMany M_column M_loads M_many M_sums M_groups M_at M_told M_toldMany) sz)) (va_Qi (fun r2 (_ : Unit) => r2 = r) (fun _ t => wk_X (dC, dI) Y (wX11 Y a M_g M_kept M_saved M_before M_isSaved M_changes M_isWithin zM_code M_input M_length M_fault M_failed M_signs M_signMany M_column M_loads M_many M_sums M_groups M_at M_told M_toldMany) (va_A (wX11 Y a M_g M_kept M_saved M_before M_isSaved M_changes M_isWithin M_code M_input M_length M_fault M_failed M_signs M_signMany M_column M_loads M_many M_sums M_groups M_at M_told M_toldMany) sz) t) (va_A (wX11 Y a M_g M_kept M_saved M_before M_isSaved M_changes M_isWithin M_code M_input M_length M_fault M_failed M_signs M_signMany M_column M_loads M_many M_sums M_groups M_at M_told M_toldMany) sz)) 0 0 (va_A (wX11 Y a M_g M_kept M_saved M_before M_isSaved M_changes M_isWithin M_code M_input M_length M_fault M_failed M_signs M_signMany M_column M_loads M_many M_sums M_groups M_at M_told M_toldMany) sz) := by
  refine Met.ofW (cc := cX11_credits) (maxL := 2) (ret := (some .int)) (by decide) rfl ?_
  intro p e s m args below meth c s₁ B hml hv
  obtain ⟨rfl, hsz, hP, hK, hD0⟩ := hv
  have hx := B.exec
  have hb := B.bytes
  have hr := B.returns
  have hts := atoms_spec (ws := wsX11_credits) B.pre
  have hown : s.vm.findClass RX11 = some m.cls := findClass_of_methodNamed B.named
  have hlocks := B.notSynchronized
  have C0 : wk_C p s m _ meth c cX11_credits 2 (some .int) wsX11_credits RX11 := ⟨hx, hb, hml, hr, hlocks, hown, hts⟩
  subst hsz
  have hD := hD0.self (sz := s.heap.size)
  generalize hAe : va_A (wX11 Y a M_g M_kept M_saved M_before M_isSaved M_changes M_isWithin M_code M_input M_length M_fault M_failed M_signs M_signMany M_column M_loads M_many M_sums M_groups M_at M_told M_toldMany) s.heap.size = A at hD ⊢
  have hA : ∀ q : Nat, s.heap.size ≤ q → A q := fun q h => by rw [← hAe]; exact Or.inr h
  have hS : va_S A s.heap s.heap [] := va_S.rf
  obtain ⟨H, hHe⟩ : ∃ H, H = s.heap := ⟨_, rfl⟩
  have hS : va_S A s.heap H [] := by rw [hHe]; exact hS
  have hP : va_P (dC, dI) vwCl [(a 0, .inr (11, [.ref (a 1), .ref (a 2), .ref (a 3), .ref (a 4), .int M_isSaved, .int M_changes, .int M_isWithin, .int M_code, .ref (a 5), .int M_length, .int M_fault, .int M_failed, .ref (a 6), .int M_signMany, .ref (a 7), .ref (a 8), .int M_many, .ref (a 9), .ref (a 10), .int M_at, .ref (a 11), .int M_toldMany])), (a 1, .inl (Y 0, 238, .inl M_g)), (a 2, .inl (Y 0, 1904, .inl M_kept)), (a 3, .inl (Y 0, 238, .inl M_saved)), (a 4, .inl (Y 0, 238, .inl M_before)), (a 5, .inl (Y 0, 60, .inl M_input)), (a 6, .inl (Y 2, 100, .inl M_signs)), (a 7, .inl (Y 0, 6, .inl M_column)), (a 8, .inl (Y 0, 6, .inl M_loads)), (a 9, .inl (Y 0, 2048, .inl M_sums)), (a 10, .inl (Y 0, 2048, .inl M_groups)), (a 11, .inl (Y 0, 155, .inl M_told))] H := by rw [hHe]; exact hP
  have hD : va_D A [(a 0, .inr (11, [.ref (a 1), .ref (a 2), .ref (a 3), .ref (a 4), .int M_isSaved, .int M_changes, .int M_isWithin, .int M_code, .ref (a 5), .int M_length, .int M_fault, .int M_failed, .ref (a 6), .int M_signMany, .ref (a 7), .ref (a 8), .int M_many, .ref (a 9), .ref (a 10), .int M_at, .ref (a 11), .int M_toldMany])), (a 1, .inl (Y 0, 238, .inl M_g)), (a 2, .inl (Y 0, 1904, .inl M_kept)), (a 3, .inl (Y 0, 238, .inl M_saved)), (a 4, .inl (Y 0, 238, .inl M_before)), (a 5, .inl (Y 0, 60, .inl M_input)), (a 6, .inl (Y 2, 100, .inl M_signs)), (a 7, .inl (Y 0, 6, .inl M_column)), (a 8, .inl (Y 0, 6, .inl M_loads)), (a 9, .inl (Y 0, 2048, .inl M_sums)), (a 10, .inl (Y 0, 2048, .inl M_groups)), (a 11, .inl (Y 0, 155, .inl M_told))] := hD
  obtain ⟨locs, hlo⟩ : ∃ locs : List Loc, locs = [] := ⟨_, rfl⟩
  have hS : va_S A s.heap H locs := by rw [hlo]; exact hS
  have hl := lv_entry ([.ref (a 0), .int x1]) (n := 2) (Nat.le_of_ble_eq_true rfl)
  rw [lg_entry_eq]
  generalize (lg_sl ([.ref (a 0), .int x1]) ++ List.replicate (2 - (lg_sl ([.ref (a 0), .int x1])).length) Slot.unset).toArray = ls at hl ⊢
  have hl : lv_has ls 2 [(0, .ref (a 0)), (1, .int x1)] := hl
  refine wk_start hHe hlo ?_
  rw [f_X11_credits] at hf
  refine lv_aload_n hx hb dX11_credits_0 rfl (lv_at hl 0 rfl) ?_
  refine lv_iload_n hx hb dX11_credits_1 rfl (lv_at hl 1 rfl) ?_
  obtain ⟨r1, w2, hr3, hf⟩ := wkb2_s hf
  refine wk_evi (As := [.int x1]) (rest := []) (wc := (wX11 Y a M_g M_kept M_saved M_before M_isSaved M_changes M_isWithin M_code M_input M_length M_fault M_failed M_signs M_signMany M_column M_loads M_many M_sums M_groups M_at M_told M_toldMany)) (w1 := (wX11 Y a M_g M_kept M_saved M_before M_isSaved M_changes M_isWithin w2 M_input M_length M_fault M_failed M_signs M_signMany M_column M_loads M_many M_sums M_groups M_at M_told M_toldMany)) (wr := []) ⟨hx, hb, hml, hown, hts⟩ (c_X11_isLost l dC dI Y a M_g M_kept M_saved M_before M_isSaved M_changes M_isWithin M_code M_input M_length M_fault M_failed M_signs M_signMany M_column M_loads M_many M_sums M_groups M_at M_told M_toldMany x1 H.size r1 w2 hr3) (cwV 1 hts gX11_credits_X11_isLost rfl rfl rfl (by decide +kernel) ⟨Nat.le_of_ble_eq_true rfl, Nat.le_of_ble_eq_true rfl⟩) hK hP hD hS hA [0, 1, 2, 3, 4, 5, 6, 7, 8, 9, 10, 11] [] rfl rfl (by decide) (by decide) (by decide) (va_recv hK hP (ci := 11) (q0 := 0) rfl rfl) rfl hl.1 rfl (Nat.le_of_ble_eq_true rfl) dX11_credits_2 ⟨Nat.le_of_ble_eq_true rfl, Nat.le_of_ble_eq_true rfl⟩ (fun H locs hP hD hS => ?_)
  have hP : va_P (dC, dI) vwCl [(a 0, .inr (11, [.ref (a 1), .ref (a 2), .ref (a 3), .ref (a 4), .int M_isSaved, .int M_changes, .int M_isWithin, .int w2, .ref (a 5), .int M_length, .int M_fault, .int M_failed, .ref (a 6), .int M_signMany, .ref (a 7), .ref (a 8), .int M_many, .ref (a 9), .ref (a 10), .int M_at, .ref (a 11), .int M_toldMany])), (a 1, .inl (Y 0, 238, .inl M_g)), (a 2, .inl (Y 0, 1904, .inl M_kept)), (a 3, .inl (Y 0, 238, .inl M_saved)), (a 4, .inl (Y 0, 238, .inl M_before)), (a 5, .inl (Y 0, 60, .inl M_input)), (a 6, .inl (Y 2, 100, .inl M_signs)), (a 7, .inl (Y 0, 6, .inl M_column)), (a 8, .inl (Y 0, 6, .inl M_loads)), (a 9, .inl (Y 0, 2048, .inl M_sums)), (a 10, .inl (Y 0, 2048, .inl M_groups)), (a 11, .inl (Y 0, 155, .inl M_told))] H := hP
  have hD : va_D A [(a 0, .inr (11, [.ref (a 1), .ref (a 2), .ref (a 3), .ref (a 4), .int M_isSaved, .int M_changes, .int M_isWithin, .int w2, .ref (a 5), .int M_length, .int M_fault, .int M_failed, .ref (a 6), .int M_signMany, .ref (a 7), .ref (a 8), .int M_many, .ref (a 9), .ref (a 10), .int M_at, .ref (a 11), .int M_toldMany])), (a 1, .inl (Y 0, 238, .inl M_g)), (a 2, .inl (Y 0, 1904, .inl M_kept)), (a 3, .inl (Y 0, 238, .inl M_saved)), (a 4, .inl (Y 0, 238, .inl M_before)), (a 5, .inl (Y 0, 60, .inl M_input)), (a 6, .inl (Y 2, 100, .inl M_signs)), (a 7, .inl (Y 0, 6, .inl M_column)), (a 8, .inl (Y 0, 6, .inl M_loads)), (a 9, .inl (Y 0, 2048, .inl M_sums)), (a 10, .inl (Y 0, 2048, .inl M_groups)), (a 11, .inl (Y 0, 155, .inl M_told))] := hD
  refine lv_if_eq (tgt := 12) hx hb dX11_credits_5 (by decide) (fun q4 => ?_) (fun q4 => ?_)
  · have hf := wk_t hf q4
    refine lv_aload_n hx hb dX11_credits_12 rfl (lv_at hl 0 rfl) ?_
    refine lv_iload_n hx hb dX11_credits_13 rfl (lv_at hl 1 rfl) ?_
    refine lv_iconst (v := 1) hx hb dX11_credits_14 (by decide) ?_
    obtain ⟨r5, hr6, hf⟩ := wkb1_s hf
    have hPc := hP.sub (ws' := (wX11 Y a M_g M_kept M_saved M_before M_isSaved M_changes M_isWithin w2 M_input M_length M_fault M_failed M_signs M_signMany M_column M_loads M_many M_sums M_groups M_at M_told M_toldMany)) [0, 1, 2, 3, 4, 5, 6, 7, 8, 9, 10, 11] rfl
    refine wk_vi (As := [.int x1, .int 1]) (rest := []) ⟨hx, hb, hml, hown, hts⟩ (c_X11_sumOf l dC dI Y a M_g M_kept M_saved M_before M_isSaved M_changes M_isWithin w2 M_input M_length M_fault M_failed M_signs M_signMany M_column M_loads M_many M_sums M_groups M_at M_told M_toldMany x1 1 r5 hr6) (cwV 2 hts gX11_credits_X11_sumOf rfl rfl rfl (by decide +kernel) ⟨Nat.le_of_ble_eq_true rfl, Nat.le_of_ble_eq_true rfl⟩) hK hPc (va_recv hK hP (ci := 11) (q0 := 0) rfl rfl) rfl hl.1 rfl (Nat.le_of_ble_eq_true rfl) dX11_credits_15 ⟨Nat.le_of_ble_eq_true rfl, Nat.le_of_ble_eq_true rfl⟩ ?_
    obtain ⟨e0, e1⟩ := wke2 hf
    subst e0
    subst e1
    have hP9 := hP.sub (ws' := (wX11 Y a M_g M_kept M_saved M_before M_isSaved M_changes M_isWithin w2 M_input M_length M_fault M_failed M_signs M_signMany M_column M_loads M_many M_sums M_groups M_at M_told M_toldMany)) [0, 1, 2, 3, 4, 5, 6, 7, 8, 9, 10, 11] rfl
    have hD9 := hD.sub (ws' := (wX11 Y a M_g M_kept M_saved M_before M_isSaved M_changes M_isWithin w2 M_input M_length M_fault M_failed M_signs M_signMany M_column M_loads M_many M_sums M_groups M_at M_told M_toldMany)) [0, 1, 2, 3, 4, 5, 6, 7, 8, 9, 10, 11] (by decide) rfl
    exact W.iret (v := r5) hx hb hr (fun t ht hW => ⟨⟨r5, (), rfl, rfl, by rw [ht]; exact hP9, va_K.moved hW.alike hK, hD9⟩, hS.F ht⟩) hS.2.2 dX11_credits_18
  · have hf := wk_f hf q4
    refine lv_iconst (v := 0) hx hb dX11_credits_8 (by decide) ?_
    refine lv_goto (tgt := 18) hx hb dX11_credits_9 (by decide) ?_
    obtain ⟨e0, e1⟩ := wke2 hf
    subst e0
    subst e1
    have hP9 := hP.sub (ws' := (wX11 Y a M_g M_kept M_saved M_before M_isSaved M_changes M_isWithin w2 M_input M_length M_fault M_failed M_signs M_signMany M_column M_loads M_many M_sums M_groups M_at M_told M_toldMany)) [0, 1, 2, 3, 4, 5, 6, 7, 8, 9, 10, 11] rfl
    have hD9 := hD.sub (ws' := (wX11 Y a M_g M_kept M_saved M_before M_isSaved M_changes M_isWithin w2 M_input M_length M_fault M_failed M_signs M_signMany M_column M_loads M_many M_sums M_groups M_at M_told M_toldMany)) [0, 1, 2, 3, 4, 5, 6, 7, 8, 9, 10, 11] (by decide) rfl
    exact W.iret (v := 0) hx hb hr (fun t ht hW => ⟨⟨0, (), rfl, rfl, by rw [ht]; exact hP9, va_K.moved hW.alike hK, hD9⟩, hS.F ht⟩) hS.2.2 dX11_credits_18
theorem lk_X11_entryCount_RX11_7 : Cond.fieldLink RX11 7 "CircusLedgerModel" "g" "[I" ∈ wsX11_entryCount := by decide +kernel
theorem lk_X11_entryCount_RX11_51 : Cond.fieldLink RX11 51 "CircusLedgerModel" "code" "I" ∈ wsX11_entryCount := by decide +kernel
theorem in_X11_entryCount_X11 : ∀ w ∈ u_ws RX11 TX11 22, w ∈ wsX11_entryCount := by decide +kernel
def f_X11_entryCount (M_g : Nat → Int32) (M_code : Int32) : Option (Int32 × Int32) :=
  some ((M_g 3), 0)
set_option maxHeartbeats 4000000 in
set_option maxRecDepth 100000 in
theorem c_X11_entryCount (l : Launch) (dC : Nat → ClassId) (dI : Nat → Nat → Nat) (Y : Nat → ClassId) (a : Nat → Nat) (M_g : Nat → Int32) (M_kept : Nat → Int32) (M_saved : Nat → Int32) (M_before : Nat → Int32) (M_isSaved : Int32) (M_changes : Int32) (M_isWithin : Int32) (M_code : Int32) (M_input : Nat → Int32) (M_length : Int32) (M_fault : Int32) (M_failed : Int32) (M_signs : Nat → Int32) (M_signMany : Int32) (M_column : Nat → Int32) (M_loads : Nat → Int32) (M_many : Int32) (M_sums : Nat → Int32) (M_groups : Nat → Int32) (M_at : Int32) (M_told : Nat → Int32) (M_toldMany : Int32)  (sz : Nat) (r : Int32) (zM_code : Int32) (hf : f_X11_entryCount M_g M_code = some (r, zM_code)) : Met l yX11_entryCount wsX11_entryCount ({ frames := 0, cells := 0, slots := 0, locals := 0 } : Room) (va_Pc [.ref (a 0)] (wk_E (dC, dI) Y (wX11 Y a M_g M_kept M_saved M_before M_isSaved M_changes M_isWithin M_code M_input M_length M_fault M_failed M_signs M_signMany M_column M_loads M_many M_sums M_groups M_at M_told M_toldMany) sz)) (va_Qi (fun r2 (_ : Unit) => r2 = r) (fun _ t => wk_X (dC, dI) Y (wX11 Y a M_g M_kept M_saved M_before M_isSaved M_changes M_isWithin zM_code M_input M_length M_fault M_failed M_signs M_signMany M_column M_loads M_many M_sums M_groups M_at M_told M_toldMany) (va_A (wX11 Y a M_g M_kept M_saved M_before M_isSaved M_changes M_isWithin M_code M_input M_length M_fault M_failed M_signs M_signMany M_column M_loads M_many M_sums M_groups M_at M_told M_toldMany) sz) t) (va_A (wX11 Y a M_g M_kept M_saved M_before M_isSaved M_changes M_isWithin M_code M_input M_length M_fault M_failed M_signs M_signMany M_column M_loads M_many M_sums M_groups M_at M_told M_toldMany) sz)) 0 0 (va_A (wX11 Y a M_g M_kept M_saved M_before M_isSaved M_changes M_isWithin M_code M_input M_length M_fault M_failed M_signs M_signMany M_column M_loads M_many M_sums M_groups M_at M_told M_toldMany) sz) := by
  refine Met.ofW (cc := cX11_entryCount) (maxL := 1) (ret := (some .int)) (by decide) rfl ?_
  intro p e s m args below meth c s₁ B hml hv
  obtain ⟨rfl, hsz, hP, hK, hD0⟩ := hv
  have hx := B.exec
  have hb := B.bytes
  have hr := B.returns
  have hts := atoms_spec (ws := wsX11_entryCount) B.pre
  have hown : s.vm.findClass RX11 = some m.cls := findClass_of_methodNamed B.named
  have hlocks := B.notSynchronized
  have C0 : wk_C p s m _ meth c cX11_entryCount 1 (some .int) wsX11_entryCount RX11 := ⟨hx, hb, hml, hr, hlocks, hown, hts⟩
  subst hsz
  have hD := hD0.self (sz := s.heap.size)
  generalize hAe : va_A (wX11 Y a M_g M_kept M_saved M_before M_isSaved M_changes M_isWithin M_code M_input M_length M_fault M_failed M_signs M_signMany M_column M_loads M_many M_sums M_groups M_at M_told M_toldMany) s.heap.size = A at hD ⊢
  have hA : ∀ q : Nat, s.heap.size ≤ q → A q := fun q h => by rw [← hAe]; exact Or.inr h
  have hS : va_S A s.heap s.heap [] := va_S.rf
  obtain ⟨H, hHe⟩ : ∃ H, H = s.heap := ⟨_, rfl⟩
  have hS : va_S A s.heap H [] := by rw [hHe]; exact hS
  have hP : va_P (dC, dI) vwCl [(a 0, .inr (11, [.ref (a 1), .ref (a 2), .ref (a 3), .ref (a 4), .int M_isSaved, .int M_changes, .int M_isWithin, .int M_code, .ref (a 5), .int M_length, .int M_fault, .int M_failed, .ref (a 6), .int M_signMany, .ref (a 7), .ref (a 8), .int M_many, .ref (a 9), .ref (a 10), .int M_at, .ref (a 11), .int M_toldMany])), (a 1, .inl (Y 0, 238, .inl M_g)), (a 2, .inl (Y 0, 1904, .inl M_kept)), (a 3, .inl (Y 0, 238, .inl M_saved)), (a 4, .inl (Y 0, 238, .inl M_before)), (a 5, .inl (Y 0, 60, .inl M_input)), (a 6, .inl (Y 2, 100, .inl M_signs)), (a 7, .inl (Y 0, 6, .inl M_column)), (a 8, .inl (Y 0, 6, .inl M_loads)), (a 9, .inl (Y 0, 2048, .inl M_sums)), (a 10, .inl (Y 0, 2048, .inl M_groups)), (a 11, .inl (Y 0, 155, .inl M_told))] H := by rw [hHe]; exact hP
  have hD : va_D A [(a 0, .inr (11, [.ref (a 1), .ref (a 2), .ref (a 3), .ref (a 4), .int M_isSaved, .int M_changes, .int M_isWithin, .int M_code, .ref (a 5), .int M_length, .int M_fault, .int M_failed, .ref (a 6), .int M_signMany, .ref (a 7), .ref (a 8), .int M_many, .ref (a 9), .ref (a 10), .int M_at, .ref (a 11), .int M_toldMany])), (a 1, .inl (Y 0, 238, .inl M_g)), (a 2, .inl (Y 0, 1904, .inl M_kept)), (a 3, .inl (Y 0, 238, .inl M_saved)), (a 4, .inl (Y 0, 238, .inl M_before)), (a 5, .inl (Y 0, 60, .inl M_input)), (a 6, .inl (Y 2, 100, .inl M_signs)), (a 7, .inl (Y 0, 6, .inl M_column)), (a 8, .inl (Y 0, 6, .inl M_loads)), (a 9, .inl (Y 0, 2048, .inl M_sums)), (a 10, .inl (Y 0, 2048, .inl M_groups)), (a 11, .inl (Y 0, 155, .inl M_told))] := hD
  obtain ⟨locs, hlo⟩ : ∃ locs : List Loc, locs = [] := ⟨_, rfl⟩
  have hS : va_S A s.heap H locs := by rw [hlo]; exact hS
  have hl := lv_entry ([.ref (a 0)]) (n := 1) (Nat.le_of_ble_eq_true rfl)
  rw [lg_entry_eq]
  generalize (lg_sl ([.ref (a 0)]) ++ List.replicate (1 - (lg_sl ([.ref (a 0)])).length) Slot.unset).toArray = ls at hl ⊢
  have hl : lv_has ls 1 [(0, .ref (a 0))] := hl
  refine wk_start hHe hlo ?_
  rw [f_X11_entryCount] at hf
  refine lv_aload_n hx hb dX11_entryCount_0 rfl (lv_at hl 0 rfl) ?_
  refine lv_iconst (v := 0) hx hb dX11_entryCount_1 (by decide) ?_
  refine va_put (D := (dC, dI)) (ci := 11) (v := .int 0) (ty := .int) (C := RX11) (T := TX11) (N := 22) hx hb hts in_X11_entryCount_X11 tyX11 tyX11_ok nmX11 hown hK hP hD hS 0 rfl rfl 7 (by decide) (hts _ lk_X11_entryCount_RX11_51) (fun _ h9 => h9) rfl (by decide +kernel) rfl rfl (Nat.le_of_ble_eq_true rfl) dX11_entryCount_2 (fun H locs hP hD hS => ?_)
  have hP : va_P (dC, dI) vwCl [(a 0, .inr (11, [.ref (a 1), .ref (a 2), .ref (a 3), .ref (a 4), .int M_isSaved, .int M_changes, .int M_isWithin, .int 0, .ref (a 5), .int M_length, .int M_fault, .int M_failed, .ref (a 6), .int M_signMany, .ref (a 7), .ref (a 8), .int M_many, .ref (a 9), .ref (a 10), .int M_at, .ref (a 11), .int M_toldMany])), (a 1, .inl (Y 0, 238, .inl M_g)), (a 2, .inl (Y 0, 1904, .inl M_kept)), (a 3, .inl (Y 0, 238, .inl M_saved)), (a 4, .inl (Y 0, 238, .inl M_before)), (a 5, .inl (Y 0, 60, .inl M_input)), (a 6, .inl (Y 2, 100, .inl M_signs)), (a 7, .inl (Y 0, 6, .inl M_column)), (a 8, .inl (Y 0, 6, .inl M_loads)), (a 9, .inl (Y 0, 2048, .inl M_sums)), (a 10, .inl (Y 0, 2048, .inl M_groups)), (a 11, .inl (Y 0, 155, .inl M_told))] H := hP
  have hD : va_D A [(a 0, .inr (11, [.ref (a 1), .ref (a 2), .ref (a 3), .ref (a 4), .int M_isSaved, .int M_changes, .int M_isWithin, .int 0, .ref (a 5), .int M_length, .int M_fault, .int M_failed, .ref (a 6), .int M_signMany, .ref (a 7), .ref (a 8), .int M_many, .ref (a 9), .ref (a 10), .int M_at, .ref (a 11), .int M_toldMany])), (a 1, .inl (Y 0, 238, .inl M_g)), (a 2, .inl (Y 0, 1904, .inl M_kept)), (a 3, .inl (Y 0, 238, .inl M_saved)), (a 4, .inl (Y 0, 238, .inl M_before)), (a 5, .inl (Y 0, 60, .inl M_input)), (a 6, .inl (Y 2, 100, .inl M_signs)), (a 7, .inl (Y 0, 6, .inl M_column)), (a 8, .inl (Y 0, 6, .inl M_loads)), (a 9, .inl (Y 0, 2048, .inl M_sums)), (a 10, .inl (Y 0, 2048, .inl M_groups)), (a 11, .inl (Y 0, 155, .inl M_told))] := hD
  refine lv_aload_n hx hb dX11_entryCount_5 rfl (lv_at hl 0 rfl) ?_
  refine va_get (D := (dC, dI)) (ci := 11) (v := .ref (a 1)) (C := RX11) (T := TX11) (N := 22) hx hb hts in_X11_entryCount_X11 hown hK hP 0 rfl rfl 0 (by decide) (hts _ lk_X11_entryCount_RX11_7) (fun _ h9 => h9) rfl dX11_entryCount_6 ?_
  refine lv_iconst (v := 3) hx hb dX11_entryCount_9 (by decide) ?_
  refine wk_iald hx hb hK hP 1 0 (k := 3) rfl rfl (vp_lit (by decide)) (by decide) dX11_entryCount_10 ?_
  obtain ⟨e0, e1⟩ := wke2 hf
  subst e0
  subst e1
  have hP9 := hP.sub (ws' := (wX11 Y a M_g M_kept M_saved M_before M_isSaved M_changes M_isWithin 0 M_input M_length M_fault M_failed M_signs M_signMany M_column M_loads M_many M_sums M_groups M_at M_told M_toldMany)) [0, 1, 2, 3, 4, 5, 6, 7, 8, 9, 10, 11] rfl
  have hD9 := hD.sub (ws' := (wX11 Y a M_g M_kept M_saved M_before M_isSaved M_changes M_isWithin 0 M_input M_length M_fault M_failed M_signs M_signMany M_column M_loads M_many M_sums M_groups M_at M_told M_toldMany)) [0, 1, 2, 3, 4, 5, 6, 7, 8, 9, 10, 11] (by decide) rfl
  exact W.iret (v := (M_g 3)) hx hb hr (fun t ht hW => ⟨⟨(M_g 3), (), rfl, rfl, by rw [ht]; exact hP9, va_K.moved hW.alike hK, hD9⟩, hS.F ht⟩) hS.2.2 dX11_entryCount_11
theorem lk_X11_ofEntry_RX11_7 : Cond.fieldLink RX11 7 "CircusLedgerModel" "g" "[I" ∈ wsX11_ofEntry := by decide +kernel
theorem in_X11_ofEntry_X11 : ∀ w ∈ u_ws RX11 TX11 22, w ∈ wsX11_ofEntry := by decide +kernel
def f_X11_ofEntry (M_g : Nat → Int32) (M_code : Int32) (x1 : Int32) (x2 : Int32) : Option (Int32 × Int32) :=
  wkb1 (f_X11_in x1 0 ((M_g 3) - 1)) (fun r1 =>
  if r1 = 0 then
    (wkb2 (f_X11_fails M_code 1) (fun r4 w5 =>
    if r4 = 0 then
      (wkb1 (f_X11_entry M_g x1 x2) (fun r8 =>
      some (r8, w5)))
    else
      (some (0, w5))))
  else
    (wkb2 (f_X11_fails M_code 0) (fun r10 w11 =>
    if r10 = 0 then
      (wkb1 (f_X11_entry M_g x1 x2) (fun r14 =>
      some (r14, w11)))
    else
      (some (0, w11)))))
set_option maxHeartbeats 4000000 in
set_option maxRecDepth 100000 in
theorem c_X11_ofEntry (l : Launch) (dC : Nat → ClassId) (dI : Nat → Nat → Nat) (Y : Nat → ClassId) (a : Nat → Nat) (M_g : Nat → Int32) (M_kept : Nat → Int32) (M_saved : Nat → Int32) (M_before : Nat → Int32) (M_isSaved : Int32) (M_changes : Int32) (M_isWithin : Int32) (M_code : Int32) (M_input : Nat → Int32) (M_length : Int32) (M_fault : Int32) (M_failed : Int32) (M_signs : Nat → Int32) (M_signMany : Int32) (M_column : Nat → Int32) (M_loads : Nat → Int32) (M_many : Int32) (M_sums : Nat → Int32) (M_groups : Nat → Int32) (M_at : Int32) (M_told : Nat → Int32) (M_toldMany : Int32) (x1 : Int32) (x2 : Int32) (sz : Nat) (r : Int32) (zM_code : Int32) (hf : f_X11_ofEntry M_g M_code x1 x2 = some (r, zM_code)) : Met l yX11_ofEntry wsX11_ofEntry ({ frames := 1, cells := 0, slots := 0, locals := 22 } : Room) (va_Pc [.ref (a 0), .int x1, .int x2] (wk_E (dC, dI) Y (wX11 Y a M_g M_kept M_saved M_before M_isSaved M_changes M_isWithin M_code M_input M_length M_fault M_failed M_signs M_signMany M_column M_loads M_many M_sums M_groups M_at M_told M_toldMany) sz)) (va_Qi (fun r2 (_ : Unit) => r2 = r) (fun _ t => wk_X (dC, dI) Y (wX11 Y a M_g M_kept M_saved M_before M_isSaved M_changes M_isWithin zM_code M_input M_length M_fault M_failed M_signs M_signMany M_column M_loads M_many M_sums M_groups M_at M_told M_toldMany) (va_A (wX11 Y a M_g M_kept M_saved M_before M_isSaved M_changes M_isWithin M_code M_input M_length M_fault M_failed M_signs M_signMany M_column M_loads M_many M_sums M_groups M_at M_told M_toldMany) sz) t) (va_A (wX11 Y a M_g M_kept M_saved M_before M_isSaved M_changes M_isWithin M_code M_input M_length M_fault M_failed M_signs M_signMany M_column M_loads M_many M_sums M_groups M_at M_told M_toldMany) sz)) 0 0 (va_A (wX11 Y a M_g M_kept M_saved M_before M_isSaved M_changes M_isWithin M_code M_input M_length M_fault M_failed M_signs M_signMany M_column M_loads M_many M_sums M_groups M_at M_told M_toldMany) sz) := by
  refine Met.ofW (cc := cX11_ofEntry) (maxL := 3) (ret := (some .int)) (by decide) rfl ?_
  intro p e s m args below meth c s₁ B hml hv
  obtain ⟨rfl, hsz, hP, hK, hD0⟩ := hv
  have hx := B.exec
  have hb := B.bytes
  have hr := B.returns
  have hts := atoms_spec (ws := wsX11_ofEntry) B.pre
  have hown : s.vm.findClass RX11 = some m.cls := findClass_of_methodNamed B.named
  have hlocks := B.notSynchronized
  have C0 : wk_C p s m _ meth c cX11_ofEntry 3 (some .int) wsX11_ofEntry RX11 := ⟨hx, hb, hml, hr, hlocks, hown, hts⟩
  subst hsz
  have hD := hD0.self (sz := s.heap.size)
  generalize hAe : va_A (wX11 Y a M_g M_kept M_saved M_before M_isSaved M_changes M_isWithin M_code M_input M_length M_fault M_failed M_signs M_signMany M_column M_loads M_many M_sums M_groups M_at M_told M_toldMany) s.heap.size = A at hD ⊢
  have hA : ∀ q : Nat, s.heap.size ≤ q → A q := fun q h => by rw [← hAe]; exact Or.inr h
  have hS : va_S A s.heap s.heap [] := va_S.rf
  obtain ⟨H, hHe⟩ : ∃ H, H = s.heap := ⟨_, rfl⟩
  have hS : va_S A s.heap H [] := by rw [hHe]; exact hS
  have hP : va_P (dC, dI) vwCl [(a 0, .inr (11, [.ref (a 1), .ref (a 2), .ref (a 3), .ref (a 4), .int M_isSaved, .int M_changes, .int M_isWithin, .int M_code, .ref (a 5), .int M_length, .int M_fault, .int M_failed, .ref (a 6), .int M_signMany, .ref (a 7), .ref (a 8), .int M_many, .ref (a 9), .ref (a 10), .int M_at, .ref (a 11), .int M_toldMany])), (a 1, .inl (Y 0, 238, .inl M_g)), (a 2, .inl (Y 0, 1904, .inl M_kept)), (a 3, .inl (Y 0, 238, .inl M_saved)), (a 4, .inl (Y 0, 238, .inl M_before)), (a 5, .inl (Y 0, 60, .inl M_input)), (a 6, .inl (Y 2, 100, .inl M_signs)), (a 7, .inl (Y 0, 6, .inl M_column)), (a 8, .inl (Y 0, 6, .inl M_loads)), (a 9, .inl (Y 0, 2048, .inl M_sums)), (a 10, .inl (Y 0, 2048, .inl M_groups)), (a 11, .inl (Y 0, 155, .inl M_told))] H := by rw [hHe]; exact hP
  have hD : va_D A [(a 0, .inr (11, [.ref (a 1), .ref (a 2), .ref (a 3), .ref (a 4), .int M_isSaved, .int M_changes, .int M_isWithin, .int M_code, .ref (a 5), .int M_length, .int M_fault, .int M_failed, .ref (a 6), .int M_signMany, .ref (a 7), .ref (a 8), .int M_many, .ref (a 9), .ref (a 10), .int M_at, .ref (a 11), .int M_toldMany])), (a 1, .inl (Y 0, 238, .inl M_g)), (a 2, .inl (Y 0, 1904, .inl M_kept)), (a 3, .inl (Y 0, 238, .inl M_saved)), (a 4, .inl (Y 0, 238, .inl M_before)), (a 5, .inl (Y 0, 60, .inl M_input)), (a 6, .inl (Y 2, 100, .inl M_signs)), (a 7, .inl (Y 0, 6, .inl M_column)), (a 8, .inl (Y 0, 6, .inl M_loads)), (a 9, .inl (Y 0, 2048, .inl M_sums)), (a 10, .inl (Y 0, 2048, .inl M_groups)), (a 11, .inl (Y 0, 155, .inl M_told))] := hD
  obtain ⟨locs, hlo⟩ : ∃ locs : List Loc, locs = [] := ⟨_, rfl⟩
  have hS : va_S A s.heap H locs := by rw [hlo]; exact hS
  have hl := lv_entry ([.ref (a 0), .int x1, .int x2]) (n := 3) (Nat.le_of_ble_eq_true rfl)
  rw [lg_entry_eq]
  generalize (lg_sl ([.ref (a 0), .int x1, .int x2]) ++ List.replicate (3 - (lg_sl ([.ref (a 0), .int x1, .int x2])).length) Slot.unset).toArray = ls at hl ⊢
  have hl : lv_has ls 3 [(0, .ref (a 0)), (1, .int x1), (2, .int x2)] := hl
  refine wk_start hHe hlo ?_
  rw [f_X11_ofEntry] at hf
  refine lv_aload_n hx hb dX11_ofEntry_0 rfl (lv_at hl 0 rfl) ?_
  refine lv_iload_n hx hb dX11_ofEntry_1 rfl (lv_at hl 1 rfl) ?_
  refine lv_iconst (v := 0) hx hb dX11_ofEntry_2 (by decide) ?_
  refine lv_aload_n hx hb dX11_ofEntry_3 rfl (lv_at hl 0 rfl) ?_
  refine va_get (D := (dC, dI)) (ci := 11) (v := .ref (a 1)) (C := RX11) (T := TX11) (N := 22) hx hb hts in_X11_ofEntry_X11 hown hK hP 0 rfl rfl 0 (by decide) (hts _ lk_X11_ofEntry_RX11_7) (fun _ h9 => h9) rfl dX11_ofEntry_4 ?_
  refine lv_iconst (v := 3) hx hb dX11_ofEntry_7 (by decide) ?_
  refine wk_iald hx hb hK hP 1 0 (k := 3) rfl rfl (vp_lit (by decide)) (by decide) dX11_ofEntry_8 ?_
  refine lv_iconst (v := 1) hx hb dX11_ofEntry_9 (by decide) ?_
  refine lv_isub hx hb dX11_ofEntry_10 ?_
  obtain ⟨r1, hr2, hf⟩ := wkb1_s hf
  have hPc := hP.sub (ws' := ([] : va_W)) [] rfl
  refine wk_si (As := [.int x1, .int 0, .int ((M_g 3) - 1)]) (rest := [.ref (a 0)]) ⟨hx, hb, hml, hown, hts⟩ (c_X11_in l dC dI Y x1 0 ((M_g 3) - 1) r1 hr2) (va_cwS 3 hts gX11_ofEntry_X11_in rfl rfl rfl (by decide +kernel) ⟨Nat.le_of_ble_eq_true rfl, Nat.le_of_ble_eq_true rfl⟩) hK hPc rfl hl.1 rfl (Nat.le_of_ble_eq_true rfl) dX11_ofEntry_11 ⟨Nat.le_of_ble_eq_true rfl, Nat.le_of_ble_eq_true rfl⟩ ?_
  refine lv_if_eq (tgt := 21) hx hb dX11_ofEntry_14 (by decide) (fun q3 => ?_) (fun q3 => ?_)
  · have hf := wk_t hf q3
    refine lv_iconst (v := 1) hx hb dX11_ofEntry_21 (by decide) ?_
    obtain ⟨r4, w5, hr6, hf⟩ := wkb2_s hf
    refine wk_evi (As := [.int 1]) (rest := []) (wc := (wX11 Y a M_g M_kept M_saved M_before M_isSaved M_changes M_isWithin M_code M_input M_length M_fault M_failed M_signs M_signMany M_column M_loads M_many M_sums M_groups M_at M_told M_toldMany)) (w1 := (wX11 Y a M_g M_kept M_saved M_before M_isSaved M_changes M_isWithin w5 M_input M_length M_fault M_failed M_signs M_signMany M_column M_loads M_many M_sums M_groups M_at M_told M_toldMany)) (wr := []) ⟨hx, hb, hml, hown, hts⟩ (c_X11_fails l dC dI Y a M_g M_kept M_saved M_before M_isSaved M_changes M_isWithin M_code M_input M_length M_fault M_failed M_signs M_signMany M_column M_loads M_many M_sums M_groups M_at M_told M_toldMany 1 H.size r4 w5 hr6) (cwV 1 hts gX11_ofEntry_X11_fails rfl rfl rfl (by decide +kernel) ⟨Nat.le_of_ble_eq_true rfl, Nat.le_of_ble_eq_true rfl⟩) hK hP hD hS hA [0, 1, 2, 3, 4, 5, 6, 7, 8, 9, 10, 11] [] rfl rfl (by decide) (by decide) (by decide) (va_recv hK hP (ci := 11) (q0 := 0) rfl rfl) rfl hl.1 rfl (Nat.le_of_ble_eq_true rfl) dX11_ofEntry_22 ⟨Nat.le_of_ble_eq_true rfl, Nat.le_of_ble_eq_true rfl⟩ (fun H locs hP hD hS => ?_)
    have hP : va_P (dC, dI) vwCl [(a 0, .inr (11, [.ref (a 1), .ref (a 2), .ref (a 3), .ref (a 4), .int M_isSaved, .int M_changes, .int M_isWithin, .int w5, .ref (a 5), .int M_length, .int M_fault, .int M_failed, .ref (a 6), .int M_signMany, .ref (a 7), .ref (a 8), .int M_many, .ref (a 9), .ref (a 10), .int M_at, .ref (a 11), .int M_toldMany])), (a 1, .inl (Y 0, 238, .inl M_g)), (a 2, .inl (Y 0, 1904, .inl M_kept)), (a 3, .inl (Y 0, 238, .inl M_saved)), (a 4, .inl (Y 0, 238, .inl M_before)), (a 5, .inl (Y 0, 60, .inl M_input)), (a 6, .inl (Y 2, 100, .inl M_signs)), (a 7, .inl (Y 0, 6, .inl M_column)), (a 8, .inl (Y 0, 6, .inl M_loads)), (a 9, .inl (Y 0, 2048, .inl M_sums)), (a 10, .inl (Y 0, 2048, .inl M_groups)), (a 11, .inl (Y 0, 155, .inl M_told))] H := hP
    have hD : va_D A [(a 0, .inr (11, [.ref (a 1), .ref (a 2), .ref (a 3), .ref (a 4), .int M_isSaved, .int M_changes, .int M_isWithin, .int w5, .ref (a 5), .int M_length, .int M_fault, .int M_failed, .ref (a 6), .int M_signMany, .ref (a 7), .ref (a 8), .int M_many, .ref (a 9), .ref (a 10), .int M_at, .ref (a 11), .int M_toldMany])), (a 1, .inl (Y 0, 238, .inl M_g)), (a 2, .inl (Y 0, 1904, .inl M_kept)), (a 3, .inl (Y 0, 238, .inl M_saved)), (a 4, .inl (Y 0, 238, .inl M_before)), (a 5, .inl (Y 0, 60, .inl M_input)), (a 6, .inl (Y 2, 100, .inl M_signs)), (a 7, .inl (Y 0, 6, .inl M_column)), (a 8, .inl (Y 0, 6, .inl M_loads)), (a 9, .inl (Y 0, 2048, .inl M_sums)), (a 10, .inl (Y 0, 2048, .inl M_groups)), (a 11, .inl (Y 0, 155, .inl M_told))] := hD
    refine lv_if_eq (tgt := 32) hx hb dX11_ofEntry_25 (by decide) (fun q7 => ?_) (fun q7 => ?_)
    · have hf := wk_t hf q7
      refine lv_aload_n hx hb dX11_ofEntry_32 rfl (lv_at hl 0 rfl) ?_
      refine lv_iload_n hx hb dX11_ofEntry_33 rfl (lv_at hl 1 rfl) ?_
      refine lv_iload_n hx hb dX11_ofEntry_34 rfl (lv_at hl 2 rfl) ?_
      obtain ⟨r8, hr9, hf⟩ := wkb1_s hf
      have hPc := hP.sub (ws' := (wX11 Y a M_g M_kept M_saved M_before M_isSaved M_changes M_isWithin w5 M_input M_length M_fault M_failed M_signs M_signMany M_column M_loads M_many M_sums M_groups M_at M_told M_toldMany)) [0, 1, 2, 3, 4, 5, 6, 7, 8, 9, 10, 11] rfl
      refine wk_vi (As := [.int x1, .int x2]) (rest := []) ⟨hx, hb, hml, hown, hts⟩ (c_X11_entry l dC dI Y a M_g M_kept M_saved M_before M_isSaved M_changes M_isWithin w5 M_input M_length M_fault M_failed M_signs M_signMany M_column M_loads M_many M_sums M_groups M_at M_told M_toldMany x1 x2 r8 hr9) (cwV 2 hts gX11_ofEntry_X11_entry rfl rfl rfl (by decide +kernel) ⟨Nat.le_of_ble_eq_true rfl, Nat.le_of_ble_eq_true rfl⟩) hK hPc (va_recv hK hP (ci := 11) (q0 := 0) rfl rfl) rfl hl.1 rfl (Nat.le_of_ble_eq_true rfl) dX11_ofEntry_35 ⟨Nat.le_of_ble_eq_true rfl, Nat.le_of_ble_eq_true rfl⟩ ?_
      obtain ⟨e0, e1⟩ := wke2 hf
      subst e0
      subst e1
      have hP9 := hP.sub (ws' := (wX11 Y a M_g M_kept M_saved M_before M_isSaved M_changes M_isWithin w5 M_input M_length M_fault M_failed M_signs M_signMany M_column M_loads M_many M_sums M_groups M_at M_told M_toldMany)) [0, 1, 2, 3, 4, 5, 6, 7, 8, 9, 10, 11] rfl
      have hD9 := hD.sub (ws' := (wX11 Y a M_g M_kept M_saved M_before M_isSaved M_changes M_isWithin w5 M_input M_length M_fault M_failed M_signs M_signMany M_column M_loads M_many M_sums M_groups M_at M_told M_toldMany)) [0, 1, 2, 3, 4, 5, 6, 7, 8, 9, 10, 11] (by decide) rfl
      exact W.iret (v := r8) hx hb hr (fun t ht hW => ⟨⟨r8, (), rfl, rfl, by rw [ht]; exact hP9, va_K.moved hW.alike hK, hD9⟩, hS.F ht⟩) hS.2.2 dX11_ofEntry_38
    · have hf := wk_f hf q7
      refine lv_iconst (v := 0) hx hb dX11_ofEntry_28 (by decide) ?_
      refine lv_goto (tgt := 38) hx hb dX11_ofEntry_29 (by decide) ?_
      obtain ⟨e0, e1⟩ := wke2 hf
      subst e0
      subst e1
      have hP9 := hP.sub (ws' := (wX11 Y a M_g M_kept M_saved M_before M_isSaved M_changes M_isWithin w5 M_input M_length M_fault M_failed M_signs M_signMany M_column M_loads M_many M_sums M_groups M_at M_told M_toldMany)) [0, 1, 2, 3, 4, 5, 6, 7, 8, 9, 10, 11] rfl
      have hD9 := hD.sub (ws' := (wX11 Y a M_g M_kept M_saved M_before M_isSaved M_changes M_isWithin w5 M_input M_length M_fault M_failed M_signs M_signMany M_column M_loads M_many M_sums M_groups M_at M_told M_toldMany)) [0, 1, 2, 3, 4, 5, 6, 7, 8, 9, 10, 11] (by decide) rfl
      exact W.iret (v := 0) hx hb hr (fun t ht hW => ⟨⟨0, (), rfl, rfl, by rw [ht]; exact hP9, va_K.moved hW.alike hK, hD9⟩, hS.F ht⟩) hS.2.2 dX11_ofEntry_38
  · have hf := wk_f hf q3
    refine lv_iconst (v := 0) hx hb dX11_ofEntry_17 (by decide) ?_
    refine lv_goto (tgt := 22) hx hb dX11_ofEntry_18 (by decide) ?_
    obtain ⟨r10, w11, hr12, hf⟩ := wkb2_s hf
    refine wk_evi (As := [.int 0]) (rest := []) (wc := (wX11 Y a M_g M_kept M_saved M_before M_isSaved M_changes M_isWithin M_code M_input M_length M_fault M_failed M_signs M_signMany M_column M_loads M_many M_sums M_groups M_at M_told M_toldMany)) (w1 := (wX11 Y a M_g M_kept M_saved M_before M_isSaved M_changes M_isWithin w11 M_input M_length M_fault M_failed M_signs M_signMany M_column M_loads M_many M_sums M_groups M_at M_told M_toldMany)) (wr := []) ⟨hx, hb, hml, hown, hts⟩ (c_X11_fails l dC dI Y a M_g M_kept M_saved M_before M_isSaved M_changes M_isWithin M_code M_input M_length M_fault M_failed M_signs M_signMany M_column M_loads M_many M_sums M_groups M_at M_told M_toldMany 0 H.size r10 w11 hr12) (cwV 1 hts gX11_ofEntry_X11_fails rfl rfl rfl (by decide +kernel) ⟨Nat.le_of_ble_eq_true rfl, Nat.le_of_ble_eq_true rfl⟩) hK hP hD hS hA [0, 1, 2, 3, 4, 5, 6, 7, 8, 9, 10, 11] [] rfl rfl (by decide) (by decide) (by decide) (va_recv hK hP (ci := 11) (q0 := 0) rfl rfl) rfl hl.1 rfl (Nat.le_of_ble_eq_true rfl) dX11_ofEntry_22 ⟨Nat.le_of_ble_eq_true rfl, Nat.le_of_ble_eq_true rfl⟩ (fun H locs hP hD hS => ?_)
    have hP : va_P (dC, dI) vwCl [(a 0, .inr (11, [.ref (a 1), .ref (a 2), .ref (a 3), .ref (a 4), .int M_isSaved, .int M_changes, .int M_isWithin, .int w11, .ref (a 5), .int M_length, .int M_fault, .int M_failed, .ref (a 6), .int M_signMany, .ref (a 7), .ref (a 8), .int M_many, .ref (a 9), .ref (a 10), .int M_at, .ref (a 11), .int M_toldMany])), (a 1, .inl (Y 0, 238, .inl M_g)), (a 2, .inl (Y 0, 1904, .inl M_kept)), (a 3, .inl (Y 0, 238, .inl M_saved)), (a 4, .inl (Y 0, 238, .inl M_before)), (a 5, .inl (Y 0, 60, .inl M_input)), (a 6, .inl (Y 2, 100, .inl M_signs)), (a 7, .inl (Y 0, 6, .inl M_column)), (a 8, .inl (Y 0, 6, .inl M_loads)), (a 9, .inl (Y 0, 2048, .inl M_sums)), (a 10, .inl (Y 0, 2048, .inl M_groups)), (a 11, .inl (Y 0, 155, .inl M_told))] H := hP
    have hD : va_D A [(a 0, .inr (11, [.ref (a 1), .ref (a 2), .ref (a 3), .ref (a 4), .int M_isSaved, .int M_changes, .int M_isWithin, .int w11, .ref (a 5), .int M_length, .int M_fault, .int M_failed, .ref (a 6), .int M_signMany, .ref (a 7), .ref (a 8), .int M_many, .ref (a 9), .ref (a 10), .int M_at, .ref (a 11), .int M_toldMany])), (a 1, .inl (Y 0, 238, .inl M_g)), (a 2, .inl (Y 0, 1904, .inl M_kept)), (a 3, .inl (Y 0, 238, .inl M_saved)), (a 4, .inl (Y 0, 238, .inl M_before)), (a 5, .inl (Y 0, 60, .inl M_input)), (a 6, .inl (Y 2, 100, .inl M_signs)), (a 7, .inl (Y 0, 6, .inl M_column)), (a 8, .inl (Y 0, 6, .inl M_loads)), (a 9, .inl (Y 0, 2048, .inl M_sums)), (a 10, .inl (Y 0, 2048, .inl M_groups)), (a 11, .inl (Y 0, 155, .inl M_told))] := hD
    refine lv_if_eq (tgt := 32) hx hb dX11_ofEntry_25 (by decide) (fun q13 => ?_) (fun q13 => ?_)
    · have hf := wk_t hf q13
      refine lv_aload_n hx hb dX11_ofEntry_32 rfl (lv_at hl 0 rfl) ?_
      refine lv_iload_n hx hb dX11_ofEntry_33 rfl (lv_at hl 1 rfl) ?_
      refine lv_iload_n hx hb dX11_ofEntry_34 rfl (lv_at hl 2 rfl) ?_
      obtain ⟨r14, hr15, hf⟩ := wkb1_s hf
      have hPc := hP.sub (ws' := (wX11 Y a M_g M_kept M_saved M_before M_isSaved M_changes M_isWithin w11 M_input M_length M_fault M_failed M_signs M_signMany M_column M_loads M_many M_sums M_groups M_at M_told M_toldMany)) [0, 1, 2, 3, 4, 5, 6, 7, 8, 9, 10, 11] rfl
      refine wk_vi (As := [.int x1, .int x2]) (rest := []) ⟨hx, hb, hml, hown, hts⟩ (c_X11_entry l dC dI Y a M_g M_kept M_saved M_before M_isSaved M_changes M_isWithin w11 M_input M_length M_fault M_failed M_signs M_signMany M_column M_loads M_many M_sums M_groups M_at M_told M_toldMany x1 x2 r14 hr15) (cwV 2 hts gX11_ofEntry_X11_entry rfl rfl rfl (by decide +kernel) ⟨Nat.le_of_ble_eq_true rfl, Nat.le_of_ble_eq_true rfl⟩) hK hPc (va_recv hK hP (ci := 11) (q0 := 0) rfl rfl) rfl hl.1 rfl (Nat.le_of_ble_eq_true rfl) dX11_ofEntry_35 ⟨Nat.le_of_ble_eq_true rfl, Nat.le_of_ble_eq_true rfl⟩ ?_
      obtain ⟨e0, e1⟩ := wke2 hf
      subst e0
      subst e1
      have hP9 := hP.sub (ws' := (wX11 Y a M_g M_kept M_saved M_before M_isSaved M_changes M_isWithin w11 M_input M_length M_fault M_failed M_signs M_signMany M_column M_loads M_many M_sums M_groups M_at M_told M_toldMany)) [0, 1, 2, 3, 4, 5, 6, 7, 8, 9, 10, 11] rfl
      have hD9 := hD.sub (ws' := (wX11 Y a M_g M_kept M_saved M_before M_isSaved M_changes M_isWithin w11 M_input M_length M_fault M_failed M_signs M_signMany M_column M_loads M_many M_sums M_groups M_at M_told M_toldMany)) [0, 1, 2, 3, 4, 5, 6, 7, 8, 9, 10, 11] (by decide) rfl
      exact W.iret (v := r14) hx hb hr (fun t ht hW => ⟨⟨r14, (), rfl, rfl, by rw [ht]; exact hP9, va_K.moved hW.alike hK, hD9⟩, hS.F ht⟩) hS.2.2 dX11_ofEntry_38
    · have hf := wk_f hf q13
      refine lv_iconst (v := 0) hx hb dX11_ofEntry_28 (by decide) ?_
      refine lv_goto (tgt := 38) hx hb dX11_ofEntry_29 (by decide) ?_
      obtain ⟨e0, e1⟩ := wke2 hf
      subst e0
      subst e1
      have hP9 := hP.sub (ws' := (wX11 Y a M_g M_kept M_saved M_before M_isSaved M_changes M_isWithin w11 M_input M_length M_fault M_failed M_signs M_signMany M_column M_loads M_many M_sums M_groups M_at M_told M_toldMany)) [0, 1, 2, 3, 4, 5, 6, 7, 8, 9, 10, 11] rfl
      have hD9 := hD.sub (ws' := (wX11 Y a M_g M_kept M_saved M_before M_isSaved M_changes M_isWithin w11 M_input M_length M_fault M_failed M_signs M_signMany M_column M_loads M_many M_sums M_groups M_at M_told M_toldMany)) [0, 1, 2, 3, 4, 5, 6, 7, 8, 9, 10, 11] (by decide) rfl
      exact W.iret (v := 0) hx hb hr (fun t ht hW => ⟨⟨0, (), rfl, rfl, by rw [ht]; exact hP9, va_K.moved hW.alike hK, hD9⟩, hS.F ht⟩) hS.2.2 dX11_ofEntry_38
def f_X11_debitOf (M_g : Nat → Int32) (M_code : Int32) (x1 : Int32) : Option (Int32 × Int32) :=
  wkb2 (f_X11_ofEntry M_g M_code x1 0) (fun r1 w2 =>
  some (r1, w2))
set_option maxHeartbeats 4000000 in
set_option maxRecDepth 100000 in
theorem c_X11_debitOf (l : Launch) (dC : Nat → ClassId) (dI : Nat → Nat → Nat) (Y : Nat → ClassId) (a : Nat → Nat) (M_g : Nat → Int32) (M_kept : Nat → Int32) (M_saved : Nat → Int32) (M_before : Nat → Int32) (M_isSaved : Int32) (M_changes : Int32) (M_isWithin : Int32) (M_code : Int32) (M_input : Nat → Int32) (M_length : Int32) (M_fault : Int32) (M_failed : Int32) (M_signs : Nat → Int32) (M_signMany : Int32) (M_column : Nat → Int32) (M_loads : Nat → Int32) (M_many : Int32) (M_sums : Nat → Int32) (M_groups : Nat → Int32) (M_at : Int32) (M_told : Nat → Int32) (M_toldMany : Int32) (x1 : Int32) (sz : Nat) (r : Int32) (zM_code : Int32) (hf : f_X11_debitOf M_g M_code x1 = some (r, zM_code)) : Met l yX11_debitOf wsX11_debitOf ({ frames := 2, cells := 0, slots := 0, locals := 44 } : Room) (va_Pc [.ref (a 0), .int x1] (wk_E (dC, dI) Y (wX11 Y a M_g M_kept M_saved M_before M_isSaved M_changes M_isWithin M_code M_input M_length M_fault M_failed M_signs M_signMany M_column M_loads M_many M_sums M_groups M_at M_told M_toldMany) sz)) (va_Qi (fun r2 (_ : Unit) => r2 = r) (fun _ t => wk_X (dC, dI) Y (wX11 Y a M_g M_kept M_saved M_before M_isSaved M_changes M_isWithin zM_code M_input M_length M_fault M_failed M_signs M_signMany M_column M_loads M_many M_sums M_groups M_at M_told M_toldMany) (va_A (wX11 Y a M_g M_kept M_saved M_before M_isSaved M_changes M_isWithin M_code M_input M_length M_fault M_failed M_signs M_signMany M_column M_loads M_many M_sums M_groups M_at M_told M_toldMany) sz) t) (va_A (wX11 Y a M_g M_kept M_saved M_before M_isSaved M_changes M_isWithin M_code M_input M_length M_fault M_failed M_signs M_signMany M_column M_loads M_many M_sums M_groups M_at M_told M_toldMany) sz)) 0 0 (va_A (wX11 Y a M_g M_kept M_saved M_before M_isSaved M_changes M_isWithin M_code M_input M_length M_fault M_failed M_signs M_signMany M_column M_loads M_many M_sums M_groups M_at M_told M_toldMany) sz) := by
  refine Met.ofW (cc := cX11_debitOf) (maxL := 2) (ret := (some .int)) (by decide) rfl ?_
  intro p e s m args below meth c s₁ B hml hv
  obtain ⟨rfl, hsz, hP, hK, hD0⟩ := hv
  have hx := B.exec
  have hb := B.bytes
  have hr := B.returns
  have hts := atoms_spec (ws := wsX11_debitOf) B.pre
  have hown : s.vm.findClass RX11 = some m.cls := findClass_of_methodNamed B.named
  have hlocks := B.notSynchronized
  have C0 : wk_C p s m _ meth c cX11_debitOf 2 (some .int) wsX11_debitOf RX11 := ⟨hx, hb, hml, hr, hlocks, hown, hts⟩
  subst hsz
  have hD := hD0.self (sz := s.heap.size)
  generalize hAe : va_A (wX11 Y a M_g M_kept M_saved M_before M_isSaved M_changes M_isWithin M_code M_input M_length M_fault M_failed M_signs M_signMany M_column M_loads M_many M_sums M_groups M_at M_told M_toldMany) s.heap.size = A at hD ⊢
  have hA : ∀ q : Nat, s.heap.size ≤ q → A q := fun q h => by rw [← hAe]; exact Or.inr h
  have hS : va_S A s.heap s.heap [] := va_S.rf
  obtain ⟨H, hHe⟩ : ∃ H, H = s.heap := ⟨_, rfl⟩
  have hS : va_S A s.heap H [] := by rw [hHe]; exact hS
  have hP : va_P (dC, dI) vwCl [(a 0, .inr (11, [.ref (a 1), .ref (a 2), .ref (a 3), .ref (a 4), .int M_isSaved, .int M_changes, .int M_isWithin, .int M_code, .ref (a 5), .int M_length, .int M_fault, .int M_failed, .ref (a 6), .int M_signMany, .ref (a 7), .ref (a 8), .int M_many, .ref (a 9), .ref (a 10), .int M_at, .ref (a 11), .int M_toldMany])), (a 1, .inl (Y 0, 238, .inl M_g)), (a 2, .inl (Y 0, 1904, .inl M_kept)), (a 3, .inl (Y 0, 238, .inl M_saved)), (a 4, .inl (Y 0, 238, .inl M_before)), (a 5, .inl (Y 0, 60, .inl M_input)), (a 6, .inl (Y 2, 100, .inl M_signs)), (a 7, .inl (Y 0, 6, .inl M_column)), (a 8, .inl (Y 0, 6, .inl M_loads)), (a 9, .inl (Y 0, 2048, .inl M_sums)), (a 10, .inl (Y 0, 2048, .inl M_groups)), (a 11, .inl (Y 0, 155, .inl M_told))] H := by rw [hHe]; exact hP
  have hD : va_D A [(a 0, .inr (11, [.ref (a 1), .ref (a 2), .ref (a 3), .ref (a 4), .int M_isSaved, .int M_changes, .int M_isWithin, .int M_code, .ref (a 5), .int M_length, .int M_fault, .int M_failed, .ref (a 6), .int M_signMany, .ref (a 7), .ref (a 8), .int M_many, .ref (a 9), .ref (a 10), .int M_at, .ref (a 11), .int M_toldMany])), (a 1, .inl (Y 0, 238, .inl M_g)), (a 2, .inl (Y 0, 1904, .inl M_kept)), (a 3, .inl (Y 0, 238, .inl M_saved)), (a 4, .inl (Y 0, 238, .inl M_before)), (a 5, .inl (Y 0, 60, .inl M_input)), (a 6, .inl (Y 2, 100, .inl M_signs)), (a 7, .inl (Y 0, 6, .inl M_column)), (a 8, .inl (Y 0, 6, .inl M_loads)), (a 9, .inl (Y 0, 2048, .inl M_sums)), (a 10, .inl (Y 0, 2048, .inl M_groups)), (a 11, .inl (Y 0, 155, .inl M_told))] := hD
  obtain ⟨locs, hlo⟩ : ∃ locs : List Loc, locs = [] := ⟨_, rfl⟩
  have hS : va_S A s.heap H locs := by rw [hlo]; exact hS
  have hl := lv_entry ([.ref (a 0), .int x1]) (n := 2) (Nat.le_of_ble_eq_true rfl)
  rw [lg_entry_eq]
  generalize (lg_sl ([.ref (a 0), .int x1]) ++ List.replicate (2 - (lg_sl ([.ref (a 0), .int x1])).length) Slot.unset).toArray = ls at hl ⊢
  have hl : lv_has ls 2 [(0, .ref (a 0)), (1, .int x1)] := hl
  refine wk_start hHe hlo ?_
  rw [f_X11_debitOf] at hf
  refine lv_aload_n hx hb dX11_debitOf_0 rfl (lv_at hl 0 rfl) ?_
  refine lv_iload_n hx hb dX11_debitOf_1 rfl (lv_at hl 1 rfl) ?_
  refine lv_iconst (v := 0) hx hb dX11_debitOf_2 (by decide) ?_
  obtain ⟨r1, w2, hr3, hf⟩ := wkb2_s hf
  refine wk_evi (As := [.int x1, .int 0]) (rest := []) (wc := (wX11 Y a M_g M_kept M_saved M_before M_isSaved M_changes M_isWithin M_code M_input M_length M_fault M_failed M_signs M_signMany M_column M_loads M_many M_sums M_groups M_at M_told M_toldMany)) (w1 := (wX11 Y a M_g M_kept M_saved M_before M_isSaved M_changes M_isWithin w2 M_input M_length M_fault M_failed M_signs M_signMany M_column M_loads M_many M_sums M_groups M_at M_told M_toldMany)) (wr := []) ⟨hx, hb, hml, hown, hts⟩ (c_X11_ofEntry l dC dI Y a M_g M_kept M_saved M_before M_isSaved M_changes M_isWithin M_code M_input M_length M_fault M_failed M_signs M_signMany M_column M_loads M_many M_sums M_groups M_at M_told M_toldMany x1 0 H.size r1 w2 hr3) (cwV 2 hts gX11_debitOf_X11_ofEntry rfl rfl rfl (by decide +kernel) ⟨Nat.le_of_ble_eq_true rfl, Nat.le_of_ble_eq_true rfl⟩) hK hP hD hS hA [0, 1, 2, 3, 4, 5, 6, 7, 8, 9, 10, 11] [] rfl rfl (by decide) (by decide) (by decide) (va_recv hK hP (ci := 11) (q0 := 0) rfl rfl) rfl hl.1 rfl (Nat.le_of_ble_eq_true rfl) dX11_debitOf_3 ⟨Nat.le_of_ble_eq_true rfl, Nat.le_of_ble_eq_true rfl⟩ (fun H locs hP hD hS => ?_)
  have hP : va_P (dC, dI) vwCl [(a 0, .inr (11, [.ref (a 1), .ref (a 2), .ref (a 3), .ref (a 4), .int M_isSaved, .int M_changes, .int M_isWithin, .int w2, .ref (a 5), .int M_length, .int M_fault, .int M_failed, .ref (a 6), .int M_signMany, .ref (a 7), .ref (a 8), .int M_many, .ref (a 9), .ref (a 10), .int M_at, .ref (a 11), .int M_toldMany])), (a 1, .inl (Y 0, 238, .inl M_g)), (a 2, .inl (Y 0, 1904, .inl M_kept)), (a 3, .inl (Y 0, 238, .inl M_saved)), (a 4, .inl (Y 0, 238, .inl M_before)), (a 5, .inl (Y 0, 60, .inl M_input)), (a 6, .inl (Y 2, 100, .inl M_signs)), (a 7, .inl (Y 0, 6, .inl M_column)), (a 8, .inl (Y 0, 6, .inl M_loads)), (a 9, .inl (Y 0, 2048, .inl M_sums)), (a 10, .inl (Y 0, 2048, .inl M_groups)), (a 11, .inl (Y 0, 155, .inl M_told))] H := hP
  have hD : va_D A [(a 0, .inr (11, [.ref (a 1), .ref (a 2), .ref (a 3), .ref (a 4), .int M_isSaved, .int M_changes, .int M_isWithin, .int w2, .ref (a 5), .int M_length, .int M_fault, .int M_failed, .ref (a 6), .int M_signMany, .ref (a 7), .ref (a 8), .int M_many, .ref (a 9), .ref (a 10), .int M_at, .ref (a 11), .int M_toldMany])), (a 1, .inl (Y 0, 238, .inl M_g)), (a 2, .inl (Y 0, 1904, .inl M_kept)), (a 3, .inl (Y 0, 238, .inl M_saved)), (a 4, .inl (Y 0, 238, .inl M_before)), (a 5, .inl (Y 0, 60, .inl M_input)), (a 6, .inl (Y 2, 100, .inl M_signs)), (a 7, .inl (Y 0, 6, .inl M_column)), (a 8, .inl (Y 0, 6, .inl M_loads)), (a 9, .inl (Y 0, 2048, .inl M_sums)), (a 10, .inl (Y 0, 2048, .inl M_groups)), (a 11, .inl (Y 0, 155, .inl M_told))] := hD
  obtain ⟨e0, e1⟩ := wke2 hf
  subst e0
  subst e1
  have hP9 := hP.sub (ws' := (wX11 Y a M_g M_kept M_saved M_before M_isSaved M_changes M_isWithin w2 M_input M_length M_fault M_failed M_signs M_signMany M_column M_loads M_many M_sums M_groups M_at M_told M_toldMany)) [0, 1, 2, 3, 4, 5, 6, 7, 8, 9, 10, 11] rfl
  have hD9 := hD.sub (ws' := (wX11 Y a M_g M_kept M_saved M_before M_isSaved M_changes M_isWithin w2 M_input M_length M_fault M_failed M_signs M_signMany M_column M_loads M_many M_sums M_groups M_at M_told M_toldMany)) [0, 1, 2, 3, 4, 5, 6, 7, 8, 9, 10, 11] (by decide) rfl
  exact W.iret (v := r1) hx hb hr (fun t ht hW => ⟨⟨r1, (), rfl, rfl, by rw [ht]; exact hP9, va_K.moved hW.alike hK, hD9⟩, hS.F ht⟩) hS.2.2 dX11_debitOf_6
def f_X11_creditOf (M_g : Nat → Int32) (M_code : Int32) (x1 : Int32) : Option (Int32 × Int32) :=
  wkb2 (f_X11_ofEntry M_g M_code x1 1) (fun r1 w2 =>
  some (r1, w2))
set_option maxHeartbeats 4000000 in
set_option maxRecDepth 100000 in
theorem c_X11_creditOf (l : Launch) (dC : Nat → ClassId) (dI : Nat → Nat → Nat) (Y : Nat → ClassId) (a : Nat → Nat) (M_g : Nat → Int32) (M_kept : Nat → Int32) (M_saved : Nat → Int32) (M_before : Nat → Int32) (M_isSaved : Int32) (M_changes : Int32) (M_isWithin : Int32) (M_code : Int32) (M_input : Nat → Int32) (M_length : Int32) (M_fault : Int32) (M_failed : Int32) (M_signs : Nat → Int32) (M_signMany : Int32) (M_column : Nat → Int32) (M_loads : Nat → Int32) (M_many : Int32) (M_sums : Nat → Int32) (M_groups : Nat → Int32) (M_at : Int32) (M_told : Nat → Int32) (M_toldMany : Int32) (x1 : Int32) (sz : Nat) (r : Int32) (zM_code : Int32) (hf : f_X11_creditOf M_g M_code x1 = some (r, zM_code)) : Met l yX11_creditOf wsX11_creditOf ({ frames := 2, cells := 0, slots := 0, locals := 44 } : Room) (va_Pc [.ref (a 0), .int x1] (wk_E (dC, dI) Y (wX11 Y a M_g M_kept M_saved M_before M_isSaved M_changes M_isWithin M_code M_input M_length M_fault M_failed M_signs M_signMany M_column M_loads M_many M_sums M_groups M_at M_told M_toldMany) sz)) (va_Qi (fun r2 (_ : Unit) => r2 = r) (fun _ t => wk_X (dC, dI) Y (wX11 Y a M_g M_kept M_saved M_before M_isSaved M_changes M_isWithin zM_code M_input M_length M_fault M_failed M_signs M_signMany M_column M_loads M_many M_sums M_groups M_at M_told M_toldMany) (va_A (wX11 Y a M_g M_kept M_saved M_before M_isSaved M_changes M_isWithin M_code M_input M_length M_fault M_failed M_signs M_signMany M_column M_loads M_many M_sums M_groups M_at M_told M_toldMany) sz) t) (va_A (wX11 Y a M_g M_kept M_saved M_before M_isSaved M_changes M_isWithin M_code M_input M_length M_fault M_failed M_signs M_signMany M_column M_loads M_many M_sums M_groups M_at M_told M_toldMany) sz)) 0 0 (va_A (wX11 Y a M_g M_kept M_saved M_before M_isSaved M_changes M_isWithin M_code M_input M_length M_fault M_failed M_signs M_signMany M_column M_loads M_many M_sums M_groups M_at M_told M_toldMany) sz) := by
  refine Met.ofW (cc := cX11_creditOf) (maxL := 2) (ret := (some .int)) (by decide) rfl ?_
  intro p e s m args below meth c s₁ B hml hv
  obtain ⟨rfl, hsz, hP, hK, hD0⟩ := hv
  have hx := B.exec
  have hb := B.bytes
  have hr := B.returns
  have hts := atoms_spec (ws := wsX11_creditOf) B.pre
  have hown : s.vm.findClass RX11 = some m.cls := findClass_of_methodNamed B.named
  have hlocks := B.notSynchronized
  have C0 : wk_C p s m _ meth c cX11_creditOf 2 (some .int) wsX11_creditOf RX11 := ⟨hx, hb, hml, hr, hlocks, hown, hts⟩
  subst hsz
  have hD := hD0.self (sz := s.heap.size)
  generalize hAe : va_A (wX11 Y a M_g M_kept M_saved M_before M_isSaved M_changes M_isWithin M_code M_input M_length M_fault M_failed M_signs M_signMany M_column M_loads M_many M_sums M_groups M_at M_told M_toldMany) s.heap.size = A at hD ⊢
  have hA : ∀ q : Nat, s.heap.size ≤ q → A q := fun q h => by rw [← hAe]; exact Or.inr h
  have hS : va_S A s.heap s.heap [] := va_S.rf
  obtain ⟨H, hHe⟩ : ∃ H, H = s.heap := ⟨_, rfl⟩
  have hS : va_S A s.heap H [] := by rw [hHe]; exact hS
  have hP : va_P (dC, dI) vwCl [(a 0, .inr (11, [.ref (a 1), .ref (a 2), .ref (a 3), .ref (a 4), .int M_isSaved, .int M_changes, .int M_isWithin, .int M_code, .ref (a 5), .int M_length, .int M_fault, .int M_failed, .ref (a 6), .int M_signMany, .ref (a 7), .ref (a 8), .int M_many, .ref (a 9), .ref (a 10), .int M_at, .ref (a 11), .int M_toldMany])), (a 1, .inl (Y 0, 238, .inl M_g)), (a 2, .inl (Y 0, 1904, .inl M_kept)), (a 3, .inl (Y 0, 238, .inl M_saved)), (a 4, .inl (Y 0, 238, .inl M_before)), (a 5, .inl (Y 0, 60, .inl M_input)), (a 6, .inl (Y 2, 100, .inl M_signs)), (a 7, .inl (Y 0, 6, .inl M_column)), (a 8, .inl (Y 0, 6, .inl M_loads)), (a 9, .inl (Y 0, 2048, .inl M_sums)), (a 10, .inl (Y 0, 2048, .inl M_groups)), (a 11, .inl (Y 0, 155, .inl M_told))] H := by rw [hHe]; exact hP
  have hD : va_D A [(a 0, .inr (11, [.ref (a 1), .ref (a 2), .ref (a 3), .ref (a 4), .int M_isSaved, .int M_changes, .int M_isWithin, .int M_code, .ref (a 5), .int M_length, .int M_fault, .int M_failed, .ref (a 6), .int M_signMany, .ref (a 7), .ref (a 8), .int M_many, .ref (a 9), .ref (a 10), .int M_at, .ref (a 11), .int M_toldMany])), (a 1, .inl (Y 0, 238, .inl M_g)), (a 2, .inl (Y 0, 1904, .inl M_kept)), (a 3, .inl (Y 0, 238, .inl M_saved)), (a 4, .inl (Y 0, 238, .inl M_before)), (a 5, .inl (Y 0, 60, .inl M_input)), (a 6, .inl (Y 2, 100, .inl M_signs)), (a 7, .inl (Y 0, 6, .inl M_column)), (a 8, .inl (Y 0, 6, .inl M_loads)), (a 9, .inl (Y 0, 2048, .inl M_sums)), (a 10, .inl (Y 0, 2048, .inl M_groups)), (a 11, .inl (Y 0, 155, .inl M_told))] := hD
  obtain ⟨locs, hlo⟩ : ∃ locs : List Loc, locs = [] := ⟨_, rfl⟩
  have hS : va_S A s.heap H locs := by rw [hlo]; exact hS
  have hl := lv_entry ([.ref (a 0), .int x1]) (n := 2) (Nat.le_of_ble_eq_true rfl)
  rw [lg_entry_eq]
  generalize (lg_sl ([.ref (a 0), .int x1]) ++ List.replicate (2 - (lg_sl ([.ref (a 0), .int x1])).length) Slot.unset).toArray = ls at hl ⊢
  have hl : lv_has ls 2 [(0, .ref (a 0)), (1, .int x1)] := hl
  refine wk_start hHe hlo ?_
  rw [f_X11_creditOf] at hf
  refine lv_aload_n hx hb dX11_creditOf_0 rfl (lv_at hl 0 rfl) ?_
  refine lv_iload_n hx hb dX11_creditOf_1 rfl (lv_at hl 1 rfl) ?_
  refine lv_iconst (v := 1) hx hb dX11_creditOf_2 (by decide) ?_
  obtain ⟨r1, w2, hr3, hf⟩ := wkb2_s hf
  refine wk_evi (As := [.int x1, .int 1]) (rest := []) (wc := (wX11 Y a M_g M_kept M_saved M_before M_isSaved M_changes M_isWithin M_code M_input M_length M_fault M_failed M_signs M_signMany M_column M_loads M_many M_sums M_groups M_at M_told M_toldMany)) (w1 := (wX11 Y a M_g M_kept M_saved M_before M_isSaved M_changes M_isWithin w2 M_input M_length M_fault M_failed M_signs M_signMany M_column M_loads M_many M_sums M_groups M_at M_told M_toldMany)) (wr := []) ⟨hx, hb, hml, hown, hts⟩ (c_X11_ofEntry l dC dI Y a M_g M_kept M_saved M_before M_isSaved M_changes M_isWithin M_code M_input M_length M_fault M_failed M_signs M_signMany M_column M_loads M_many M_sums M_groups M_at M_told M_toldMany x1 1 H.size r1 w2 hr3) (cwV 2 hts gX11_creditOf_X11_ofEntry rfl rfl rfl (by decide +kernel) ⟨Nat.le_of_ble_eq_true rfl, Nat.le_of_ble_eq_true rfl⟩) hK hP hD hS hA [0, 1, 2, 3, 4, 5, 6, 7, 8, 9, 10, 11] [] rfl rfl (by decide) (by decide) (by decide) (va_recv hK hP (ci := 11) (q0 := 0) rfl rfl) rfl hl.1 rfl (Nat.le_of_ble_eq_true rfl) dX11_creditOf_3 ⟨Nat.le_of_ble_eq_true rfl, Nat.le_of_ble_eq_true rfl⟩ (fun H locs hP hD hS => ?_)
  have hP : va_P (dC, dI) vwCl [(a 0, .inr (11, [.ref (a 1), .ref (a 2), .ref (a 3), .ref (a 4), .int M_isSaved, .int M_changes, .int M_isWithin, .int w2, .ref (a 5), .int M_length, .int M_fault, .int M_failed, .ref (a 6), .int M_signMany, .ref (a 7), .ref (a 8), .int M_many, .ref (a 9), .ref (a 10), .int M_at, .ref (a 11), .int M_toldMany])), (a 1, .inl (Y 0, 238, .inl M_g)), (a 2, .inl (Y 0, 1904, .inl M_kept)), (a 3, .inl (Y 0, 238, .inl M_saved)), (a 4, .inl (Y 0, 238, .inl M_before)), (a 5, .inl (Y 0, 60, .inl M_input)), (a 6, .inl (Y 2, 100, .inl M_signs)), (a 7, .inl (Y 0, 6, .inl M_column)), (a 8, .inl (Y 0, 6, .inl M_loads)), (a 9, .inl (Y 0, 2048, .inl M_sums)), (a 10, .inl (Y 0, 2048, .inl M_groups)), (a 11, .inl (Y 0, 155, .inl M_told))] H := hP
  have hD : va_D A [(a 0, .inr (11, [.ref (a 1), .ref (a 2), .ref (a 3), .ref (a 4), .int M_isSaved, .int M_changes, .int M_isWithin, .int w2, .ref (a 5), .int M_length, .int M_fault, .int M_failed, .ref (a 6), .int M_signMany, .ref (a 7), .ref (a 8), .int M_many, .ref (a 9), .ref (a 10), .int M_at, .ref (a 11), .int M_toldMany])), (a 1, .inl (Y 0, 238, .inl M_g)), (a 2, .inl (Y 0, 1904, .inl M_kept)), (a 3, .inl (Y 0, 238, .inl M_saved)), (a 4, .inl (Y 0, 238, .inl M_before)), (a 5, .inl (Y 0, 60, .inl M_input)), (a 6, .inl (Y 2, 100, .inl M_signs)), (a 7, .inl (Y 0, 6, .inl M_column)), (a 8, .inl (Y 0, 6, .inl M_loads)), (a 9, .inl (Y 0, 2048, .inl M_sums)), (a 10, .inl (Y 0, 2048, .inl M_groups)), (a 11, .inl (Y 0, 155, .inl M_told))] := hD
  obtain ⟨e0, e1⟩ := wke2 hf
  subst e0
  subst e1
  have hP9 := hP.sub (ws' := (wX11 Y a M_g M_kept M_saved M_before M_isSaved M_changes M_isWithin w2 M_input M_length M_fault M_failed M_signs M_signMany M_column M_loads M_many M_sums M_groups M_at M_told M_toldMany)) [0, 1, 2, 3, 4, 5, 6, 7, 8, 9, 10, 11] rfl
  have hD9 := hD.sub (ws' := (wX11 Y a M_g M_kept M_saved M_before M_isSaved M_changes M_isWithin w2 M_input M_length M_fault M_failed M_signs M_signMany M_column M_loads M_many M_sums M_groups M_at M_told M_toldMany)) [0, 1, 2, 3, 4, 5, 6, 7, 8, 9, 10, 11] (by decide) rfl
  exact W.iret (v := r1) hx hb hr (fun t ht hW => ⟨⟨r1, (), rfl, rfl, by rw [ht]; exact hP9, va_K.moved hW.alike hK, hD9⟩, hS.F ht⟩) hS.2.2 dX11_creditOf_6
def f_X11_amountOf (M_g : Nat → Int32) (M_code : Int32) (x1 : Int32) : Option (Int32 × Int32) :=
  wkb2 (f_X11_ofEntry M_g M_code x1 2) (fun r1 w2 =>
  some (r1, w2))
set_option maxHeartbeats 4000000 in
set_option maxRecDepth 100000 in
theorem c_X11_amountOf (l : Launch) (dC : Nat → ClassId) (dI : Nat → Nat → Nat) (Y : Nat → ClassId) (a : Nat → Nat) (M_g : Nat → Int32) (M_kept : Nat → Int32) (M_saved : Nat → Int32) (M_before : Nat → Int32) (M_isSaved : Int32) (M_changes : Int32) (M_isWithin : Int32) (M_code : Int32) (M_input : Nat → Int32) (M_length : Int32) (M_fault : Int32) (M_failed : Int32) (M_signs : Nat → Int32) (M_signMany : Int32) (M_column : Nat → Int32) (M_loads : Nat → Int32) (M_many : Int32) (M_sums : Nat → Int32) (M_groups : Nat → Int32) (M_at : Int32) (M_told : Nat → Int32) (M_toldMany : Int32) (x1 : Int32) (sz : Nat) (r : Int32) (zM_code : Int32) (hf : f_X11_amountOf M_g M_code x1 = some (r, zM_code)) : Met l yX11_amountOf wsX11_amountOf ({ frames := 2, cells := 0, slots := 0, locals := 44 } : Room) (va_Pc [.ref (a 0), .int x1] (wk_E (dC, dI) Y (wX11 Y a M_g M_kept M_saved M_before M_isSaved M_changes M_isWithin M_code M_input M_length M_fault M_failed M_signs M_signMany M_column M_loads M_many M_sums M_groups M_at M_told M_toldMany) sz)) (va_Qi (fun r2 (_ : Unit) => r2 = r) (fun _ t => wk_X (dC, dI) Y (wX11 Y a M_g M_kept M_saved M_before M_isSaved M_changes M_isWithin zM_code M_input M_length M_fault M_failed M_signs M_signMany M_column M_loads M_many M_sums M_groups M_at M_told M_toldMany) (va_A (wX11 Y a M_g M_kept M_saved M_before M_isSaved M_changes M_isWithin M_code M_input M_length M_fault M_failed M_signs M_signMany M_column M_loads M_many M_sums M_groups M_at M_told M_toldMany) sz) t) (va_A (wX11 Y a M_g M_kept M_saved M_before M_isSaved M_changes M_isWithin M_code M_input M_length M_fault M_failed M_signs M_signMany M_column M_loads M_many M_sums M_groups M_at M_told M_toldMany) sz)) 0 0 (va_A (wX11 Y a M_g M_kept M_saved M_before M_isSaved M_changes M_isWithin M_code M_input M_length M_fault M_failed M_signs M_signMany M_column M_loads M_many M_sums M_groups M_at M_told M_toldMany) sz) := by
  refine Met.ofW (cc := cX11_amountOf) (maxL := 2) (ret := (some .int)) (by decide) rfl ?_
  intro p e s m args below meth c s₁ B hml hv
  obtain ⟨rfl, hsz, hP, hK, hD0⟩ := hv
  have hx := B.exec
  have hb := B.bytes
  have hr := B.returns
  have hts := atoms_spec (ws := wsX11_amountOf) B.pre
  have hown : s.vm.findClass RX11 = some m.cls := findClass_of_methodNamed B.named
  have hlocks := B.notSynchronized
  have C0 : wk_C p s m _ meth c cX11_amountOf 2 (some .int) wsX11_amountOf RX11 := ⟨hx, hb, hml, hr, hlocks, hown, hts⟩
  subst hsz
  have hD := hD0.self (sz := s.heap.size)
  generalize hAe : va_A (wX11 Y a M_g M_kept M_saved M_before M_isSaved M_changes M_isWithin M_code M_input M_length M_fault M_failed M_signs M_signMany M_column M_loads M_many M_sums M_groups M_at M_told M_toldMany) s.heap.size = A at hD ⊢
  have hA : ∀ q : Nat, s.heap.size ≤ q → A q := fun q h => by rw [← hAe]; exact Or.inr h
  have hS : va_S A s.heap s.heap [] := va_S.rf
  obtain ⟨H, hHe⟩ : ∃ H, H = s.heap := ⟨_, rfl⟩
  have hS : va_S A s.heap H [] := by rw [hHe]; exact hS
  have hP : va_P (dC, dI) vwCl [(a 0, .inr (11, [.ref (a 1), .ref (a 2), .ref (a 3), .ref (a 4), .int M_isSaved, .int M_changes, .int M_isWithin, .int M_code, .ref (a 5), .int M_length, .int M_fault, .int M_failed, .ref (a 6), .int M_signMany, .ref (a 7), .ref (a 8), .int M_many, .ref (a 9), .ref (a 10), .int M_at, .ref (a 11), .int M_toldMany])), (a 1, .inl (Y 0, 238, .inl M_g)), (a 2, .inl (Y 0, 1904, .inl M_kept)), (a 3, .inl (Y 0, 238, .inl M_saved)), (a 4, .inl (Y 0, 238, .inl M_before)), (a 5, .inl (Y 0, 60, .inl M_input)), (a 6, .inl (Y 2, 100, .inl M_signs)), (a 7, .inl (Y 0, 6, .inl M_column)), (a 8, .inl (Y 0, 6, .inl M_loads)), (a 9, .inl (Y 0, 2048, .inl M_sums)), (a 10, .inl (Y 0, 2048, .inl M_groups)), (a 11, .inl (Y 0, 155, .inl M_told))] H := by rw [hHe]; exact hP
  have hD : va_D A [(a 0, .inr (11, [.ref (a 1), .ref (a 2), .ref (a 3), .ref (a 4), .int M_isSaved, .int M_changes, .int M_isWithin, .int M_code, .ref (a 5), .int M_length, .int M_fault, .int M_failed, .ref (a 6), .int M_signMany, .ref (a 7), .ref (a 8), .int M_many, .ref (a 9), .ref (a 10), .int M_at, .ref (a 11), .int M_toldMany])), (a 1, .inl (Y 0, 238, .inl M_g)), (a 2, .inl (Y 0, 1904, .inl M_kept)), (a 3, .inl (Y 0, 238, .inl M_saved)), (a 4, .inl (Y 0, 238, .inl M_before)), (a 5, .inl (Y 0, 60, .inl M_input)), (a 6, .inl (Y 2, 100, .inl M_signs)), (a 7, .inl (Y 0, 6, .inl M_column)), (a 8, .inl (Y 0, 6, .inl M_loads)), (a 9, .inl (Y 0, 2048, .inl M_sums)), (a 10, .inl (Y 0, 2048, .inl M_groups)), (a 11, .inl (Y 0, 155, .inl M_told))] := hD
  obtain ⟨locs, hlo⟩ : ∃ locs : List Loc, locs = [] := ⟨_, rfl⟩
  have hS : va_S A s.heap H locs := by rw [hlo]; exact hS
  have hl := lv_entry ([.ref (a 0), .int x1]) (n := 2) (Nat.le_of_ble_eq_true rfl)
  rw [lg_entry_eq]
  generalize (lg_sl ([.ref (a 0), .int x1]) ++ List.replicate (2 - (lg_sl ([.ref (a 0), .int x1])).length) Slot.unset).toArray = ls at hl ⊢
  have hl : lv_has ls 2 [(0, .ref (a 0)), (1, .int x1)] := hl
  refine wk_start hHe hlo ?_
  rw [f_X11_amountOf] at hf
  refine lv_aload_n hx hb dX11_amountOf_0 rfl (lv_at hl 0 rfl) ?_
  refine lv_iload_n hx hb dX11_amountOf_1 rfl (lv_at hl 1 rfl) ?_
  refine lv_iconst (v := 2) hx hb dX11_amountOf_2 (by decide) ?_
  obtain ⟨r1, w2, hr3, hf⟩ := wkb2_s hf
  refine wk_evi (As := [.int x1, .int 2]) (rest := []) (wc := (wX11 Y a M_g M_kept M_saved M_before M_isSaved M_changes M_isWithin M_code M_input M_length M_fault M_failed M_signs M_signMany M_column M_loads M_many M_sums M_groups M_at M_told M_toldMany)) (w1 := (wX11 Y a M_g M_kept M_saved M_before M_isSaved M_changes M_isWithin w2 M_input M_length M_fault M_failed M_signs M_signMany M_column M_loads M_many M_sums M_groups M_at M_told M_toldMany)) (wr := []) ⟨hx, hb, hml, hown, hts⟩ (c_X11_ofEntry l dC dI Y a M_g M_kept M_saved M_before M_isSaved M_changes M_isWithin M_code M_input M_length M_fault M_failed M_signs M_signMany M_column M_loads M_many M_sums M_groups M_at M_told M_toldMany x1 2 H.size r1 w2 hr3) (cwV 2 hts gX11_amountOf_X11_ofEntry rfl rfl rfl (by decide +kernel) ⟨Nat.le_of_ble_eq_true rfl, Nat.le_of_ble_eq_true rfl⟩) hK hP hD hS hA [0, 1, 2, 3, 4, 5, 6, 7, 8, 9, 10, 11] [] rfl rfl (by decide) (by decide) (by decide) (va_recv hK hP (ci := 11) (q0 := 0) rfl rfl) rfl hl.1 rfl (Nat.le_of_ble_eq_true rfl) dX11_amountOf_3 ⟨Nat.le_of_ble_eq_true rfl, Nat.le_of_ble_eq_true rfl⟩ (fun H locs hP hD hS => ?_)
  have hP : va_P (dC, dI) vwCl [(a 0, .inr (11, [.ref (a 1), .ref (a 2), .ref (a 3), .ref (a 4), .int M_isSaved, .int M_changes, .int M_isWithin, .int w2, .ref (a 5), .int M_length, .int M_fault, .int M_failed, .ref (a 6), .int M_signMany, .ref (a 7), .ref (a 8), .int M_many, .ref (a 9), .ref (a 10), .int M_at, .ref (a 11), .int M_toldMany])), (a 1, .inl (Y 0, 238, .inl M_g)), (a 2, .inl (Y 0, 1904, .inl M_kept)), (a 3, .inl (Y 0, 238, .inl M_saved)), (a 4, .inl (Y 0, 238, .inl M_before)), (a 5, .inl (Y 0, 60, .inl M_input)), (a 6, .inl (Y 2, 100, .inl M_signs)), (a 7, .inl (Y 0, 6, .inl M_column)), (a 8, .inl (Y 0, 6, .inl M_loads)), (a 9, .inl (Y 0, 2048, .inl M_sums)), (a 10, .inl (Y 0, 2048, .inl M_groups)), (a 11, .inl (Y 0, 155, .inl M_told))] H := hP
  have hD : va_D A [(a 0, .inr (11, [.ref (a 1), .ref (a 2), .ref (a 3), .ref (a 4), .int M_isSaved, .int M_changes, .int M_isWithin, .int w2, .ref (a 5), .int M_length, .int M_fault, .int M_failed, .ref (a 6), .int M_signMany, .ref (a 7), .ref (a 8), .int M_many, .ref (a 9), .ref (a 10), .int M_at, .ref (a 11), .int M_toldMany])), (a 1, .inl (Y 0, 238, .inl M_g)), (a 2, .inl (Y 0, 1904, .inl M_kept)), (a 3, .inl (Y 0, 238, .inl M_saved)), (a 4, .inl (Y 0, 238, .inl M_before)), (a 5, .inl (Y 0, 60, .inl M_input)), (a 6, .inl (Y 2, 100, .inl M_signs)), (a 7, .inl (Y 0, 6, .inl M_column)), (a 8, .inl (Y 0, 6, .inl M_loads)), (a 9, .inl (Y 0, 2048, .inl M_sums)), (a 10, .inl (Y 0, 2048, .inl M_groups)), (a 11, .inl (Y 0, 155, .inl M_told))] := hD
  obtain ⟨e0, e1⟩ := wke2 hf
  subst e0
  subst e1
  have hP9 := hP.sub (ws' := (wX11 Y a M_g M_kept M_saved M_before M_isSaved M_changes M_isWithin w2 M_input M_length M_fault M_failed M_signs M_signMany M_column M_loads M_many M_sums M_groups M_at M_told M_toldMany)) [0, 1, 2, 3, 4, 5, 6, 7, 8, 9, 10, 11] rfl
  have hD9 := hD.sub (ws' := (wX11 Y a M_g M_kept M_saved M_before M_isSaved M_changes M_isWithin w2 M_input M_length M_fault M_failed M_signs M_signMany M_column M_loads M_many M_sums M_groups M_at M_told M_toldMany)) [0, 1, 2, 3, 4, 5, 6, 7, 8, 9, 10, 11] (by decide) rfl
  exact W.iret (v := r1) hx hb hr (fun t ht hW => ⟨⟨r1, (), rfl, rfl, by rw [ht]; exact hP9, va_K.moved hW.alike hK, hD9⟩, hS.F ht⟩) hS.2.2 dX11_amountOf_6
theorem lk_X11_accountByBalance_RX11_7 : Cond.fieldLink RX11 7 "CircusLedgerModel" "g" "[I" ∈ wsX11_accountByBalance := by decide +kernel
theorem lk_X11_accountByBalance_RX11_51 : Cond.fieldLink RX11 51 "CircusLedgerModel" "code" "I" ∈ wsX11_accountByBalance := by decide +kernel
theorem in_X11_accountByBalance_X11 : ∀ w ∈ u_ws RX11 TX11 22, w ∈ wsX11_accountByBalance := by decide +kernel
def f_X11_accountByBalance_L22 (M_g : Nat → Int32) (x1 : Int32) (K11 : Int32 → Int32 → Int32 → Option (Int32 × Int32)) : Nat → Int32 → Int32 → Int32 → Int32 → Int32 → Option (Int32 × Int32)
  | 0, _, _, _, _, _ => none
  | nn + 1, x2, x3, x4, x5, M_code =>
    if x2 ≤ x5 then
      (if x4 = x1 then
        (some (x3, 0))
      else
        (K11 x2 (x3 + 1) M_code))
    else
      (gin (36 + x5) 238 (gin (36 + x3) 238 (if (M_g (36 + x3).toNatClampNeg) < (M_g (36 + x5).toNatClampNeg) then
        (f_X11_accountByBalance_L22 M_g x1 K11 nn x2 x3 (x4 + 1) (x5 + 1) M_code)
      else
        (gin (36 + x5) 238 (gin (36 + x3) 238 (if (M_g (36 + x5).toNatClampNeg) = (M_g (36 + x3).toNatClampNeg) then
          (if x3 ≤ x5 then
            (f_X11_accountByBalance_L22 M_g x1 K11 nn x2 x3 (x4 + 0) (x5 + 1) M_code)
          else
            (f_X11_accountByBalance_L22 M_g x1 K11 nn x2 x3 (x4 + 1) (x5 + 1) M_code))
        else
          (f_X11_accountByBalance_L22 M_g x1 K11 nn x2 x3 (x4 + 0) (x5 + 1) M_code)))))))
def f_X11_accountByBalance_L11 (M_g : Nat → Int32) (x1 : Int32) : Nat → Int32 → Int32 → Int32 → Option (Int32 × Int32)
  | 0, _, _, _ => none
  | nn + 1, x2, x3, M_code =>
    if x2 ≤ x3 then
      (some (0, 1))
    else
      (f_X11_accountByBalance_L22 M_g x1 (f_X11_accountByBalance_L11 M_g x1 nn) FU x2 x3 0 0 M_code)
def f_X11_accountByBalance (M_g : Nat → Int32) (M_code : Int32) (x1 : Int32) : Option (Int32 × Int32) :=
  f_X11_accountByBalance_L11 M_g x1 FU (5 + (M_g 0)) 0 M_code
set_option maxHeartbeats 4000000 in
set_option maxRecDepth 100000 in
theorem wl_X11_accountByBalance_L22 {p : Program} {l : Launch} {e : Env} {s : State} {m : MethodId} {args : Array Value} {below : List Frame} {meth : Method} {c : Code} {dC : Nat → ClassId} {dI : Nat → Nat → Nat} {Y : Nat → ClassId} {a : Nat → Nat} {M_g : Nat → Int32} {M_kept : Nat → Int32} {M_saved : Nat → Int32} {M_before : Nat → Int32} {M_isSaved : Int32} {M_changes : Int32} {M_isWithin : Int32} {M_input : Nat → Int32} {M_length : Int32} {M_fault : Int32} {M_failed : Int32} {M_signs : Nat → Int32} {M_signMany : Int32} {M_column : Nat → Int32} {M_loads : Nat → Int32} {M_many : Int32} {M_sums : Nat → Int32} {M_groups : Nat → Int32} {M_at : Int32} {M_told : Nat → Int32} {M_toldMany : Int32} {x1 : Int32} {r : Int32} {zM_code : Int32} {K11 : Int32 → Int32 → Int32 → Option (Int32 × Int32)} (C0 : wk_C p s m args meth c cX11_accountByBalance 6 (some .int) wsX11_accountByBalance RX11) {A : Nat → Prop} (hK : va_K (dC, dI) vwCl (vTy Y) s) (hA : ∀ q, s.heap.size ≤ q → A q) (hK11 : ∀ (x2 : Int32) (x3 : Int32) (M_code : Int32), K11 x2 x3 M_code = some (r, zM_code) → ∀ (H : Heap) (locs : List Loc), va_P (dC, dI) vwCl (wX11 Y a M_g M_kept M_saved M_before M_isSaved M_changes M_isWithin M_code M_input M_length M_fault M_failed M_signs M_signMany M_column M_loads M_many M_sums M_groups M_at M_told M_toldMany) H → va_D A (wX11 Y a M_g M_kept M_saved M_before M_isSaved M_changes M_isWithin M_code M_input M_length M_fault M_failed M_signs M_signMany M_column M_loads M_many M_sums M_groups M_at M_told M_toldMany) → va_S A s.heap H locs → ∀ (ls : Array Slot), lv_has ls 6 [(0, .ref (a 0)), (1, .int x1), (2, .int x2), (3, .int x3)] → W p l e (headSpec wsX11_accountByBalance ({ frames := 0, cells := 0, slots := 0, locals := 0 } : Room)).room s m args below meth c H locs 0 0 (MQ below (va_Qi (fun r2 (_ : Unit) => r2 = r) (fun _ t => wk_X (dC, dI) Y (wX11 Y a M_g M_kept M_saved M_before M_isSaved M_changes M_isWithin zM_code M_input M_length M_fault M_failed M_signs M_signMany M_column M_loads M_many M_sums M_groups M_at M_told M_toldMany) A t) A) args s 0 0 A) (F0 m 11 ls [])) : ∀ (nn : Nat) (x2 : Int32) (x3 : Int32) (x4 : Int32) (x5 : Int32)  (M_code : Int32), f_X11_accountByBalance_L22 M_g x1 K11 nn x2 x3 x4 x5 M_code = some (r, zM_code) → ∀ (H : Heap) (locs : List Loc), va_P (dC, dI) vwCl (wX11 Y a M_g M_kept M_saved M_before M_isSaved M_changes M_isWithin M_code M_input M_length M_fault M_failed M_signs M_signMany M_column M_loads M_many M_sums M_groups M_at M_told M_toldMany) H → va_D A (wX11 Y a M_g M_kept M_saved M_before M_isSaved M_changes M_isWithin M_code M_input M_length M_fault M_failed M_signs M_signMany M_column M_loads M_many M_sums M_groups M_at M_told M_toldMany) → va_S A s.heap H locs → ∀ (ls : Array Slot), lv_has ls 6 [(0, .ref (a 0)), (1, .int x1), (2, .int x2), (3, .int x3), (4, .int x4), (5, .int x5)] → W p l e (headSpec wsX11_accountByBalance ({ frames := 0, cells := 0, slots := 0, locals := 0 } : Room)).room s m args below meth c H locs 0 0 (MQ below (va_Qi (fun r2 (_ : Unit) => r2 = r) (fun _ t => wk_X (dC, dI) Y (wX11 Y a M_g M_kept M_saved M_before M_isSaved M_changes M_isWithin zM_code M_input M_length M_fault M_failed M_signs M_signMany M_column M_loads M_many M_sums M_groups M_at M_told M_toldMany) A t) A) args s 0 0 A) (F0 m 22 ls []) := by
  have C0 := C0
  obtain ⟨hx, hb, hml, hr, hlocks, hown, hts⟩ := id C0
  intro nn
  induction nn with
  | zero =>
    intro x2 x3 x4 x5 M_code hf
    rw [f_X11_accountByBalance_L22] at hf
    cases hf
  | succ nn ih =>
    intro x2 x3 x4 x5 M_code hf H locs hP hD hS ls hl
    rw [f_X11_accountByBalance_L22] at hf
    have hP : va_P (dC, dI) vwCl [(a 0, .inr (11, [.ref (a 1), .ref (a 2), .ref (a 3), .ref (a 4), .int M_isSaved, .int M_changes, .int M_isWithin, .int M_code, .ref (a 5), .int M_length, .int M_fault, .int M_failed, .ref (a 6), .int M_signMany, .ref (a 7), .ref (a 8), .int M_many, .ref (a 9), .ref (a 10), .int M_at, .ref (a 11), .int M_toldMany])), (a 1, .inl (Y 0, 238, .inl M_g)), (a 2, .inl (Y 0, 1904, .inl M_kept)), (a 3, .inl (Y 0, 238, .inl M_saved)), (a 4, .inl (Y 0, 238, .inl M_before)), (a 5, .inl (Y 0, 60, .inl M_input)), (a 6, .inl (Y 2, 100, .inl M_signs)), (a 7, .inl (Y 0, 6, .inl M_column)), (a 8, .inl (Y 0, 6, .inl M_loads)), (a 9, .inl (Y 0, 2048, .inl M_sums)), (a 10, .inl (Y 0, 2048, .inl M_groups)), (a 11, .inl (Y 0, 155, .inl M_told))] H := hP
    have hD : va_D A [(a 0, .inr (11, [.ref (a 1), .ref (a 2), .ref (a 3), .ref (a 4), .int M_isSaved, .int M_changes, .int M_isWithin, .int M_code, .ref (a 5), .int M_length, .int M_fault, .int M_failed, .ref (a 6), .int M_signMany, .ref (a 7), .ref (a 8), .int M_many, .ref (a 9), .ref (a 10), .int M_at, .ref (a 11), .int M_toldMany])), (a 1, .inl (Y 0, 238, .inl M_g)), (a 2, .inl (Y 0, 1904, .inl M_kept)), (a 3, .inl (Y 0, 238, .inl M_saved)), (a 4, .inl (Y 0, 238, .inl M_before)), (a 5, .inl (Y 0, 60, .inl M_input)), (a 6, .inl (Y 2, 100, .inl M_signs)), (a 7, .inl (Y 0, 6, .inl M_column)), (a 8, .inl (Y 0, 6, .inl M_loads)), (a 9, .inl (Y 0, 2048, .inl M_sums)), (a 10, .inl (Y 0, 2048, .inl M_groups)), (a 11, .inl (Y 0, 155, .inl M_told))] := hD
    refine lv_iload hx hb dX11_accountByBalance_22 (lv_at hl 5 rfl) ?_
    refine lv_iload_n hx hb dX11_accountByBalance_24 rfl (lv_at hl 2 rfl) ?_
    refine lv_icmp_ge (tgt := 94) hx hb dX11_accountByBalance_25 (by decide) (fun q1 => ?_) (fun q1 => ?_)
    · have hf := wk_t hf q1
      refine lv_iload hx hb dX11_accountByBalance_94 (lv_at hl 4 rfl) ?_
      refine lv_iload_n hx hb dX11_accountByBalance_96 rfl (lv_at hl 1 rfl) ?_
      refine lv_icmp_eq (tgt := 103) hx hb dX11_accountByBalance_97 (by decide) (fun q2 => ?_) (fun q2 => ?_)
      · have hf := wk_t hf q2
        refine lv_aload_n hx hb dX11_accountByBalance_103 rfl (lv_at hl 0 rfl) ?_
        refine lv_iconst (v := 0) hx hb dX11_accountByBalance_104 (by decide) ?_
        refine va_put (D := (dC, dI)) (ci := 11) (v := .int 0) (ty := .int) (C := RX11) (T := TX11) (N := 22) hx hb hts in_X11_accountByBalance_X11 tyX11 tyX11_ok nmX11 hown hK hP hD hS 0 rfl rfl 7 (by decide) (hts _ lk_X11_accountByBalance_RX11_51) (fun _ h9 => h9) rfl (by decide +kernel) rfl rfl (Nat.le_of_ble_eq_true rfl) dX11_accountByBalance_105 (fun H locs hP hD hS => ?_)
        have hP : va_P (dC, dI) vwCl [(a 0, .inr (11, [.ref (a 1), .ref (a 2), .ref (a 3), .ref (a 4), .int M_isSaved, .int M_changes, .int M_isWithin, .int 0, .ref (a 5), .int M_length, .int M_fault, .int M_failed, .ref (a 6), .int M_signMany, .ref (a 7), .ref (a 8), .int M_many, .ref (a 9), .ref (a 10), .int M_at, .ref (a 11), .int M_toldMany])), (a 1, .inl (Y 0, 238, .inl M_g)), (a 2, .inl (Y 0, 1904, .inl M_kept)), (a 3, .inl (Y 0, 238, .inl M_saved)), (a 4, .inl (Y 0, 238, .inl M_before)), (a 5, .inl (Y 0, 60, .inl M_input)), (a 6, .inl (Y 2, 100, .inl M_signs)), (a 7, .inl (Y 0, 6, .inl M_column)), (a 8, .inl (Y 0, 6, .inl M_loads)), (a 9, .inl (Y 0, 2048, .inl M_sums)), (a 10, .inl (Y 0, 2048, .inl M_groups)), (a 11, .inl (Y 0, 155, .inl M_told))] H := hP
        have hD : va_D A [(a 0, .inr (11, [.ref (a 1), .ref (a 2), .ref (a 3), .ref (a 4), .int M_isSaved, .int M_changes, .int M_isWithin, .int 0, .ref (a 5), .int M_length, .int M_fault, .int M_failed, .ref (a 6), .int M_signMany, .ref (a 7), .ref (a 8), .int M_many, .ref (a 9), .ref (a 10), .int M_at, .ref (a 11), .int M_toldMany])), (a 1, .inl (Y 0, 238, .inl M_g)), (a 2, .inl (Y 0, 1904, .inl M_kept)), (a 3, .inl (Y 0, 238, .inl M_saved)), (a 4, .inl (Y 0, 238, .inl M_before)), (a 5, .inl (Y 0, 60, .inl M_input)), (a 6, .inl (Y 2, 100, .inl M_signs)), (a 7, .inl (Y 0, 6, .inl M_column)), (a 8, .inl (Y 0, 6, .inl M_loads)), (a 9, .inl (Y 0, 2048, .inl M_sums)), (a 10, .inl (Y 0, 2048, .inl M_groups)), (a 11, .inl (Y 0, 155, .inl M_told))] := hD
        refine lv_iload_n hx hb dX11_accountByBalance_108 rfl (lv_at hl 3 rfl) ?_
        obtain ⟨e0, e1⟩ := wke2 hf
        subst e0
        subst e1
        have hP9 := hP.sub (ws' := (wX11 Y a M_g M_kept M_saved M_before M_isSaved M_changes M_isWithin 0 M_input M_length M_fault M_failed M_signs M_signMany M_column M_loads M_many M_sums M_groups M_at M_told M_toldMany)) [0, 1, 2, 3, 4, 5, 6, 7, 8, 9, 10, 11] rfl
        have hD9 := hD.sub (ws' := (wX11 Y a M_g M_kept M_saved M_before M_isSaved M_changes M_isWithin 0 M_input M_length M_fault M_failed M_signs M_signMany M_column M_loads M_many M_sums M_groups M_at M_told M_toldMany)) [0, 1, 2, 3, 4, 5, 6, 7, 8, 9, 10, 11] (by decide) rfl
        exact W.iret (v := x3) hx hb hr (fun t ht hW => ⟨⟨x3, (), rfl, rfl, by rw [ht]; exact hP9, va_K.moved hW.alike hK, hD9⟩, hS.F ht⟩) hS.2.2 dX11_accountByBalance_109
      · have hf := wk_f hf q2
        refine lv_goto (tgt := 110) hx hb dX11_accountByBalance_100 (by decide) ?_
        refine lv_iinc (v := (x3 + 1)) (lv' := [(3, .int (x3 + 1)), (0, .ref (a 0)), (1, .int x1), (2, .int x2), (4, .int x4), (5, .int x5)]) hx hb dX11_accountByBalance_110 hl (k := 3) rfl rfl (by decide) rfl (fun ls hl => ?_)
        refine lv_goto (tgt := 11) hx hb dX11_accountByBalance_113 (by decide) ?_
        exact hK11 x2 (x3 + 1) M_code hf H locs hP hD hS ls (lv_sub hl [1, 2, 3, 0] rfl)
    · have hf := wk_f hf q1
      refine lv_iload hx hb dX11_accountByBalance_28 (lv_at hl 4 rfl) ?_
      refine lv_aload_n hx hb dX11_accountByBalance_30 rfl (lv_at hl 0 rfl) ?_
      refine va_get (D := (dC, dI)) (ci := 11) (v := .ref (a 1)) (C := RX11) (T := TX11) (N := 22) hx hb hts in_X11_accountByBalance_X11 hown hK hP 0 rfl rfl 0 (by decide) (hts _ lk_X11_accountByBalance_RX11_7) (fun _ h9 => h9) rfl dX11_accountByBalance_31 ?_
      refine lv_bipush (v := 36) hx hb dX11_accountByBalance_34 (by decide) ?_
      refine lv_iload hx hb dX11_accountByBalance_36 (lv_at hl 5 rfl) ?_
      refine lv_iadd hx hb dX11_accountByBalance_38 ?_
      obtain ⟨h3, hf⟩ := gin_s hf
      refine wk_iald hx hb hK hP 1 0 rfl rfl h3 rfl dX11_accountByBalance_39 ?_
      refine lv_aload_n hx hb dX11_accountByBalance_40 rfl (lv_at hl 0 rfl) ?_
      refine va_get (D := (dC, dI)) (ci := 11) (v := .ref (a 1)) (C := RX11) (T := TX11) (N := 22) hx hb hts in_X11_accountByBalance_X11 hown hK hP 0 rfl rfl 0 (by decide) (hts _ lk_X11_accountByBalance_RX11_7) (fun _ h9 => h9) rfl dX11_accountByBalance_41 ?_
      refine lv_bipush (v := 36) hx hb dX11_accountByBalance_44 (by decide) ?_
      refine lv_iload_n hx hb dX11_accountByBalance_46 rfl (lv_at hl 3 rfl) ?_
      refine lv_iadd hx hb dX11_accountByBalance_47 ?_
      obtain ⟨h4, hf⟩ := gin_s hf
      refine wk_iald hx hb hK hP 1 0 rfl rfl h4 rfl dX11_accountByBalance_48 ?_
      refine lv_icmp_gt (tgt := 80) hx hb dX11_accountByBalance_49 (by decide) (fun q5 => ?_) (fun q5 => ?_)
      · have hf := wk_t hf q5
        refine lv_iconst (v := 1) hx hb dX11_accountByBalance_80 (by decide) ?_
        refine lv_goto (tgt := 85) hx hb dX11_accountByBalance_81 (by decide) ?_
        refine lv_iadd hx hb dX11_accountByBalance_85 ?_
        refine lv_istore (lv' := [(4, .int (x4 + 1)), (0, .ref (a 0)), (1, .int x1), (2, .int x2), (3, .int x3), (5, .int x5)]) hx hb dX11_accountByBalance_86 hl (by decide) rfl (fun ls hl => ?_)
        refine lv_iinc (v := (x5 + 1)) (lv' := [(5, .int (x5 + 1)), (4, .int (x4 + 1)), (0, .ref (a 0)), (1, .int x1), (2, .int x2), (3, .int x3)]) hx hb dX11_accountByBalance_88 hl (k := 5) rfl rfl (by decide) rfl (fun ls hl => ?_)
        refine lv_goto (tgt := 22) hx hb dX11_accountByBalance_91 (by decide) ?_
        exact ih x2 x3 (x4 + 1) (x5 + 1) M_code hf H locs hP hD hS ls (lv_sub hl [2, 3, 4, 5, 1, 0] rfl)
      · have hf := wk_f hf q5
        refine lv_aload_n hx hb dX11_accountByBalance_52 rfl (lv_at hl 0 rfl) ?_
        refine va_get (D := (dC, dI)) (ci := 11) (v := .ref (a 1)) (C := RX11) (T := TX11) (N := 22) hx hb hts in_X11_accountByBalance_X11 hown hK hP 0 rfl rfl 0 (by decide) (hts _ lk_X11_accountByBalance_RX11_7) (fun _ h9 => h9) rfl dX11_accountByBalance_53 ?_
        refine lv_bipush (v := 36) hx hb dX11_accountByBalance_56 (by decide) ?_
        refine lv_iload hx hb dX11_accountByBalance_58 (lv_at hl 5 rfl) ?_
        refine lv_iadd hx hb dX11_accountByBalance_60 ?_
        obtain ⟨h6, hf⟩ := gin_s hf
        refine wk_iald hx hb hK hP 1 0 rfl rfl h6 rfl dX11_accountByBalance_61 ?_
        refine lv_aload_n hx hb dX11_accountByBalance_62 rfl (lv_at hl 0 rfl) ?_
        refine va_get (D := (dC, dI)) (ci := 11) (v := .ref (a 1)) (C := RX11) (T := TX11) (N := 22) hx hb hts in_X11_accountByBalance_X11 hown hK hP 0 rfl rfl 0 (by decide) (hts _ lk_X11_accountByBalance_RX11_7) (fun _ h9 => h9) rfl dX11_accountByBalance_63 ?_
        refine lv_bipush (v := 36) hx hb dX11_accountByBalance_66 (by decide) ?_
        refine lv_iload_n hx hb dX11_accountByBalance_68 rfl (lv_at hl 3 rfl) ?_
        refine lv_iadd hx hb dX11_accountByBalance_69 ?_
        obtain ⟨h7, hf⟩ := gin_s hf
        refine wk_iald hx hb hK hP 1 0 rfl rfl h7 rfl dX11_accountByBalance_70 ?_
        refine lv_icmp_ne (tgt := 84) hx hb dX11_accountByBalance_71 (by decide) (fun q8 => ?_) (fun q8 => ?_)
        · have hf := wk_f hf q8
          refine lv_iconst (v := 0) hx hb dX11_accountByBalance_84 (by decide) ?_
          refine lv_iadd hx hb dX11_accountByBalance_85 ?_
          refine lv_istore (lv' := [(4, .int (x4 + 0)), (0, .ref (a 0)), (1, .int x1), (2, .int x2), (3, .int x3), (5, .int x5)]) hx hb dX11_accountByBalance_86 hl (by decide) rfl (fun ls hl => ?_)
          refine lv_iinc (v := (x5 + 1)) (lv' := [(5, .int (x5 + 1)), (4, .int (x4 + 0)), (0, .ref (a 0)), (1, .int x1), (2, .int x2), (3, .int x3)]) hx hb dX11_accountByBalance_88 hl (k := 5) rfl rfl (by decide) rfl (fun ls hl => ?_)
          refine lv_goto (tgt := 22) hx hb dX11_accountByBalance_91 (by decide) ?_
          exact ih x2 x3 (x4 + 0) (x5 + 1) M_code hf H locs hP hD hS ls (lv_sub hl [2, 3, 4, 5, 1, 0] rfl)
        · have hf := wk_t hf q8
          refine lv_iload hx hb dX11_accountByBalance_74 (lv_at hl 5 rfl) ?_
          refine lv_iload_n hx hb dX11_accountByBalance_76 rfl (lv_at hl 3 rfl) ?_
          refine lv_icmp_ge (tgt := 84) hx hb dX11_accountByBalance_77 (by decide) (fun q9 => ?_) (fun q9 => ?_)
          · have hf := wk_t hf q9
            refine lv_iconst (v := 0) hx hb dX11_accountByBalance_84 (by decide) ?_
            refine lv_iadd hx hb dX11_accountByBalance_85 ?_
            refine lv_istore (lv' := [(4, .int (x4 + 0)), (0, .ref (a 0)), (1, .int x1), (2, .int x2), (3, .int x3), (5, .int x5)]) hx hb dX11_accountByBalance_86 hl (by decide) rfl (fun ls hl => ?_)
            refine lv_iinc (v := (x5 + 1)) (lv' := [(5, .int (x5 + 1)), (4, .int (x4 + 0)), (0, .ref (a 0)), (1, .int x1), (2, .int x2), (3, .int x3)]) hx hb dX11_accountByBalance_88 hl (k := 5) rfl rfl (by decide) rfl (fun ls hl => ?_)
            refine lv_goto (tgt := 22) hx hb dX11_accountByBalance_91 (by decide) ?_
            exact ih x2 x3 (x4 + 0) (x5 + 1) M_code hf H locs hP hD hS ls (lv_sub hl [2, 3, 4, 5, 1, 0] rfl)
          · have hf := wk_f hf q9
            refine lv_iconst (v := 1) hx hb dX11_accountByBalance_80 (by decide) ?_
            refine lv_goto (tgt := 85) hx hb dX11_accountByBalance_81 (by decide) ?_
            refine lv_iadd hx hb dX11_accountByBalance_85 ?_
            refine lv_istore (lv' := [(4, .int (x4 + 1)), (0, .ref (a 0)), (1, .int x1), (2, .int x2), (3, .int x3), (5, .int x5)]) hx hb dX11_accountByBalance_86 hl (by decide) rfl (fun ls hl => ?_)
            refine lv_iinc (v := (x5 + 1)) (lv' := [(5, .int (x5 + 1)), (4, .int (x4 + 1)), (0, .ref (a 0)), (1, .int x1), (2, .int x2), (3, .int x3)]) hx hb dX11_accountByBalance_88 hl (k := 5) rfl rfl (by decide) rfl (fun ls hl => ?_)
            refine lv_goto (tgt := 22) hx hb dX11_accountByBalance_91 (by decide) ?_
            exact ih x2 x3 (x4 + 1) (x5 + 1) M_code hf H locs hP hD hS ls (lv_sub hl [2, 3, 4, 5, 1, 0] rfl)
set_option maxHeartbeats 4000000 in
set_option maxRecDepth 100000 in
theorem wl_X11_accountByBalance_L11 {p : Program} {l : Launch} {e : Env} {s : State} {m : MethodId} {args : Array Value} {below : List Frame} {meth : Method} {c : Code} {dC : Nat → ClassId} {dI : Nat → Nat → Nat} {Y : Nat → ClassId} {a : Nat → Nat} {M_g : Nat → Int32} {M_kept : Nat → Int32} {M_saved : Nat → Int32} {M_before : Nat → Int32} {M_isSaved : Int32} {M_changes : Int32} {M_isWithin : Int32} {M_input : Nat → Int32} {M_length : Int32} {M_fault : Int32} {M_failed : Int32} {M_signs : Nat → Int32} {M_signMany : Int32} {M_column : Nat → Int32} {M_loads : Nat → Int32} {M_many : Int32} {M_sums : Nat → Int32} {M_groups : Nat → Int32} {M_at : Int32} {M_told : Nat → Int32} {M_toldMany : Int32} {x1 : Int32} {r : Int32} {zM_code : Int32}  (C0 : wk_C p s m args meth c cX11_accountByBalance 6 (some .int) wsX11_accountByBalance RX11) {A : Nat → Prop} (hK : va_K (dC, dI) vwCl (vTy Y) s) (hA : ∀ q, s.heap.size ≤ q → A q) : ∀ (nn : Nat) (x2 : Int32) (x3 : Int32)  (M_code : Int32), f_X11_accountByBalance_L11 M_g x1 nn x2 x3 M_code = some (r, zM_code) → ∀ (H : Heap) (locs : List Loc), va_P (dC, dI) vwCl (wX11 Y a M_g M_kept M_saved M_before M_isSaved M_changes M_isWithin M_code M_input M_length M_fault M_failed M_signs M_signMany M_column M_loads M_many M_sums M_groups M_at M_told M_toldMany) H → va_D A (wX11 Y a M_g M_kept M_saved M_before M_isSaved M_changes M_isWithin M_code M_input M_length M_fault M_failed M_signs M_signMany M_column M_loads M_many M_sums M_groups M_at M_told M_toldMany) → va_S A s.heap H locs → ∀ (ls : Array Slot), lv_has ls 6 [(0, .ref (a 0)), (1, .int x1), (2, .int x2), (3, .int x3)] → W p l e (headSpec wsX11_accountByBalance ({ frames := 0, cells := 0, slots := 0, locals := 0 } : Room)).room s m args below meth c H locs 0 0 (MQ below (va_Qi (fun r2 (_ : Unit) => r2 = r) (fun _ t => wk_X (dC, dI) Y (wX11 Y a M_g M_kept M_saved M_before M_isSaved M_changes M_isWithin zM_code M_input M_length M_fault M_failed M_signs M_signMany M_column M_loads M_many M_sums M_groups M_at M_told M_toldMany) A t) A) args s 0 0 A) (F0 m 11 ls []) := by
  have C0 := C0
  obtain ⟨hx, hb, hml, hr, hlocks, hown, hts⟩ := id C0
  intro nn
  induction nn with
  | zero =>
    intro x2 x3 M_code hf
    rw [f_X11_accountByBalance_L11] at hf
    cases hf
  | succ nn ih =>
    intro x2 x3 M_code hf H locs hP hD hS ls hl
    rw [f_X11_accountByBalance_L11] at hf
    have hP : va_P (dC, dI) vwCl [(a 0, .inr (11, [.ref (a 1), .ref (a 2), .ref (a 3), .ref (a 4), .int M_isSaved, .int M_changes, .int M_isWithin, .int M_code, .ref (a 5), .int M_length, .int M_fault, .int M_failed, .ref (a 6), .int M_signMany, .ref (a 7), .ref (a 8), .int M_many, .ref (a 9), .ref (a 10), .int M_at, .ref (a 11), .int M_toldMany])), (a 1, .inl (Y 0, 238, .inl M_g)), (a 2, .inl (Y 0, 1904, .inl M_kept)), (a 3, .inl (Y 0, 238, .inl M_saved)), (a 4, .inl (Y 0, 238, .inl M_before)), (a 5, .inl (Y 0, 60, .inl M_input)), (a 6, .inl (Y 2, 100, .inl M_signs)), (a 7, .inl (Y 0, 6, .inl M_column)), (a 8, .inl (Y 0, 6, .inl M_loads)), (a 9, .inl (Y 0, 2048, .inl M_sums)), (a 10, .inl (Y 0, 2048, .inl M_groups)), (a 11, .inl (Y 0, 155, .inl M_told))] H := hP
    have hD : va_D A [(a 0, .inr (11, [.ref (a 1), .ref (a 2), .ref (a 3), .ref (a 4), .int M_isSaved, .int M_changes, .int M_isWithin, .int M_code, .ref (a 5), .int M_length, .int M_fault, .int M_failed, .ref (a 6), .int M_signMany, .ref (a 7), .ref (a 8), .int M_many, .ref (a 9), .ref (a 10), .int M_at, .ref (a 11), .int M_toldMany])), (a 1, .inl (Y 0, 238, .inl M_g)), (a 2, .inl (Y 0, 1904, .inl M_kept)), (a 3, .inl (Y 0, 238, .inl M_saved)), (a 4, .inl (Y 0, 238, .inl M_before)), (a 5, .inl (Y 0, 60, .inl M_input)), (a 6, .inl (Y 2, 100, .inl M_signs)), (a 7, .inl (Y 0, 6, .inl M_column)), (a 8, .inl (Y 0, 6, .inl M_loads)), (a 9, .inl (Y 0, 2048, .inl M_sums)), (a 10, .inl (Y 0, 2048, .inl M_groups)), (a 11, .inl (Y 0, 155, .inl M_told))] := hD
    refine lv_iload_n hx hb dX11_accountByBalance_11 rfl (lv_at hl 3 rfl) ?_
    refine lv_iload_n hx hb dX11_accountByBalance_12 rfl (lv_at hl 2 rfl) ?_
    refine lv_icmp_ge (tgt := 116) hx hb dX11_accountByBalance_13 (by decide) (fun q1 => ?_) (fun q1 => ?_)
    · have hf := wk_t hf q1
      refine lv_aload_n hx hb dX11_accountByBalance_116 rfl (lv_at hl 0 rfl) ?_
      refine lv_iconst (v := 1) hx hb dX11_accountByBalance_117 (by decide) ?_
      refine va_put (D := (dC, dI)) (ci := 11) (v := .int 1) (ty := .int) (C := RX11) (T := TX11) (N := 22) hx hb hts in_X11_accountByBalance_X11 tyX11 tyX11_ok nmX11 hown hK hP hD hS 0 rfl rfl 7 (by decide) (hts _ lk_X11_accountByBalance_RX11_51) (fun _ h9 => h9) rfl (by decide +kernel) rfl rfl (Nat.le_of_ble_eq_true rfl) dX11_accountByBalance_118 (fun H locs hP hD hS => ?_)
      have hP : va_P (dC, dI) vwCl [(a 0, .inr (11, [.ref (a 1), .ref (a 2), .ref (a 3), .ref (a 4), .int M_isSaved, .int M_changes, .int M_isWithin, .int 1, .ref (a 5), .int M_length, .int M_fault, .int M_failed, .ref (a 6), .int M_signMany, .ref (a 7), .ref (a 8), .int M_many, .ref (a 9), .ref (a 10), .int M_at, .ref (a 11), .int M_toldMany])), (a 1, .inl (Y 0, 238, .inl M_g)), (a 2, .inl (Y 0, 1904, .inl M_kept)), (a 3, .inl (Y 0, 238, .inl M_saved)), (a 4, .inl (Y 0, 238, .inl M_before)), (a 5, .inl (Y 0, 60, .inl M_input)), (a 6, .inl (Y 2, 100, .inl M_signs)), (a 7, .inl (Y 0, 6, .inl M_column)), (a 8, .inl (Y 0, 6, .inl M_loads)), (a 9, .inl (Y 0, 2048, .inl M_sums)), (a 10, .inl (Y 0, 2048, .inl M_groups)), (a 11, .inl (Y 0, 155, .inl M_told))] H := hP
      have hD : va_D A [(a 0, .inr (11, [.ref (a 1), .ref (a 2), .ref (a 3), .ref (a 4), .int M_isSaved, .int M_changes, .int M_isWithin, .int 1, .ref (a 5), .int M_length, .int M_fault, .int M_failed, .ref (a 6), .int M_signMany, .ref (a 7), .ref (a 8), .int M_many, .ref (a 9), .ref (a 10), .int M_at, .ref (a 11), .int M_toldMany])), (a 1, .inl (Y 0, 238, .inl M_g)), (a 2, .inl (Y 0, 1904, .inl M_kept)), (a 3, .inl (Y 0, 238, .inl M_saved)), (a 4, .inl (Y 0, 238, .inl M_before)), (a 5, .inl (Y 0, 60, .inl M_input)), (a 6, .inl (Y 2, 100, .inl M_signs)), (a 7, .inl (Y 0, 6, .inl M_column)), (a 8, .inl (Y 0, 6, .inl M_loads)), (a 9, .inl (Y 0, 2048, .inl M_sums)), (a 10, .inl (Y 0, 2048, .inl M_groups)), (a 11, .inl (Y 0, 155, .inl M_told))] := hD
      refine lv_iconst (v := 0) hx hb dX11_accountByBalance_121 (by decide) ?_
      obtain ⟨e0, e1⟩ := wke2 hf
      subst e0
      subst e1
      have hP9 := hP.sub (ws' := (wX11 Y a M_g M_kept M_saved M_before M_isSaved M_changes M_isWithin 1 M_input M_length M_fault M_failed M_signs M_signMany M_column M_loads M_many M_sums M_groups M_at M_told M_toldMany)) [0, 1, 2, 3, 4, 5, 6, 7, 8, 9, 10, 11] rfl
      have hD9 := hD.sub (ws' := (wX11 Y a M_g M_kept M_saved M_before M_isSaved M_changes M_isWithin 1 M_input M_length M_fault M_failed M_signs M_signMany M_column M_loads M_many M_sums M_groups M_at M_told M_toldMany)) [0, 1, 2, 3, 4, 5, 6, 7, 8, 9, 10, 11] (by decide) rfl
      exact W.iret (v := 0) hx hb hr (fun t ht hW => ⟨⟨0, (), rfl, rfl, by rw [ht]; exact hP9, va_K.moved hW.alike hK, hD9⟩, hS.F ht⟩) hS.2.2 dX11_accountByBalance_122
    · have hf := wk_f hf q1
      refine lv_iconst (v := 0) hx hb dX11_accountByBalance_16 (by decide) ?_
      refine lv_istore (lv' := [(4, .int 0), (0, .ref (a 0)), (1, .int x1), (2, .int x2), (3, .int x3)]) hx hb dX11_accountByBalance_17 hl (by decide) rfl (fun ls hl => ?_)
      refine lv_iconst (v := 0) hx hb dX11_accountByBalance_19 (by decide) ?_
      refine lv_istore (lv' := [(5, .int 0), (4, .int 0), (0, .ref (a 0)), (1, .int x1), (2, .int x2), (3, .int x3)]) hx hb dX11_accountByBalance_20 hl (by decide) rfl (fun ls hl => ?_)
      exact wl_X11_accountByBalance_L22 C0 hK hA ih FU x2 x3 0 0 M_code hf H locs hP hD hS ls (lv_sub hl [2, 3, 4, 5, 1, 0] rfl)
set_option maxHeartbeats 4000000 in
set_option maxRecDepth 100000 in
theorem c_X11_accountByBalance (l : Launch) (dC : Nat → ClassId) (dI : Nat → Nat → Nat) (Y : Nat → ClassId) (a : Nat → Nat) (M_g : Nat → Int32) (M_kept : Nat → Int32) (M_saved : Nat → Int32) (M_before : Nat → Int32) (M_isSaved : Int32) (M_changes : Int32) (M_isWithin : Int32) (M_code : Int32) (M_input : Nat → Int32) (M_length : Int32) (M_fault : Int32) (M_failed : Int32) (M_signs : Nat → Int32) (M_signMany : Int32) (M_column : Nat → Int32) (M_loads : Nat → Int32) (M_many : Int32) (M_sums : Nat → Int32) (M_groups : Nat → Int32) (M_at : Int32) (M_told : Nat → Int32) (M_toldMany : Int32) (x1 : Int32) (sz : Nat) (r : Int32) (zM_code : Int32) (hf : f_X11_accountByBalance M_g M_code x1 = some (r, zM_code)) : Met l yX11_accountByBalance wsX11_accountByBalance ({ frames := 0, cells := 0, slots := 0, locals := 0 } : Room) (va_Pc [.ref (a 0), .int x1] (wk_E (dC, dI) Y (wX11 Y a M_g M_kept M_saved M_before M_isSaved M_changes M_isWithin M_code M_input M_length M_fault M_failed M_signs M_signMany M_column M_loads M_many M_sums M_groups M_at M_told M_toldMany) sz)) (va_Qi (fun r2 (_ : Unit) => r2 = r) (fun _ t => wk_X (dC, dI) Y (wX11 Y a M_g M_kept M_saved M_before M_isSaved M_changes M_isWithin zM_code M_input M_length M_fault M_failed M_signs M_signMany M_column M_loads M_many M_sums M_groups M_at M_told M_toldMany) (va_A (wX11 Y a M_g M_kept M_saved M_before M_isSaved M_changes M_isWithin M_code M_input M_length M_fault M_failed M_signs M_signMany M_column M_loads M_many M_sums M_groups M_at M_told M_toldMany) sz) t) (va_A (wX11 Y a M_g M_kept M_saved M_before M_isSaved M_changes M_isWithin M_code M_input M_length M_fault M_failed M_signs M_signMany M_column M_loads M_many M_sums M_groups M_at M_told M_toldMany) sz)) 0 0 (va_A (wX11 Y a M_g M_kept M_saved M_before M_isSaved M_changes M_isWithin M_code M_input M_length M_fault M_failed M_signs M_signMany M_column M_loads M_many M_sums M_groups M_at M_told M_toldMany) sz) := by
  refine Met.ofW (cc := cX11_accountByBalance) (maxL := 6) (ret := (some .int)) (by decide) rfl ?_
  intro p e s m args below meth c s₁ B hml hv
  obtain ⟨rfl, hsz, hP, hK, hD0⟩ := hv
  have hx := B.exec
  have hb := B.bytes
  have hr := B.returns
  have hts := atoms_spec (ws := wsX11_accountByBalance) B.pre
  have hown : s.vm.findClass RX11 = some m.cls := findClass_of_methodNamed B.named
  have hlocks := B.notSynchronized
  have C0 : wk_C p s m _ meth c cX11_accountByBalance 6 (some .int) wsX11_accountByBalance RX11 := ⟨hx, hb, hml, hr, hlocks, hown, hts⟩
  subst hsz
  have hD := hD0.self (sz := s.heap.size)
  generalize hAe : va_A (wX11 Y a M_g M_kept M_saved M_before M_isSaved M_changes M_isWithin M_code M_input M_length M_fault M_failed M_signs M_signMany M_column M_loads M_many M_sums M_groups M_at M_told M_toldMany) s.heap.size = A at hD ⊢
  have hA : ∀ q : Nat, s.heap.size ≤ q → A q := fun q h => by rw [← hAe]; exact Or.inr h
  have hS : va_S A s.heap s.heap [] := va_S.rf
  obtain ⟨H, hHe⟩ : ∃ H, H = s.heap := ⟨_, rfl⟩
  have hS : va_S A s.heap H [] := by rw [hHe]; exact hS
  have hP : va_P (dC, dI) vwCl [(a 0, .inr (11, [.ref (a 1), .ref (a 2), .ref (a 3), .ref (a 4), .int M_isSaved, .int M_changes, .int M_isWithin, .int M_code, .ref (a 5), .int M_length, .int M_fault, .int M_failed, .ref (a 6), .int M_signMany, .ref (a 7), .ref (a 8), .int M_many, .ref (a 9), .ref (a 10), .int M_at, .ref (a 11), .int M_toldMany])), (a 1, .inl (Y 0, 238, .inl M_g)), (a 2, .inl (Y 0, 1904, .inl M_kept)), (a 3, .inl (Y 0, 238, .inl M_saved)), (a 4, .inl (Y 0, 238, .inl M_before)), (a 5, .inl (Y 0, 60, .inl M_input)), (a 6, .inl (Y 2, 100, .inl M_signs)), (a 7, .inl (Y 0, 6, .inl M_column)), (a 8, .inl (Y 0, 6, .inl M_loads)), (a 9, .inl (Y 0, 2048, .inl M_sums)), (a 10, .inl (Y 0, 2048, .inl M_groups)), (a 11, .inl (Y 0, 155, .inl M_told))] H := by rw [hHe]; exact hP
  have hD : va_D A [(a 0, .inr (11, [.ref (a 1), .ref (a 2), .ref (a 3), .ref (a 4), .int M_isSaved, .int M_changes, .int M_isWithin, .int M_code, .ref (a 5), .int M_length, .int M_fault, .int M_failed, .ref (a 6), .int M_signMany, .ref (a 7), .ref (a 8), .int M_many, .ref (a 9), .ref (a 10), .int M_at, .ref (a 11), .int M_toldMany])), (a 1, .inl (Y 0, 238, .inl M_g)), (a 2, .inl (Y 0, 1904, .inl M_kept)), (a 3, .inl (Y 0, 238, .inl M_saved)), (a 4, .inl (Y 0, 238, .inl M_before)), (a 5, .inl (Y 0, 60, .inl M_input)), (a 6, .inl (Y 2, 100, .inl M_signs)), (a 7, .inl (Y 0, 6, .inl M_column)), (a 8, .inl (Y 0, 6, .inl M_loads)), (a 9, .inl (Y 0, 2048, .inl M_sums)), (a 10, .inl (Y 0, 2048, .inl M_groups)), (a 11, .inl (Y 0, 155, .inl M_told))] := hD
  obtain ⟨locs, hlo⟩ : ∃ locs : List Loc, locs = [] := ⟨_, rfl⟩
  have hS : va_S A s.heap H locs := by rw [hlo]; exact hS
  have hl := lv_entry ([.ref (a 0), .int x1]) (n := 6) (Nat.le_of_ble_eq_true rfl)
  rw [lg_entry_eq]
  generalize (lg_sl ([.ref (a 0), .int x1]) ++ List.replicate (6 - (lg_sl ([.ref (a 0), .int x1])).length) Slot.unset).toArray = ls at hl ⊢
  have hl : lv_has ls 6 [(0, .ref (a 0)), (1, .int x1)] := hl
  refine wk_start hHe hlo ?_
  rw [f_X11_accountByBalance] at hf
  refine lv_iconst (v := 5) hx hb dX11_accountByBalance_0 (by decide) ?_
  refine lv_aload_n hx hb dX11_accountByBalance_1 rfl (lv_at hl 0 rfl) ?_
  refine va_get (D := (dC, dI)) (ci := 11) (v := .ref (a 1)) (C := RX11) (T := TX11) (N := 22) hx hb hts in_X11_accountByBalance_X11 hown hK hP 0 rfl rfl 0 (by decide) (hts _ lk_X11_accountByBalance_RX11_7) (fun _ h9 => h9) rfl dX11_accountByBalance_2 ?_
  refine lv_iconst (v := 0) hx hb dX11_accountByBalance_5 (by decide) ?_
  refine wk_iald hx hb hK hP 1 0 (k := 0) rfl rfl (vp_lit (by decide)) (by decide) dX11_accountByBalance_6 ?_
  refine lv_iadd hx hb dX11_accountByBalance_7 ?_
  refine lv_istore_n (lv' := [(2, .int (5 + (M_g 0))), (0, .ref (a 0)), (1, .int x1)]) hx hb dX11_accountByBalance_8 rfl hl (by decide) rfl (fun ls hl => ?_)
  refine lv_iconst (v := 0) hx hb dX11_accountByBalance_9 (by decide) ?_
  refine lv_istore_n (lv' := [(3, .int 0), (2, .int (5 + (M_g 0))), (0, .ref (a 0)), (1, .int x1)]) hx hb dX11_accountByBalance_10 rfl hl (by decide) rfl (fun ls hl => ?_)
  exact wl_X11_accountByBalance_L11 C0 hK hA FU (5 + (M_g 0)) 0 M_code hf H locs hP hD hS ls (lv_sub hl [2, 3, 1, 0] rfl)
theorem lk_X11_settles_RX11_7 : Cond.fieldLink RX11 7 "CircusLedgerModel" "g" "[I" ∈ wsX11_settles := by decide +kernel
theorem lk_X11_settles_RX11_42 : Cond.fieldLink RX11 42 "CircusLedgerModel" "sums" "[I" ∈ wsX11_settles := by decide +kernel
theorem lk_X11_settles_RX11_45 : Cond.fieldLink RX11 45 "CircusLedgerModel" "groups" "[I" ∈ wsX11_settles := by decide +kernel
theorem in_X11_settles_X11 : ∀ w ∈ u_ws RX11 TX11 22, w ∈ wsX11_settles := by decide +kernel
def f_X11_settles_L73 (M_g : Nat → Int32) (K60 : Int32 → Int32 → Int32 → (Nat → Int32) → (Nat → Int32) → Option (Int32 × (Nat → Int32) × (Nat → Int32))) : Nat → Int32 → Int32 → Int32 → Int32 → Int32 → (Nat → Int32) → (Nat → Int32) → Option (Int32 × (Nat → Int32) × (Nat → Int32))
  | 0, _, _, _, _, _, _, _ => none
  | nn + 1, x1, x2, x3, x4, x5, M_sums, M_groups =>
    if x1 ≤ x5 then
      (gin x3 2048 (wkl (upd M_groups x3.toNatClampNeg x4) (fun g2 =>
      K60 x1 x2 (x3 + 1) M_sums g2)))
    else
      (if ((x3 >>> (x5 &&& 31)) &&& 1) = 0 then
        (f_X11_settles_L73 M_g K60 nn x1 x2 x3 x4 (x5 + 1) M_sums M_groups)
      else
        (gin (x3 ^^^ ((1 : Int32) <<< (x5 &&& 31))) 2048 (gin (36 + x5) 238 (wkl (((M_sums (x3 ^^^ ((1 : Int32) <<< (x5 &&& 31))).toNatClampNeg) + (M_g (36 + x5).toNatClampNeg))) (fun v7 =>
        gin x3 2048 (wkl (upd M_sums x3.toNatClampNeg v7) (fun g8 =>
        gin (x3 ^^^ ((1 : Int32) <<< (x5 &&& 31))) 2048 (gin x3 2048 (if (g8 x3.toNatClampNeg) = 0 then
          (gin (36 + x5) 238 (if (M_g (36 + x5).toNatClampNeg) = 0 then
            (wkl (((M_groups (x3 ^^^ ((1 : Int32) <<< (x5 &&& 31))).toNatClampNeg) + 0)) (fun v17 =>
            if v17 ≤ x4 then
              (f_X11_settles_L73 M_g K60 nn x1 x2 x3 x4 (x5 + 1) g8 M_groups)
            else
              (f_X11_settles_L73 M_g K60 nn x1 x2 x3 v17 (x5 + 1) g8 M_groups)))
          else
            (wkl (((M_groups (x3 ^^^ ((1 : Int32) <<< (x5 &&& 31))).toNatClampNeg) + 1)) (fun v19 =>
            if v19 ≤ x4 then
              (f_X11_settles_L73 M_g K60 nn x1 x2 x3 x4 (x5 + 1) g8 M_groups)
            else
              (f_X11_settles_L73 M_g K60 nn x1 x2 x3 v19 (x5 + 1) g8 M_groups)))))
        else
          (wkl (((M_groups (x3 ^^^ ((1 : Int32) <<< (x5 &&& 31))).toNatClampNeg) + 0)) (fun v13 =>
          if v13 ≤ x4 then
            (f_X11_settles_L73 M_g K60 nn x1 x2 x3 x4 (x5 + 1) g8 M_groups)
          else
            (f_X11_settles_L73 M_g K60 nn x1 x2 x3 v13 (x5 + 1) g8 M_groups))))))))))))
def f_X11_settles_L60 (M_g : Nat → Int32) : Nat → Int32 → Int32 → Int32 → (Nat → Int32) → (Nat → Int32) → Option (Int32 × (Nat → Int32) × (Nat → Int32))
  | 0, _, _, _, _, _ => none
  | nn + 1, x1, x2, x3, M_sums, M_groups =>
    if ((1 : Int32) <<< (x1 &&& 31)) ≤ x3 then
      (gin (((1 : Int32) <<< (x1 &&& 31)) - 1) 2048 (some ((x2 - (M_groups (((1 : Int32) <<< (x1 &&& 31)) - 1).toNatClampNeg)), M_sums, M_groups)))
    else
      (f_X11_settles_L73 M_g (f_X11_settles_L60 M_g nn) FU x1 x2 x3 0 0 M_sums M_groups)
def f_X11_settles_L13 (M_g : Nat → Int32) : Nat → Int32 → Int32 → Int32 → (Nat → Int32) → (Nat → Int32) → Option (Int32 × (Nat → Int32) × (Nat → Int32))
  | 0, _, _, _, _, _ => none
  | nn + 1, x1, x2, x3, M_sums, M_groups =>
    if x1 ≤ x3 then
      (wkl (upd M_sums 0 0) (fun g2 =>
      wkl (upd M_groups 0 0) (fun g3 =>
      f_X11_settles_L60 M_g FU x1 x2 1 g2 g3)))
    else
      (gin (36 + x3) 238 (if (M_g (36 + x3).toNatClampNeg) = 0 then
        (f_X11_settles_L13 M_g nn x1 (x2 + 0) (x3 + 1) M_sums M_groups)
      else
        (f_X11_settles_L13 M_g nn x1 (x2 + 1) (x3 + 1) M_sums M_groups)))
def f_X11_settles (M_g : Nat → Int32) (M_sums : Nat → Int32) (M_groups : Nat → Int32) : Option (Int32 × (Nat → Int32) × (Nat → Int32)) :=
  f_X11_settles_L13 M_g FU (5 + (M_g 0)) 0 0 M_sums M_groups
set_option maxHeartbeats 4000000 in
set_option maxRecDepth 100000 in
theorem wl_X11_settles_L73 {p : Program} {l : Launch} {e : Env} {s : State} {m : MethodId} {args : Array Value} {below : List Frame} {meth : Method} {c : Code} {dC : Nat → ClassId} {dI : Nat → Nat → Nat} {Y : Nat → ClassId} {a : Nat → Nat} {M_g : Nat → Int32} {M_kept : Nat → Int32} {M_saved : Nat → Int32} {M_before : Nat → Int32} {M_isSaved : Int32} {M_changes : Int32} {M_isWithin : Int32} {M_code : Int32} {M_input : Nat → Int32} {M_length : Int32} {M_fault : Int32} {M_failed : Int32} {M_signs : Nat → Int32} {M_signMany : Int32} {M_column : Nat → Int32} {M_loads : Nat → Int32} {M_many : Int32} {M_at : Int32} {M_told : Nat → Int32} {M_toldMany : Int32}  {r : Int32} {zM_sums : Nat → Int32} {zM_groups : Nat → Int32} {K60 : Int32 → Int32 → Int32 → (Nat → Int32) → (Nat → Int32) → Option (Int32 × (Nat → Int32) × (Nat → Int32))} (C0 : wk_C p s m args meth c cX11_settles 8 (some .int) wsX11_settles RX11) {A : Nat → Prop} (hK : va_K (dC, dI) vwCl (vTy Y) s) (hA : ∀ q, s.heap.size ≤ q → A q) (hK60 : ∀ (x1 : Int32) (x2 : Int32) (x3 : Int32) (M_sums : Nat → Int32) (M_groups : Nat → Int32), K60 x1 x2 x3 M_sums M_groups = some (r, zM_sums, zM_groups) → ∀ (H : Heap) (locs : List Loc), va_P (dC, dI) vwCl (wX11 Y a M_g M_kept M_saved M_before M_isSaved M_changes M_isWithin M_code M_input M_length M_fault M_failed M_signs M_signMany M_column M_loads M_many M_sums M_groups M_at M_told M_toldMany) H → va_D A (wX11 Y a M_g M_kept M_saved M_before M_isSaved M_changes M_isWithin M_code M_input M_length M_fault M_failed M_signs M_signMany M_column M_loads M_many M_sums M_groups M_at M_told M_toldMany) → va_S A s.heap H locs → ∀ (ls : Array Slot), lv_has ls 8 [(0, .ref (a 0)), (1, .int x1), (2, .int x2), (3, .int x3)] → W p l e (headSpec wsX11_settles ({ frames := 0, cells := 0, slots := 0, locals := 0 } : Room)).room s m args below meth c H locs 0 0 (MQ below (va_Qi (fun r2 (_ : Unit) => r2 = r) (fun _ t => wk_X (dC, dI) Y (wX11 Y a M_g M_kept M_saved M_before M_isSaved M_changes M_isWithin M_code M_input M_length M_fault M_failed M_signs M_signMany M_column M_loads M_many zM_sums zM_groups M_at M_told M_toldMany) A t) A) args s 0 0 A) (F0 m 60 ls [])) : ∀ (nn : Nat) (x1 : Int32) (x2 : Int32) (x3 : Int32) (x4 : Int32) (x5 : Int32)  (M_sums : Nat → Int32) (M_groups : Nat → Int32), f_X11_settles_L73 M_g K60 nn x1 x2 x3 x4 x5 M_sums M_groups = some (r, zM_sums, zM_groups) → ∀ (H : Heap) (locs : List Loc), va_P (dC, dI) vwCl (wX11 Y a M_g M_kept M_saved M_before M_isSaved M_changes M_isWithin M_code M_input M_length M_fault M_failed M_signs M_signMany M_column M_loads M_many M_sums M_groups M_at M_told M_toldMany) H → va_D A (wX11 Y a M_g M_kept M_saved M_before M_isSaved M_changes M_isWithin M_code M_input M_length M_fault M_failed M_signs M_signMany M_column M_loads M_many M_sums M_groups M_at M_told M_toldMany) → va_S A s.heap H locs → ∀ (ls : Array Slot), lv_has ls 8 [(0, .ref (a 0)), (1, .int x1), (2, .int x2), (3, .int x3), (4, .int x4), (5, .int x5)] → W p l e (headSpec wsX11_settles ({ frames := 0, cells := 0, slots := 0, locals := 0 } : Room)).room s m args below meth c H locs 0 0 (MQ below (va_Qi (fun r2 (_ : Unit) => r2 = r) (fun _ t => wk_X (dC, dI) Y (wX11 Y a M_g M_kept M_saved M_before M_isSaved M_changes M_isWithin M_code M_input M_length M_fault M_failed M_signs M_signMany M_column M_loads M_many zM_sums zM_groups M_at M_told M_toldMany) A t) A) args s 0 0 A) (F0 m 73 ls []) := by
  have C0 := C0
  obtain ⟨hx, hb, hml, hr, hlocks, hown, hts⟩ := id C0
  intro nn
  induction nn with
  | zero =>
    intro x1 x2 x3 x4 x5 M_sums M_groups hf
    rw [f_X11_settles_L73] at hf
    cases hf
  | succ nn ih =>
    intro x1 x2 x3 x4 x5 M_sums M_groups hf H locs hP hD hS ls hl
    rw [f_X11_settles_L73] at hf
    have hP : va_P (dC, dI) vwCl [(a 0, .inr (11, [.ref (a 1), .ref (a 2), .ref (a 3), .ref (a 4), .int M_isSaved, .int M_changes, .int M_isWithin, .int M_code, .ref (a 5), .int M_length, .int M_fault, .int M_failed, .ref (a 6), .int M_signMany, .ref (a 7), .ref (a 8), .int M_many, .ref (a 9), .ref (a 10), .int M_at, .ref (a 11), .int M_toldMany])), (a 1, .inl (Y 0, 238, .inl M_g)), (a 2, .inl (Y 0, 1904, .inl M_kept)), (a 3, .inl (Y 0, 238, .inl M_saved)), (a 4, .inl (Y 0, 238, .inl M_before)), (a 5, .inl (Y 0, 60, .inl M_input)), (a 6, .inl (Y 2, 100, .inl M_signs)), (a 7, .inl (Y 0, 6, .inl M_column)), (a 8, .inl (Y 0, 6, .inl M_loads)), (a 9, .inl (Y 0, 2048, .inl M_sums)), (a 10, .inl (Y 0, 2048, .inl M_groups)), (a 11, .inl (Y 0, 155, .inl M_told))] H := hP
    have hD : va_D A [(a 0, .inr (11, [.ref (a 1), .ref (a 2), .ref (a 3), .ref (a 4), .int M_isSaved, .int M_changes, .int M_isWithin, .int M_code, .ref (a 5), .int M_length, .int M_fault, .int M_failed, .ref (a 6), .int M_signMany, .ref (a 7), .ref (a 8), .int M_many, .ref (a 9), .ref (a 10), .int M_at, .ref (a 11), .int M_toldMany])), (a 1, .inl (Y 0, 238, .inl M_g)), (a 2, .inl (Y 0, 1904, .inl M_kept)), (a 3, .inl (Y 0, 238, .inl M_saved)), (a 4, .inl (Y 0, 238, .inl M_before)), (a 5, .inl (Y 0, 60, .inl M_input)), (a 6, .inl (Y 2, 100, .inl M_signs)), (a 7, .inl (Y 0, 6, .inl M_column)), (a 8, .inl (Y 0, 6, .inl M_loads)), (a 9, .inl (Y 0, 2048, .inl M_sums)), (a 10, .inl (Y 0, 2048, .inl M_groups)), (a 11, .inl (Y 0, 155, .inl M_told))] := hD
    refine lv_iload hx hb dX11_settles_73 (lv_at hl 5 rfl) ?_
    refine lv_iload_n hx hb dX11_settles_75 rfl (lv_at hl 1 rfl) ?_
    refine lv_icmp_ge (tgt := 177) hx hb dX11_settles_76 (by decide) (fun q1 => ?_) (fun q1 => ?_)
    · have hf := wk_t hf q1
      refine lv_aload_n hx hb dX11_settles_177 rfl (lv_at hl 0 rfl) ?_
      refine va_get (D := (dC, dI)) (ci := 11) (v := .ref (a 10)) (C := RX11) (T := TX11) (N := 22) hx hb hts in_X11_settles_X11 hown hK hP 0 rfl rfl 18 (by decide) (hts _ lk_X11_settles_RX11_45) (fun _ h9 => h9) rfl dX11_settles_178 ?_
      refine lv_iload_n hx hb dX11_settles_181 rfl (lv_at hl 3 rfl) ?_
      refine lv_iload hx hb dX11_settles_182 (lv_at hl 4 rfl) ?_
      obtain ⟨h3, hf⟩ := gin_s hf
      refine wk_iast hx hb hK hP hD hS 10 0 (k := x3.toNatClampNeg) rfl rfl h3 rfl dX11_settles_184 (fun g2 H locs eg2 hP hD hS => ?_)
      have hP : va_P (dC, dI) vwCl [(a 0, .inr (11, [.ref (a 1), .ref (a 2), .ref (a 3), .ref (a 4), .int M_isSaved, .int M_changes, .int M_isWithin, .int M_code, .ref (a 5), .int M_length, .int M_fault, .int M_failed, .ref (a 6), .int M_signMany, .ref (a 7), .ref (a 8), .int M_many, .ref (a 9), .ref (a 10), .int M_at, .ref (a 11), .int M_toldMany])), (a 1, .inl (Y 0, 238, .inl M_g)), (a 2, .inl (Y 0, 1904, .inl M_kept)), (a 3, .inl (Y 0, 238, .inl M_saved)), (a 4, .inl (Y 0, 238, .inl M_before)), (a 5, .inl (Y 0, 60, .inl M_input)), (a 6, .inl (Y 2, 100, .inl M_signs)), (a 7, .inl (Y 0, 6, .inl M_column)), (a 8, .inl (Y 0, 6, .inl M_loads)), (a 9, .inl (Y 0, 2048, .inl M_sums)), (a 10, .inl (Y 0, 2048, .inl g2)), (a 11, .inl (Y 0, 155, .inl M_told))] H := hP
      have hD : va_D A [(a 0, .inr (11, [.ref (a 1), .ref (a 2), .ref (a 3), .ref (a 4), .int M_isSaved, .int M_changes, .int M_isWithin, .int M_code, .ref (a 5), .int M_length, .int M_fault, .int M_failed, .ref (a 6), .int M_signMany, .ref (a 7), .ref (a 8), .int M_many, .ref (a 9), .ref (a 10), .int M_at, .ref (a 11), .int M_toldMany])), (a 1, .inl (Y 0, 238, .inl M_g)), (a 2, .inl (Y 0, 1904, .inl M_kept)), (a 3, .inl (Y 0, 238, .inl M_saved)), (a 4, .inl (Y 0, 238, .inl M_before)), (a 5, .inl (Y 0, 60, .inl M_input)), (a 6, .inl (Y 2, 100, .inl M_signs)), (a 7, .inl (Y 0, 6, .inl M_column)), (a 8, .inl (Y 0, 6, .inl M_loads)), (a 9, .inl (Y 0, 2048, .inl M_sums)), (a 10, .inl (Y 0, 2048, .inl g2)), (a 11, .inl (Y 0, 155, .inl M_told))] := hD
      have hf := wkl_s hf eg2
      refine lv_iinc (v := (x3 + 1)) (lv' := [(3, .int (x3 + 1)), (0, .ref (a 0)), (1, .int x1), (2, .int x2), (4, .int x4), (5, .int x5)]) hx hb dX11_settles_185 hl (k := 3) rfl rfl (by decide) rfl (fun ls hl => ?_)
      refine lv_goto (tgt := 60) hx hb dX11_settles_188 (by decide) ?_
      exact hK60 x1 x2 (x3 + 1) M_sums g2 hf H locs hP hD hS ls (lv_sub hl [1, 2, 3, 0] rfl)
    · have hf := wk_f hf q1
      refine lv_iload_n hx hb dX11_settles_79 rfl (lv_at hl 3 rfl) ?_
      refine lv_iload hx hb dX11_settles_80 (lv_at hl 5 rfl) ?_
      refine lv_ishr hx hb dX11_settles_82 ?_
      refine lv_iconst (v := 1) hx hb dX11_settles_83 (by decide) ?_
      refine lv_iand hx hb dX11_settles_84 ?_
      refine lv_if_ne (tgt := 91) hx hb dX11_settles_85 (by decide) (fun q4 => ?_) (fun q4 => ?_)
      · have hf := wk_f hf q4
        refine lv_iload_n hx hb dX11_settles_91 rfl (lv_at hl 3 rfl) ?_
        refine lv_iconst (v := 1) hx hb dX11_settles_92 (by decide) ?_
        refine lv_iload hx hb dX11_settles_93 (lv_at hl 5 rfl) ?_
        refine lv_ishl hx hb dX11_settles_95 ?_
        refine lv_ixor hx hb dX11_settles_96 ?_
        refine lv_istore (lv' := [(6, .int (x3 ^^^ ((1 : Int32) <<< (x5 &&& 31)))), (0, .ref (a 0)), (1, .int x1), (2, .int x2), (3, .int x3), (4, .int x4), (5, .int x5)]) hx hb dX11_settles_97 hl (by decide) rfl (fun ls hl => ?_)
        refine lv_aload_n hx hb dX11_settles_99 rfl (lv_at hl 1 rfl) ?_
        refine va_get (D := (dC, dI)) (ci := 11) (v := .ref (a 9)) (C := RX11) (T := TX11) (N := 22) hx hb hts in_X11_settles_X11 hown hK hP 0 rfl rfl 17 (by decide) (hts _ lk_X11_settles_RX11_42) (fun _ h9 => h9) rfl dX11_settles_100 ?_
        refine lv_iload_n hx hb dX11_settles_103 rfl (lv_at hl 4 rfl) ?_
        refine lv_aload_n hx hb dX11_settles_104 rfl (lv_at hl 1 rfl) ?_
        refine va_get (D := (dC, dI)) (ci := 11) (v := .ref (a 9)) (C := RX11) (T := TX11) (N := 22) hx hb hts in_X11_settles_X11 hown hK hP 0 rfl rfl 17 (by decide) (hts _ lk_X11_settles_RX11_42) (fun _ h9 => h9) rfl dX11_settles_105 ?_
        refine lv_iload hx hb dX11_settles_108 (lv_at hl 0 rfl) ?_
        obtain ⟨h5, hf⟩ := gin_s hf
        refine wk_iald hx hb hK hP 9 0 rfl rfl h5 rfl dX11_settles_110 ?_
        refine lv_aload_n hx hb dX11_settles_111 rfl (lv_at hl 1 rfl) ?_
        refine va_get (D := (dC, dI)) (ci := 11) (v := .ref (a 1)) (C := RX11) (T := TX11) (N := 22) hx hb hts in_X11_settles_X11 hown hK hP 0 rfl rfl 0 (by decide) (hts _ lk_X11_settles_RX11_7) (fun _ h9 => h9) rfl dX11_settles_112 ?_
        refine lv_bipush (v := 36) hx hb dX11_settles_115 (by decide) ?_
        refine lv_iload hx hb dX11_settles_117 (lv_at hl 6 rfl) ?_
        refine lv_iadd hx hb dX11_settles_119 ?_
        obtain ⟨h6, hf⟩ := gin_s hf
        refine wk_iald hx hb hK hP 1 0 rfl rfl h6 rfl dX11_settles_120 ?_
        refine lv_iadd hx hb dX11_settles_121 ?_
        refine lv_topi (fun v7 ev7 => ?_)
        have hf := wkl_s hf ev7
        obtain ⟨h9, hf⟩ := gin_s hf
        refine wk_iast hx hb hK hP hD hS 9 0 (k := x3.toNatClampNeg) rfl rfl h9 rfl dX11_settles_122 (fun g8 H locs eg8 hP hD hS => ?_)
        have hP : va_P (dC, dI) vwCl [(a 0, .inr (11, [.ref (a 1), .ref (a 2), .ref (a 3), .ref (a 4), .int M_isSaved, .int M_changes, .int M_isWithin, .int M_code, .ref (a 5), .int M_length, .int M_fault, .int M_failed, .ref (a 6), .int M_signMany, .ref (a 7), .ref (a 8), .int M_many, .ref (a 9), .ref (a 10), .int M_at, .ref (a 11), .int M_toldMany])), (a 1, .inl (Y 0, 238, .inl M_g)), (a 2, .inl (Y 0, 1904, .inl M_kept)), (a 3, .inl (Y 0, 238, .inl M_saved)), (a 4, .inl (Y 0, 238, .inl M_before)), (a 5, .inl (Y 0, 60, .inl M_input)), (a 6, .inl (Y 2, 100, .inl M_signs)), (a 7, .inl (Y 0, 6, .inl M_column)), (a 8, .inl (Y 0, 6, .inl M_loads)), (a 9, .inl (Y 0, 2048, .inl g8)), (a 10, .inl (Y 0, 2048, .inl M_groups)), (a 11, .inl (Y 0, 155, .inl M_told))] H := hP
        have hD : va_D A [(a 0, .inr (11, [.ref (a 1), .ref (a 2), .ref (a 3), .ref (a 4), .int M_isSaved, .int M_changes, .int M_isWithin, .int M_code, .ref (a 5), .int M_length, .int M_fault, .int M_failed, .ref (a 6), .int M_signMany, .ref (a 7), .ref (a 8), .int M_many, .ref (a 9), .ref (a 10), .int M_at, .ref (a 11), .int M_toldMany])), (a 1, .inl (Y 0, 238, .inl M_g)), (a 2, .inl (Y 0, 1904, .inl M_kept)), (a 3, .inl (Y 0, 238, .inl M_saved)), (a 4, .inl (Y 0, 238, .inl M_before)), (a 5, .inl (Y 0, 60, .inl M_input)), (a 6, .inl (Y 2, 100, .inl M_signs)), (a 7, .inl (Y 0, 6, .inl M_column)), (a 8, .inl (Y 0, 6, .inl M_loads)), (a 9, .inl (Y 0, 2048, .inl g8)), (a 10, .inl (Y 0, 2048, .inl M_groups)), (a 11, .inl (Y 0, 155, .inl M_told))] := hD
        have hf := wkl_s hf eg8
        refine lv_aload_n hx hb dX11_settles_123 rfl (lv_at hl 1 rfl) ?_
        refine va_get (D := (dC, dI)) (ci := 11) (v := .ref (a 10)) (C := RX11) (T := TX11) (N := 22) hx hb hts in_X11_settles_X11 hown hK hP 0 rfl rfl 18 (by decide) (hts _ lk_X11_settles_RX11_45) (fun _ h9 => h9) rfl dX11_settles_124 ?_
        refine lv_iload hx hb dX11_settles_127 (lv_at hl 0 rfl) ?_
        obtain ⟨h10, hf⟩ := gin_s hf
        refine wk_iald hx hb hK hP 10 0 rfl rfl h10 rfl dX11_settles_129 ?_
        refine lv_aload_n hx hb dX11_settles_130 rfl (lv_at hl 1 rfl) ?_
        refine va_get (D := (dC, dI)) (ci := 11) (v := .ref (a 9)) (C := RX11) (T := TX11) (N := 22) hx hb hts in_X11_settles_X11 hown hK hP 0 rfl rfl 17 (by decide) (hts _ lk_X11_settles_RX11_42) (fun _ h9 => h9) rfl dX11_settles_131 ?_
        refine lv_iload_n hx hb dX11_settles_134 rfl (lv_at hl 4 rfl) ?_
        obtain ⟨h11, hf⟩ := gin_s hf
        refine wk_iald hx hb hK hP 9 0 rfl rfl h11 rfl dX11_settles_135 ?_
        refine lv_if_ne (tgt := 156) hx hb dX11_settles_136 (by decide) (fun q12 => ?_) (fun q12 => ?_)
        · have hf := wk_f hf q12
          refine lv_iconst (v := 0) hx hb dX11_settles_156 (by decide) ?_
          refine lv_iadd hx hb dX11_settles_157 ?_
          refine lv_topi (fun v13 ev13 => ?_)
          have hf := wkl_s hf ev13
          refine lv_istore (lv' := [(7, .int v13), (6, .int (x3 ^^^ ((1 : Int32) <<< (x5 &&& 31)))), (0, .ref (a 0)), (1, .int x1), (2, .int x2), (3, .int x3), (4, .int x4), (5, .int x5)]) hx hb dX11_settles_158 hl (by decide) rfl (fun ls hl => ?_)
          refine lv_iload hx hb dX11_settles_160 (lv_at hl 0 rfl) ?_
          refine lv_iload hx hb dX11_settles_162 (lv_at hl 6 rfl) ?_
          refine lv_icmp_le (tgt := 171) hx hb dX11_settles_164 (by decide) (fun q14 => ?_) (fun q14 => ?_)
          · have hf := wk_t hf q14
            refine lv_iinc (v := (x5 + 1)) (lv' := [(5, .int (x5 + 1)), (7, .int v13), (6, .int (x3 ^^^ ((1 : Int32) <<< (x5 &&& 31)))), (0, .ref (a 0)), (1, .int x1), (2, .int x2), (3, .int x3), (4, .int x4)]) hx hb dX11_settles_171 hl (k := 7) rfl rfl (by decide) rfl (fun ls hl => ?_)
            refine lv_goto (tgt := 73) hx hb dX11_settles_174 (by decide) ?_
            exact ih x1 x2 x3 x4 (x5 + 1) g8 M_groups hf H locs hP hD hS ls (lv_sub hl [3, 4, 5, 6, 7, 0] rfl)
          · have hf := wk_f hf q14
            refine lv_iload hx hb dX11_settles_167 (lv_at hl 0 rfl) ?_
            refine lv_istore (lv' := [(4, .int v13), (7, .int v13), (6, .int (x3 ^^^ ((1 : Int32) <<< (x5 &&& 31)))), (0, .ref (a 0)), (1, .int x1), (2, .int x2), (3, .int x3), (5, .int x5)]) hx hb dX11_settles_169 hl (by decide) rfl (fun ls hl => ?_)
            refine lv_iinc (v := (x5 + 1)) (lv' := [(5, .int (x5 + 1)), (4, .int v13), (7, .int v13), (6, .int (x3 ^^^ ((1 : Int32) <<< (x5 &&& 31)))), (0, .ref (a 0)), (1, .int x1), (2, .int x2), (3, .int x3)]) hx hb dX11_settles_171 hl (k := 7) rfl rfl (by decide) rfl (fun ls hl => ?_)
            refine lv_goto (tgt := 73) hx hb dX11_settles_174 (by decide) ?_
            exact ih x1 x2 x3 v13 (x5 + 1) g8 M_groups hf H locs hP hD hS ls (lv_sub hl [4, 5, 6, 7, 1, 0] rfl)
        · have hf := wk_t hf q12
          refine lv_aload_n hx hb dX11_settles_139 rfl (lv_at hl 1 rfl) ?_
          refine va_get (D := (dC, dI)) (ci := 11) (v := .ref (a 1)) (C := RX11) (T := TX11) (N := 22) hx hb hts in_X11_settles_X11 hown hK hP 0 rfl rfl 0 (by decide) (hts _ lk_X11_settles_RX11_7) (fun _ h9 => h9) rfl dX11_settles_140 ?_
          refine lv_bipush (v := 36) hx hb dX11_settles_143 (by decide) ?_
          refine lv_iload hx hb dX11_settles_145 (lv_at hl 6 rfl) ?_
          refine lv_iadd hx hb dX11_settles_147 ?_
          obtain ⟨h15, hf⟩ := gin_s hf
          refine wk_iald hx hb hK hP 1 0 rfl rfl h15 rfl dX11_settles_148 ?_
          refine lv_if_eq (tgt := 156) hx hb dX11_settles_149 (by decide) (fun q16 => ?_) (fun q16 => ?_)
          · have hf := wk_t hf q16
            refine lv_iconst (v := 0) hx hb dX11_settles_156 (by decide) ?_
            refine lv_iadd hx hb dX11_settles_157 ?_
            refine lv_topi (fun v17 ev17 => ?_)
            have hf := wkl_s hf ev17
            refine lv_istore (lv' := [(7, .int v17), (6, .int (x3 ^^^ ((1 : Int32) <<< (x5 &&& 31)))), (0, .ref (a 0)), (1, .int x1), (2, .int x2), (3, .int x3), (4, .int x4), (5, .int x5)]) hx hb dX11_settles_158 hl (by decide) rfl (fun ls hl => ?_)
            refine lv_iload hx hb dX11_settles_160 (lv_at hl 0 rfl) ?_
            refine lv_iload hx hb dX11_settles_162 (lv_at hl 6 rfl) ?_
            refine lv_icmp_le (tgt := 171) hx hb dX11_settles_164 (by decide) (fun q18 => ?_) (fun q18 => ?_)
            · have hf := wk_t hf q18
              refine lv_iinc (v := (x5 + 1)) (lv' := [(5, .int (x5 + 1)), (7, .int v17), (6, .int (x3 ^^^ ((1 : Int32) <<< (x5 &&& 31)))), (0, .ref (a 0)), (1, .int x1), (2, .int x2), (3, .int x3), (4, .int x4)]) hx hb dX11_settles_171 hl (k := 7) rfl rfl (by decide) rfl (fun ls hl => ?_)
              refine lv_goto (tgt := 73) hx hb dX11_settles_174 (by decide) ?_
              exact ih x1 x2 x3 x4 (x5 + 1) g8 M_groups hf H locs hP hD hS ls (lv_sub hl [3, 4, 5, 6, 7, 0] rfl)
            · have hf := wk_f hf q18
              refine lv_iload hx hb dX11_settles_167 (lv_at hl 0 rfl) ?_
              refine lv_istore (lv' := [(4, .int v17), (7, .int v17), (6, .int (x3 ^^^ ((1 : Int32) <<< (x5 &&& 31)))), (0, .ref (a 0)), (1, .int x1), (2, .int x2), (3, .int x3), (5, .int x5)]) hx hb dX11_settles_169 hl (by decide) rfl (fun ls hl => ?_)
              refine lv_iinc (v := (x5 + 1)) (lv' := [(5, .int (x5 + 1)), (4, .int v17), (7, .int v17), (6, .int (x3 ^^^ ((1 : Int32) <<< (x5 &&& 31)))), (0, .ref (a 0)), (1, .int x1), (2, .int x2), (3, .int x3)]) hx hb dX11_settles_171 hl (k := 7) rfl rfl (by decide) rfl (fun ls hl => ?_)
              refine lv_goto (tgt := 73) hx hb dX11_settles_174 (by decide) ?_
              exact ih x1 x2 x3 v17 (x5 + 1) g8 M_groups hf H locs hP hD hS ls (lv_sub hl [4, 5, 6, 7, 1, 0] rfl)
          · have hf := wk_f hf q16
            refine lv_iconst (v := 1) hx hb dX11_settles_152 (by decide) ?_
            refine lv_goto (tgt := 157) hx hb dX11_settles_153 (by decide) ?_
            refine lv_iadd hx hb dX11_settles_157 ?_
            refine lv_topi (fun v19 ev19 => ?_)
            have hf := wkl_s hf ev19
            refine lv_istore (lv' := [(7, .int v19), (6, .int (x3 ^^^ ((1 : Int32) <<< (x5 &&& 31)))), (0, .ref (a 0)), (1, .int x1), (2, .int x2), (3, .int x3), (4, .int x4), (5, .int x5)]) hx hb dX11_settles_158 hl (by decide) rfl (fun ls hl => ?_)
            refine lv_iload hx hb dX11_settles_160 (lv_at hl 0 rfl) ?_
            refine lv_iload hx hb dX11_settles_162 (lv_at hl 6 rfl) ?_
            refine lv_icmp_le (tgt := 171) hx hb dX11_settles_164 (by decide) (fun q20 => ?_) (fun q20 => ?_)
            · have hf := wk_t hf q20
              refine lv_iinc (v := (x5 + 1)) (lv' := [(5, .int (x5 + 1)), (7, .int v19), (6, .int (x3 ^^^ ((1 : Int32) <<< (x5 &&& 31)))), (0, .ref (a 0)), (1, .int x1), (2, .int x2), (3, .int x3), (4, .int x4)]) hx hb dX11_settles_171 hl (k := 7) rfl rfl (by decide) rfl (fun ls hl => ?_)
              refine lv_goto (tgt := 73) hx hb dX11_settles_174 (by decide) ?_
              exact ih x1 x2 x3 x4 (x5 + 1) g8 M_groups hf H locs hP hD hS ls (lv_sub hl [3, 4, 5, 6, 7, 0] rfl)
            · have hf := wk_f hf q20
              refine lv_iload hx hb dX11_settles_167 (lv_at hl 0 rfl) ?_
              refine lv_istore (lv' := [(4, .int v19), (7, .int v19), (6, .int (x3 ^^^ ((1 : Int32) <<< (x5 &&& 31)))), (0, .ref (a 0)), (1, .int x1), (2, .int x2), (3, .int x3), (5, .int x5)]) hx hb dX11_settles_169 hl (by decide) rfl (fun ls hl => ?_)
              refine lv_iinc (v := (x5 + 1)) (lv' := [(5, .int (x5 + 1)), (4, .int v19), (7, .int v19), (6, .int (x3 ^^^ ((1 : Int32) <<< (x5 &&& 31)))), (0, .ref (a 0)), (1, .int x1), (2, .int x2), (3, .int x3)]) hx hb dX11_settles_171 hl (k := 7) rfl rfl (by decide) rfl (fun ls hl => ?_)
              refine lv_goto (tgt := 73) hx hb dX11_settles_174 (by decide) ?_
              exact ih x1 x2 x3 v19 (x5 + 1) g8 M_groups hf H locs hP hD hS ls (lv_sub hl [4, 5, 6, 7, 1, 0] rfl)
      · have hf := wk_t hf q4
        refine lv_goto (tgt := 171) hx hb dX11_settles_88 (by decide) ?_
        refine lv_iinc (v := (x5 + 1)) (lv' := [(5, .int (x5 + 1)), (0, .ref (a 0)), (1, .int x1), (2, .int x2), (3, .int x3), (4, .int x4)]) hx hb dX11_settles_171 hl (k := 5) rfl rfl (by decide) rfl (fun ls hl => ?_)
        refine lv_goto (tgt := 73) hx hb dX11_settles_174 (by decide) ?_
        exact ih x1 x2 x3 x4 (x5 + 1) M_sums M_groups hf H locs hP hD hS ls (lv_sub hl [1, 2, 3, 4, 5, 0] rfl)
set_option maxHeartbeats 4000000 in
set_option maxRecDepth 100000 in
theorem wl_X11_settles_L60 {p : Program} {l : Launch} {e : Env} {s : State} {m : MethodId} {args : Array Value} {below : List Frame} {meth : Method} {c : Code} {dC : Nat → ClassId} {dI : Nat → Nat → Nat} {Y : Nat → ClassId} {a : Nat → Nat} {M_g : Nat → Int32} {M_kept : Nat → Int32} {M_saved : Nat → Int32} {M_before : Nat → Int32} {M_isSaved : Int32} {M_changes : Int32} {M_isWithin : Int32} {M_code : Int32} {M_input : Nat → Int32} {M_length : Int32} {M_fault : Int32} {M_failed : Int32} {M_signs : Nat → Int32} {M_signMany : Int32} {M_column : Nat → Int32} {M_loads : Nat → Int32} {M_many : Int32} {M_at : Int32} {M_told : Nat → Int32} {M_toldMany : Int32}  {r : Int32} {zM_sums : Nat → Int32} {zM_groups : Nat → Int32}  (C0 : wk_C p s m args meth c cX11_settles 8 (some .int) wsX11_settles RX11) {A : Nat → Prop} (hK : va_K (dC, dI) vwCl (vTy Y) s) (hA : ∀ q, s.heap.size ≤ q → A q) : ∀ (nn : Nat) (x1 : Int32) (x2 : Int32) (x3 : Int32)  (M_sums : Nat → Int32) (M_groups : Nat → Int32), f_X11_settles_L60 M_g nn x1 x2 x3 M_sums M_groups = some (r, zM_sums, zM_groups) → ∀ (H : Heap) (locs : List Loc), va_P (dC, dI) vwCl (wX11 Y a M_g M_kept M_saved M_before M_isSaved M_changes M_isWithin M_code M_input M_length M_fault M_failed M_signs M_signMany M_column M_loads M_many M_sums M_groups M_at M_told M_toldMany) H → va_D A (wX11 Y a M_g M_kept M_saved M_before M_isSaved M_changes M_isWithin M_code M_input M_length M_fault M_failed M_signs M_signMany M_column M_loads M_many M_sums M_groups M_at M_told M_toldMany) → va_S A s.heap H locs → ∀ (ls : Array Slot), lv_has ls 8 [(0, .ref (a 0)), (1, .int x1), (2, .int x2), (3, .int x3)] → W p l e (headSpec wsX11_settles ({ frames := 0, cells := 0, slots := 0, locals := 0 } : Room)).room s m args below meth c H locs 0 0 (MQ below (va_Qi (fun r2 (_ : Unit) => r2 = r) (fun _ t => wk_X (dC, dI) Y (wX11 Y a M_g M_kept M_saved M_before M_isSaved M_changes M_isWithin M_code M_input M_length M_fault M_failed M_signs M_signMany M_column M_loads M_many zM_sums zM_groups M_at M_told M_toldMany) A t) A) args s 0 0 A) (F0 m 60 ls []) := by
  have C0 := C0
  obtain ⟨hx, hb, hml, hr, hlocks, hown, hts⟩ := id C0
  intro nn
  induction nn with
  | zero =>
    intro x1 x2 x3 M_sums M_groups hf
    rw [f_X11_settles_L60] at hf
    cases hf
  | succ nn ih =>
    intro x1 x2 x3 M_sums M_groups hf H locs hP hD hS ls hl
    rw [f_X11_settles_L60] at hf
    have hP : va_P (dC, dI) vwCl [(a 0, .inr (11, [.ref (a 1), .ref (a 2), .ref (a 3), .ref (a 4), .int M_isSaved, .int M_changes, .int M_isWithin, .int M_code, .ref (a 5), .int M_length, .int M_fault, .int M_failed, .ref (a 6), .int M_signMany, .ref (a 7), .ref (a 8), .int M_many, .ref (a 9), .ref (a 10), .int M_at, .ref (a 11), .int M_toldMany])), (a 1, .inl (Y 0, 238, .inl M_g)), (a 2, .inl (Y 0, 1904, .inl M_kept)), (a 3, .inl (Y 0, 238, .inl M_saved)), (a 4, .inl (Y 0, 238, .inl M_before)), (a 5, .inl (Y 0, 60, .inl M_input)), (a 6, .inl (Y 2, 100, .inl M_signs)), (a 7, .inl (Y 0, 6, .inl M_column)), (a 8, .inl (Y 0, 6, .inl M_loads)), (a 9, .inl (Y 0, 2048, .inl M_sums)), (a 10, .inl (Y 0, 2048, .inl M_groups)), (a 11, .inl (Y 0, 155, .inl M_told))] H := hP
    have hD : va_D A [(a 0, .inr (11, [.ref (a 1), .ref (a 2), .ref (a 3), .ref (a 4), .int M_isSaved, .int M_changes, .int M_isWithin, .int M_code, .ref (a 5), .int M_length, .int M_fault, .int M_failed, .ref (a 6), .int M_signMany, .ref (a 7), .ref (a 8), .int M_many, .ref (a 9), .ref (a 10), .int M_at, .ref (a 11), .int M_toldMany])), (a 1, .inl (Y 0, 238, .inl M_g)), (a 2, .inl (Y 0, 1904, .inl M_kept)), (a 3, .inl (Y 0, 238, .inl M_saved)), (a 4, .inl (Y 0, 238, .inl M_before)), (a 5, .inl (Y 0, 60, .inl M_input)), (a 6, .inl (Y 2, 100, .inl M_signs)), (a 7, .inl (Y 0, 6, .inl M_column)), (a 8, .inl (Y 0, 6, .inl M_loads)), (a 9, .inl (Y 0, 2048, .inl M_sums)), (a 10, .inl (Y 0, 2048, .inl M_groups)), (a 11, .inl (Y 0, 155, .inl M_told))] := hD
    refine lv_iload_n hx hb dX11_settles_60 rfl (lv_at hl 3 rfl) ?_
    refine lv_iconst (v := 1) hx hb dX11_settles_61 (by decide) ?_
    refine lv_iload_n hx hb dX11_settles_62 rfl (lv_at hl 1 rfl) ?_
    refine lv_ishl hx hb dX11_settles_63 ?_
    refine lv_icmp_ge (tgt := 191) hx hb dX11_settles_64 (by decide) (fun q1 => ?_) (fun q1 => ?_)
    · have hf := wk_t hf q1
      refine lv_iload_n hx hb dX11_settles_191 rfl (lv_at hl 2 rfl) ?_
      refine lv_aload_n hx hb dX11_settles_192 rfl (lv_at hl 0 rfl) ?_
      refine va_get (D := (dC, dI)) (ci := 11) (v := .ref (a 10)) (C := RX11) (T := TX11) (N := 22) hx hb hts in_X11_settles_X11 hown hK hP 0 rfl rfl 18 (by decide) (hts _ lk_X11_settles_RX11_45) (fun _ h9 => h9) rfl dX11_settles_193 ?_
      refine lv_iconst (v := 1) hx hb dX11_settles_196 (by decide) ?_
      refine lv_iload_n hx hb dX11_settles_197 rfl (lv_at hl 1 rfl) ?_
      refine lv_ishl hx hb dX11_settles_198 ?_
      refine lv_iconst (v := 1) hx hb dX11_settles_199 (by decide) ?_
      refine lv_isub hx hb dX11_settles_200 ?_
      obtain ⟨h2, hf⟩ := gin_s hf
      refine wk_iald hx hb hK hP 10 0 rfl rfl h2 rfl dX11_settles_201 ?_
      refine lv_isub hx hb dX11_settles_202 ?_
      obtain ⟨e0, e1, e2⟩ := wke3 hf
      subst e0
      subst e1
      subst e2
      have hP9 := hP.sub (ws' := (wX11 Y a M_g M_kept M_saved M_before M_isSaved M_changes M_isWithin M_code M_input M_length M_fault M_failed M_signs M_signMany M_column M_loads M_many M_sums M_groups M_at M_told M_toldMany)) [0, 1, 2, 3, 4, 5, 6, 7, 8, 9, 10, 11] rfl
      have hD9 := hD.sub (ws' := (wX11 Y a M_g M_kept M_saved M_before M_isSaved M_changes M_isWithin M_code M_input M_length M_fault M_failed M_signs M_signMany M_column M_loads M_many M_sums M_groups M_at M_told M_toldMany)) [0, 1, 2, 3, 4, 5, 6, 7, 8, 9, 10, 11] (by decide) rfl
      exact W.iret (v := (x2 - (M_groups (((1 : Int32) <<< (x1 &&& 31)) - 1).toNatClampNeg))) hx hb hr (fun t ht hW => ⟨⟨(x2 - (M_groups (((1 : Int32) <<< (x1 &&& 31)) - 1).toNatClampNeg)), (), rfl, rfl, by rw [ht]; exact hP9, va_K.moved hW.alike hK, hD9⟩, hS.F ht⟩) hS.2.2 dX11_settles_203
    · have hf := wk_f hf q1
      refine lv_iconst (v := 0) hx hb dX11_settles_67 (by decide) ?_
      refine lv_istore (lv' := [(4, .int 0), (0, .ref (a 0)), (1, .int x1), (2, .int x2), (3, .int x3)]) hx hb dX11_settles_68 hl (by decide) rfl (fun ls hl => ?_)
      refine lv_iconst (v := 0) hx hb dX11_settles_70 (by decide) ?_
      refine lv_istore (lv' := [(5, .int 0), (4, .int 0), (0, .ref (a 0)), (1, .int x1), (2, .int x2), (3, .int x3)]) hx hb dX11_settles_71 hl (by decide) rfl (fun ls hl => ?_)
      exact wl_X11_settles_L73 C0 hK hA ih FU x1 x2 x3 0 0 M_sums M_groups hf H locs hP hD hS ls (lv_sub hl [2, 3, 4, 5, 1, 0] rfl)
set_option maxHeartbeats 4000000 in
set_option maxRecDepth 100000 in
theorem wl_X11_settles_L13 {p : Program} {l : Launch} {e : Env} {s : State} {m : MethodId} {args : Array Value} {below : List Frame} {meth : Method} {c : Code} {dC : Nat → ClassId} {dI : Nat → Nat → Nat} {Y : Nat → ClassId} {a : Nat → Nat} {M_g : Nat → Int32} {M_kept : Nat → Int32} {M_saved : Nat → Int32} {M_before : Nat → Int32} {M_isSaved : Int32} {M_changes : Int32} {M_isWithin : Int32} {M_code : Int32} {M_input : Nat → Int32} {M_length : Int32} {M_fault : Int32} {M_failed : Int32} {M_signs : Nat → Int32} {M_signMany : Int32} {M_column : Nat → Int32} {M_loads : Nat → Int32} {M_many : Int32} {M_at : Int32} {M_told : Nat → Int32} {M_toldMany : Int32}  {r : Int32} {zM_sums : Nat → Int32} {zM_groups : Nat → Int32}  (C0 : wk_C p s m args meth c cX11_settles 8 (some .int) wsX11_settles RX11) {A : Nat → Prop} (hK : va_K (dC, dI) vwCl (vTy Y) s) (hA : ∀ q, s.heap.size ≤ q → A q) : ∀ (nn : Nat) (x1 : Int32) (x2 : Int32) (x3 : Int32)  (M_sums : Nat → Int32) (M_groups : Nat → Int32), f_X11_settles_L13 M_g nn x1 x2 x3 M_sums M_groups = some (r, zM_sums, zM_groups) → ∀ (H : Heap) (locs : List Loc), va_P (dC, dI) vwCl (wX11 Y a M_g M_kept M_saved M_before M_isSaved M_changes M_isWithin M_code M_input M_length M_fault M_failed M_signs M_signMany M_column M_loads M_many M_sums M_groups M_at M_told M_toldMany) H → va_D A (wX11 Y a M_g M_kept M_saved M_before M_isSaved M_changes M_isWithin M_code M_input M_length M_fault M_failed M_signs M_signMany M_column M_loads M_many M_sums M_groups M_at M_told M_toldMany) → va_S A s.heap H locs → ∀ (ls : Array Slot), lv_has ls 8 [(0, .ref (a 0)), (1, .int x1), (2, .int x2), (3, .int x3)] → W p l e (headSpec wsX11_settles ({ frames := 0, cells := 0, slots := 0, locals := 0 } : Room)).room s m args below meth c H locs 0 0 (MQ below (va_Qi (fun r2 (_ : Unit) => r2 = r) (fun _ t => wk_X (dC, dI) Y (wX11 Y a M_g M_kept M_saved M_before M_isSaved M_changes M_isWithin M_code M_input M_length M_fault M_failed M_signs M_signMany M_column M_loads M_many zM_sums zM_groups M_at M_told M_toldMany) A t) A) args s 0 0 A) (F0 m 13 ls []) := by
  have C0 := C0
  obtain ⟨hx, hb, hml, hr, hlocks, hown, hts⟩ := id C0
  intro nn
  induction nn with
  | zero =>
    intro x1 x2 x3 M_sums M_groups hf
    rw [f_X11_settles_L13] at hf
    cases hf
  | succ nn ih =>
    intro x1 x2 x3 M_sums M_groups hf H locs hP hD hS ls hl
    rw [f_X11_settles_L13] at hf
    have hP : va_P (dC, dI) vwCl [(a 0, .inr (11, [.ref (a 1), .ref (a 2), .ref (a 3), .ref (a 4), .int M_isSaved, .int M_changes, .int M_isWithin, .int M_code, .ref (a 5), .int M_length, .int M_fault, .int M_failed, .ref (a 6), .int M_signMany, .ref (a 7), .ref (a 8), .int M_many, .ref (a 9), .ref (a 10), .int M_at, .ref (a 11), .int M_toldMany])), (a 1, .inl (Y 0, 238, .inl M_g)), (a 2, .inl (Y 0, 1904, .inl M_kept)), (a 3, .inl (Y 0, 238, .inl M_saved)), (a 4, .inl (Y 0, 238, .inl M_before)), (a 5, .inl (Y 0, 60, .inl M_input)), (a 6, .inl (Y 2, 100, .inl M_signs)), (a 7, .inl (Y 0, 6, .inl M_column)), (a 8, .inl (Y 0, 6, .inl M_loads)), (a 9, .inl (Y 0, 2048, .inl M_sums)), (a 10, .inl (Y 0, 2048, .inl M_groups)), (a 11, .inl (Y 0, 155, .inl M_told))] H := hP
    have hD : va_D A [(a 0, .inr (11, [.ref (a 1), .ref (a 2), .ref (a 3), .ref (a 4), .int M_isSaved, .int M_changes, .int M_isWithin, .int M_code, .ref (a 5), .int M_length, .int M_fault, .int M_failed, .ref (a 6), .int M_signMany, .ref (a 7), .ref (a 8), .int M_many, .ref (a 9), .ref (a 10), .int M_at, .ref (a 11), .int M_toldMany])), (a 1, .inl (Y 0, 238, .inl M_g)), (a 2, .inl (Y 0, 1904, .inl M_kept)), (a 3, .inl (Y 0, 238, .inl M_saved)), (a 4, .inl (Y 0, 238, .inl M_before)), (a 5, .inl (Y 0, 60, .inl M_input)), (a 6, .inl (Y 2, 100, .inl M_signs)), (a 7, .inl (Y 0, 6, .inl M_column)), (a 8, .inl (Y 0, 6, .inl M_loads)), (a 9, .inl (Y 0, 2048, .inl M_sums)), (a 10, .inl (Y 0, 2048, .inl M_groups)), (a 11, .inl (Y 0, 155, .inl M_told))] := hD
    refine lv_iload_n hx hb dX11_settles_13 rfl (lv_at hl 3 rfl) ?_
    refine lv_iload_n hx hb dX11_settles_14 rfl (lv_at hl 1 rfl) ?_
    refine lv_icmp_ge (tgt := 44) hx hb dX11_settles_15 (by decide) (fun q1 => ?_) (fun q1 => ?_)
    · have hf := wk_t hf q1
      refine lv_aload_n hx hb dX11_settles_44 rfl (lv_at hl 0 rfl) ?_
      refine va_get (D := (dC, dI)) (ci := 11) (v := .ref (a 9)) (C := RX11) (T := TX11) (N := 22) hx hb hts in_X11_settles_X11 hown hK hP 0 rfl rfl 17 (by decide) (hts _ lk_X11_settles_RX11_42) (fun _ h9 => h9) rfl dX11_settles_45 ?_
      refine lv_iconst (v := 0) hx hb dX11_settles_48 (by decide) ?_
      refine lv_iconst (v := 0) hx hb dX11_settles_49 (by decide) ?_
      refine wk_iast hx hb hK hP hD hS 9 0 (k := 0) rfl rfl (vp_lit (by decide)) (by decide) dX11_settles_50 (fun g2 H locs eg2 hP hD hS => ?_)
      have hP : va_P (dC, dI) vwCl [(a 0, .inr (11, [.ref (a 1), .ref (a 2), .ref (a 3), .ref (a 4), .int M_isSaved, .int M_changes, .int M_isWithin, .int M_code, .ref (a 5), .int M_length, .int M_fault, .int M_failed, .ref (a 6), .int M_signMany, .ref (a 7), .ref (a 8), .int M_many, .ref (a 9), .ref (a 10), .int M_at, .ref (a 11), .int M_toldMany])), (a 1, .inl (Y 0, 238, .inl M_g)), (a 2, .inl (Y 0, 1904, .inl M_kept)), (a 3, .inl (Y 0, 238, .inl M_saved)), (a 4, .inl (Y 0, 238, .inl M_before)), (a 5, .inl (Y 0, 60, .inl M_input)), (a 6, .inl (Y 2, 100, .inl M_signs)), (a 7, .inl (Y 0, 6, .inl M_column)), (a 8, .inl (Y 0, 6, .inl M_loads)), (a 9, .inl (Y 0, 2048, .inl g2)), (a 10, .inl (Y 0, 2048, .inl M_groups)), (a 11, .inl (Y 0, 155, .inl M_told))] H := hP
      have hD : va_D A [(a 0, .inr (11, [.ref (a 1), .ref (a 2), .ref (a 3), .ref (a 4), .int M_isSaved, .int M_changes, .int M_isWithin, .int M_code, .ref (a 5), .int M_length, .int M_fault, .int M_failed, .ref (a 6), .int M_signMany, .ref (a 7), .ref (a 8), .int M_many, .ref (a 9), .ref (a 10), .int M_at, .ref (a 11), .int M_toldMany])), (a 1, .inl (Y 0, 238, .inl M_g)), (a 2, .inl (Y 0, 1904, .inl M_kept)), (a 3, .inl (Y 0, 238, .inl M_saved)), (a 4, .inl (Y 0, 238, .inl M_before)), (a 5, .inl (Y 0, 60, .inl M_input)), (a 6, .inl (Y 2, 100, .inl M_signs)), (a 7, .inl (Y 0, 6, .inl M_column)), (a 8, .inl (Y 0, 6, .inl M_loads)), (a 9, .inl (Y 0, 2048, .inl g2)), (a 10, .inl (Y 0, 2048, .inl M_groups)), (a 11, .inl (Y 0, 155, .inl M_told))] := hD
      have hf := wkl_s hf eg2
      refine lv_aload_n hx hb dX11_settles_51 rfl (lv_at hl 0 rfl) ?_
      refine va_get (D := (dC, dI)) (ci := 11) (v := .ref (a 10)) (C := RX11) (T := TX11) (N := 22) hx hb hts in_X11_settles_X11 hown hK hP 0 rfl rfl 18 (by decide) (hts _ lk_X11_settles_RX11_45) (fun _ h9 => h9) rfl dX11_settles_52 ?_
      refine lv_iconst (v := 0) hx hb dX11_settles_55 (by decide) ?_
      refine lv_iconst (v := 0) hx hb dX11_settles_56 (by decide) ?_
      refine wk_iast hx hb hK hP hD hS 10 0 (k := 0) rfl rfl (vp_lit (by decide)) (by decide) dX11_settles_57 (fun g3 H locs eg3 hP hD hS => ?_)
      have hP : va_P (dC, dI) vwCl [(a 0, .inr (11, [.ref (a 1), .ref (a 2), .ref (a 3), .ref (a 4), .int M_isSaved, .int M_changes, .int M_isWithin, .int M_code, .ref (a 5), .int M_length, .int M_fault, .int M_failed, .ref (a 6), .int M_signMany, .ref (a 7), .ref (a 8), .int M_many, .ref (a 9), .ref (a 10), .int M_at, .ref (a 11), .int M_toldMany])), (a 1, .inl (Y 0, 238, .inl M_g)), (a 2, .inl (Y 0, 1904, .inl M_kept)), (a 3, .inl (Y 0, 238, .inl M_saved)), (a 4, .inl (Y 0, 238, .inl M_before)), (a 5, .inl (Y 0, 60, .inl M_input)), (a 6, .inl (Y 2, 100, .inl M_signs)), (a 7, .inl (Y 0, 6, .inl M_column)), (a 8, .inl (Y 0, 6, .inl M_loads)), (a 9, .inl (Y 0, 2048, .inl g2)), (a 10, .inl (Y 0, 2048, .inl g3)), (a 11, .inl (Y 0, 155, .inl M_told))] H := hP
      have hD : va_D A [(a 0, .inr (11, [.ref (a 1), .ref (a 2), .ref (a 3), .ref (a 4), .int M_isSaved, .int M_changes, .int M_isWithin, .int M_code, .ref (a 5), .int M_length, .int M_fault, .int M_failed, .ref (a 6), .int M_signMany, .ref (a 7), .ref (a 8), .int M_many, .ref (a 9), .ref (a 10), .int M_at, .ref (a 11), .int M_toldMany])), (a 1, .inl (Y 0, 238, .inl M_g)), (a 2, .inl (Y 0, 1904, .inl M_kept)), (a 3, .inl (Y 0, 238, .inl M_saved)), (a 4, .inl (Y 0, 238, .inl M_before)), (a 5, .inl (Y 0, 60, .inl M_input)), (a 6, .inl (Y 2, 100, .inl M_signs)), (a 7, .inl (Y 0, 6, .inl M_column)), (a 8, .inl (Y 0, 6, .inl M_loads)), (a 9, .inl (Y 0, 2048, .inl g2)), (a 10, .inl (Y 0, 2048, .inl g3)), (a 11, .inl (Y 0, 155, .inl M_told))] := hD
      have hf := wkl_s hf eg3
      refine lv_iconst (v := 1) hx hb dX11_settles_58 (by decide) ?_
      refine lv_istore_n (lv' := [(3, .int 1), (0, .ref (a 0)), (1, .int x1), (2, .int x2)]) hx hb dX11_settles_59 rfl hl (by decide) rfl (fun ls hl => ?_)
      exact wl_X11_settles_L60 C0 hK hA FU x1 x2 1 g2 g3 hf H locs hP hD hS ls (lv_sub hl [1, 2, 3, 0] rfl)
    · have hf := wk_f hf q1
      refine lv_iload_n hx hb dX11_settles_18 rfl (lv_at hl 2 rfl) ?_
      refine lv_aload_n hx hb dX11_settles_19 rfl (lv_at hl 0 rfl) ?_
      refine va_get (D := (dC, dI)) (ci := 11) (v := .ref (a 1)) (C := RX11) (T := TX11) (N := 22) hx hb hts in_X11_settles_X11 hown hK hP 0 rfl rfl 0 (by decide) (hts _ lk_X11_settles_RX11_7) (fun _ h9 => h9) rfl dX11_settles_20 ?_
      refine lv_bipush (v := 36) hx hb dX11_settles_23 (by decide) ?_
      refine lv_iload_n hx hb dX11_settles_25 rfl (lv_at hl 3 rfl) ?_
      refine lv_iadd hx hb dX11_settles_26 ?_
      obtain ⟨h4, hf⟩ := gin_s hf
      refine wk_iald hx hb hK hP 1 0 rfl rfl h4 rfl dX11_settles_27 ?_
      refine lv_if_ne (tgt := 35) hx hb dX11_settles_28 (by decide) (fun q5 => ?_) (fun q5 => ?_)
      · have hf := wk_f hf q5
        refine lv_iconst (v := 1) hx hb dX11_settles_35 (by decide) ?_
        refine lv_iadd hx hb dX11_settles_36 ?_
        refine lv_istore_n (lv' := [(2, .int (x2 + 1)), (0, .ref (a 0)), (1, .int x1), (3, .int x3)]) hx hb dX11_settles_37 rfl hl (by decide) rfl (fun ls hl => ?_)
        refine lv_iinc (v := (x3 + 1)) (lv' := [(3, .int (x3 + 1)), (2, .int (x2 + 1)), (0, .ref (a 0)), (1, .int x1)]) hx hb dX11_settles_38 hl (k := 3) rfl rfl (by decide) rfl (fun ls hl => ?_)
        refine lv_goto (tgt := 13) hx hb dX11_settles_41 (by decide) ?_
        exact ih x1 (x2 + 1) (x3 + 1) M_sums M_groups hf H locs hP hD hS ls (lv_sub hl [2, 3, 1, 0] rfl)
      · have hf := wk_t hf q5
        refine lv_iconst (v := 0) hx hb dX11_settles_31 (by decide) ?_
        refine lv_goto (tgt := 36) hx hb dX11_settles_32 (by decide) ?_
        refine lv_iadd hx hb dX11_settles_36 ?_
        refine lv_istore_n (lv' := [(2, .int (x2 + 0)), (0, .ref (a 0)), (1, .int x1), (3, .int x3)]) hx hb dX11_settles_37 rfl hl (by decide) rfl (fun ls hl => ?_)
        refine lv_iinc (v := (x3 + 1)) (lv' := [(3, .int (x3 + 1)), (2, .int (x2 + 0)), (0, .ref (a 0)), (1, .int x1)]) hx hb dX11_settles_38 hl (k := 3) rfl rfl (by decide) rfl (fun ls hl => ?_)
        refine lv_goto (tgt := 13) hx hb dX11_settles_41 (by decide) ?_
        exact ih x1 (x2 + 0) (x3 + 1) M_sums M_groups hf H locs hP hD hS ls (lv_sub hl [2, 3, 1, 0] rfl)
set_option maxHeartbeats 4000000 in
set_option maxRecDepth 100000 in
theorem c_X11_settles (l : Launch) (dC : Nat → ClassId) (dI : Nat → Nat → Nat) (Y : Nat → ClassId) (a : Nat → Nat) (M_g : Nat → Int32) (M_kept : Nat → Int32) (M_saved : Nat → Int32) (M_before : Nat → Int32) (M_isSaved : Int32) (M_changes : Int32) (M_isWithin : Int32) (M_code : Int32) (M_input : Nat → Int32) (M_length : Int32) (M_fault : Int32) (M_failed : Int32) (M_signs : Nat → Int32) (M_signMany : Int32) (M_column : Nat → Int32) (M_loads : Nat → Int32) (M_many : Int32) (M_sums : Nat → Int32) (M_groups : Nat → Int32) (M_at : Int32) (M_told : Nat → Int32) (M_toldMany : Int32)  (sz : Nat) (r : Int32) (zM_sums : Nat → Int32) (zM_groups : Nat → Int32) (hf : f_X11_settles M_g M_sums M_groups = some (r, zM_sums, zM_groups)) : Met l yX11_settles wsX11_settles ({ frames := 0, cells := 0, slots := 0, locals := 0 } : Room) (va_Pc [.ref (a 0)] (wk_E (dC, dI) Y (wX11 Y a M_g M_kept M_saved M_before M_isSaved M_changes M_isWithin M_code M_input M_length M_fault M_failed M_signs M_signMany M_column M_loads M_many M_sums M_groups M_at M_told M_toldMany) sz)) (va_Qi (fun r2 (_ : Unit) => r2 = r) (fun _ t => wk_X (dC, dI) Y (wX11 Y a M_g M_kept M_saved M_before M_isSaved M_changes M_isWithin M_code M_input M_length M_fault M_failed M_signs M_signMany M_column M_loads M_many zM_sums zM_groups M_at M_told M_toldMany) (va_A (wX11 Y a M_g M_kept M_saved M_before M_isSaved M_changes M_isWithin M_code M_input M_length M_fault M_failed M_signs M_signMany M_column M_loads M_many M_sums M_groups M_at M_told M_toldMany) sz) t) (va_A (wX11 Y a M_g M_kept M_saved M_before M_isSaved M_changes M_isWithin M_code M_input M_length M_fault M_failed M_signs M_signMany M_column M_loads M_many M_sums M_groups M_at M_told M_toldMany) sz)) 0 0 (va_A (wX11 Y a M_g M_kept M_saved M_before M_isSaved M_changes M_isWithin M_code M_input M_length M_fault M_failed M_signs M_signMany M_column M_loads M_many M_sums M_groups M_at M_told M_toldMany) sz) := by
  refine Met.ofW (cc := cX11_settles) (maxL := 8) (ret := (some .int)) (by decide) rfl ?_
  intro p e s m args below meth c s₁ B hml hv
  obtain ⟨rfl, hsz, hP, hK, hD0⟩ := hv
  have hx := B.exec
  have hb := B.bytes
  have hr := B.returns
  have hts := atoms_spec (ws := wsX11_settles) B.pre
  have hown : s.vm.findClass RX11 = some m.cls := findClass_of_methodNamed B.named
  have hlocks := B.notSynchronized
  have C0 : wk_C p s m _ meth c cX11_settles 8 (some .int) wsX11_settles RX11 := ⟨hx, hb, hml, hr, hlocks, hown, hts⟩
  subst hsz
  have hD := hD0.self (sz := s.heap.size)
  generalize hAe : va_A (wX11 Y a M_g M_kept M_saved M_before M_isSaved M_changes M_isWithin M_code M_input M_length M_fault M_failed M_signs M_signMany M_column M_loads M_many M_sums M_groups M_at M_told M_toldMany) s.heap.size = A at hD ⊢
  have hA : ∀ q : Nat, s.heap.size ≤ q → A q := fun q h => by rw [← hAe]; exact Or.inr h
  have hS : va_S A s.heap s.heap [] := va_S.rf
  obtain ⟨H, hHe⟩ : ∃ H, H = s.heap := ⟨_, rfl⟩
  have hS : va_S A s.heap H [] := by rw [hHe]; exact hS
  have hP : va_P (dC, dI) vwCl [(a 0, .inr (11, [.ref (a 1), .ref (a 2), .ref (a 3), .ref (a 4), .int M_isSaved, .int M_changes, .int M_isWithin, .int M_code, .ref (a 5), .int M_length, .int M_fault, .int M_failed, .ref (a 6), .int M_signMany, .ref (a 7), .ref (a 8), .int M_many, .ref (a 9), .ref (a 10), .int M_at, .ref (a 11), .int M_toldMany])), (a 1, .inl (Y 0, 238, .inl M_g)), (a 2, .inl (Y 0, 1904, .inl M_kept)), (a 3, .inl (Y 0, 238, .inl M_saved)), (a 4, .inl (Y 0, 238, .inl M_before)), (a 5, .inl (Y 0, 60, .inl M_input)), (a 6, .inl (Y 2, 100, .inl M_signs)), (a 7, .inl (Y 0, 6, .inl M_column)), (a 8, .inl (Y 0, 6, .inl M_loads)), (a 9, .inl (Y 0, 2048, .inl M_sums)), (a 10, .inl (Y 0, 2048, .inl M_groups)), (a 11, .inl (Y 0, 155, .inl M_told))] H := by rw [hHe]; exact hP
  have hD : va_D A [(a 0, .inr (11, [.ref (a 1), .ref (a 2), .ref (a 3), .ref (a 4), .int M_isSaved, .int M_changes, .int M_isWithin, .int M_code, .ref (a 5), .int M_length, .int M_fault, .int M_failed, .ref (a 6), .int M_signMany, .ref (a 7), .ref (a 8), .int M_many, .ref (a 9), .ref (a 10), .int M_at, .ref (a 11), .int M_toldMany])), (a 1, .inl (Y 0, 238, .inl M_g)), (a 2, .inl (Y 0, 1904, .inl M_kept)), (a 3, .inl (Y 0, 238, .inl M_saved)), (a 4, .inl (Y 0, 238, .inl M_before)), (a 5, .inl (Y 0, 60, .inl M_input)), (a 6, .inl (Y 2, 100, .inl M_signs)), (a 7, .inl (Y 0, 6, .inl M_column)), (a 8, .inl (Y 0, 6, .inl M_loads)), (a 9, .inl (Y 0, 2048, .inl M_sums)), (a 10, .inl (Y 0, 2048, .inl M_groups)), (a 11, .inl (Y 0, 155, .inl M_told))] := hD
  obtain ⟨locs, hlo⟩ : ∃ locs : List Loc, locs = [] := ⟨_, rfl⟩
  have hS : va_S A s.heap H locs := by rw [hlo]; exact hS
  have hl := lv_entry ([.ref (a 0)]) (n := 8) (Nat.le_of_ble_eq_true rfl)
  rw [lg_entry_eq]
  generalize (lg_sl ([.ref (a 0)]) ++ List.replicate (8 - (lg_sl ([.ref (a 0)])).length) Slot.unset).toArray = ls at hl ⊢
  have hl : lv_has ls 8 [(0, .ref (a 0))] := hl
  refine wk_start hHe hlo ?_
  rw [f_X11_settles] at hf
  refine lv_iconst (v := 5) hx hb dX11_settles_0 (by decide) ?_
  refine lv_aload_n hx hb dX11_settles_1 rfl (lv_at hl 0 rfl) ?_
  refine va_get (D := (dC, dI)) (ci := 11) (v := .ref (a 1)) (C := RX11) (T := TX11) (N := 22) hx hb hts in_X11_settles_X11 hown hK hP 0 rfl rfl 0 (by decide) (hts _ lk_X11_settles_RX11_7) (fun _ h9 => h9) rfl dX11_settles_2 ?_
  refine lv_iconst (v := 0) hx hb dX11_settles_5 (by decide) ?_
  refine wk_iald hx hb hK hP 1 0 (k := 0) rfl rfl (vp_lit (by decide)) (by decide) dX11_settles_6 ?_
  refine lv_iadd hx hb dX11_settles_7 ?_
  refine lv_istore_n (lv' := [(1, .int (5 + (M_g 0))), (0, .ref (a 0))]) hx hb dX11_settles_8 rfl hl (by decide) rfl (fun ls hl => ?_)
  refine lv_iconst (v := 0) hx hb dX11_settles_9 (by decide) ?_
  refine lv_istore_n (lv' := [(2, .int 0), (1, .int (5 + (M_g 0))), (0, .ref (a 0))]) hx hb dX11_settles_10 rfl hl (by decide) rfl (fun ls hl => ?_)
  refine lv_iconst (v := 0) hx hb dX11_settles_11 (by decide) ?_
  refine lv_istore_n (lv' := [(3, .int 0), (2, .int 0), (1, .int (5 + (M_g 0))), (0, .ref (a 0))]) hx hb dX11_settles_12 rfl hl (by decide) rfl (fun ls hl => ?_)
  exact wl_X11_settles_L13 C0 hK hA FU (5 + (M_g 0)) 0 0 M_sums M_groups hf H locs hP hD hS ls (lv_sub hl [3, 2, 1, 0] rfl)
theorem lk_X11_fewestTransfers_RX11_51 : Cond.fieldLink RX11 51 "CircusLedgerModel" "code" "I" ∈ wsX11_fewestTransfers := by decide +kernel
theorem in_X11_fewestTransfers_X11 : ∀ w ∈ u_ws RX11 TX11 22, w ∈ wsX11_fewestTransfers := by decide +kernel
def f_X11_fewestTransfers (M_g : Nat → Int32) (M_code : Int32) (M_sums : Nat → Int32) (M_groups : Nat → Int32) : Option (Int32 × Int32 × (Nat → Int32) × (Nat → Int32)) :=
  wkb3 (f_X11_settles M_g M_sums M_groups) (fun r1 w2 w3 =>
  some (r1, 0, w2, w3))
set_option maxHeartbeats 4000000 in
set_option maxRecDepth 100000 in
theorem c_X11_fewestTransfers (l : Launch) (dC : Nat → ClassId) (dI : Nat → Nat → Nat) (Y : Nat → ClassId) (a : Nat → Nat) (M_g : Nat → Int32) (M_kept : Nat → Int32) (M_saved : Nat → Int32) (M_before : Nat → Int32) (M_isSaved : Int32) (M_changes : Int32) (M_isWithin : Int32) (M_code : Int32) (M_input : Nat → Int32) (M_length : Int32) (M_fault : Int32) (M_failed : Int32) (M_signs : Nat → Int32) (M_signMany : Int32) (M_column : Nat → Int32) (M_loads : Nat → Int32) (M_many : Int32) (M_sums : Nat → Int32) (M_groups : Nat → Int32) (M_at : Int32) (M_told : Nat → Int32) (M_toldMany : Int32)  (sz : Nat) (r : Int32) (zM_code : Int32) (zM_sums : Nat → Int32) (zM_groups : Nat → Int32) (hf : f_X11_fewestTransfers M_g M_code M_sums M_groups = some (r, zM_code, zM_sums, zM_groups)) : Met l yX11_fewestTransfers wsX11_fewestTransfers ({ frames := 1, cells := 0, slots := 0, locals := 27 } : Room) (va_Pc [.ref (a 0)] (wk_E (dC, dI) Y (wX11 Y a M_g M_kept M_saved M_before M_isSaved M_changes M_isWithin M_code M_input M_length M_fault M_failed M_signs M_signMany M_column M_loads M_many M_sums M_groups M_at M_told M_toldMany) sz)) (va_Qi (fun r2 (_ : Unit) => r2 = r) (fun _ t => wk_X (dC, dI) Y (wX11 Y a M_g M_kept M_saved M_before M_isSaved M_changes M_isWithin zM_code M_input M_length M_fault M_failed M_signs M_signMany M_column M_loads M_many zM_sums zM_groups M_at M_told M_toldMany) (va_A (wX11 Y a M_g M_kept M_saved M_before M_isSaved M_changes M_isWithin M_code M_input M_length M_fault M_failed M_signs M_signMany M_column M_loads M_many M_sums M_groups M_at M_told M_toldMany) sz) t) (va_A (wX11 Y a M_g M_kept M_saved M_before M_isSaved M_changes M_isWithin M_code M_input M_length M_fault M_failed M_signs M_signMany M_column M_loads M_many M_sums M_groups M_at M_told M_toldMany) sz)) 0 0 (va_A (wX11 Y a M_g M_kept M_saved M_before M_isSaved M_changes M_isWithin M_code M_input M_length M_fault M_failed M_signs M_signMany M_column M_loads M_many M_sums M_groups M_at M_told M_toldMany) sz) := by
  refine Met.ofW (cc := cX11_fewestTransfers) (maxL := 1) (ret := (some .int)) (by decide) rfl ?_
  intro p e s m args below meth c s₁ B hml hv
  obtain ⟨rfl, hsz, hP, hK, hD0⟩ := hv
  have hx := B.exec
  have hb := B.bytes
  have hr := B.returns
  have hts := atoms_spec (ws := wsX11_fewestTransfers) B.pre
  have hown : s.vm.findClass RX11 = some m.cls := findClass_of_methodNamed B.named
  have hlocks := B.notSynchronized
  have C0 : wk_C p s m _ meth c cX11_fewestTransfers 1 (some .int) wsX11_fewestTransfers RX11 := ⟨hx, hb, hml, hr, hlocks, hown, hts⟩
  subst hsz
  have hD := hD0.self (sz := s.heap.size)
  generalize hAe : va_A (wX11 Y a M_g M_kept M_saved M_before M_isSaved M_changes M_isWithin M_code M_input M_length M_fault M_failed M_signs M_signMany M_column M_loads M_many M_sums M_groups M_at M_told M_toldMany) s.heap.size = A at hD ⊢
  have hA : ∀ q : Nat, s.heap.size ≤ q → A q := fun q h => by rw [← hAe]; exact Or.inr h
  have hS : va_S A s.heap s.heap [] := va_S.rf
  obtain ⟨H, hHe⟩ : ∃ H, H = s.heap := ⟨_, rfl⟩
  have hS : va_S A s.heap H [] := by rw [hHe]; exact hS
  have hP : va_P (dC, dI) vwCl [(a 0, .inr (11, [.ref (a 1), .ref (a 2), .ref (a 3), .ref (a 4), .int M_isSaved, .int M_changes, .int M_isWithin, .int M_code, .ref (a 5), .int M_length, .int M_fault, .int M_failed, .ref (a 6), .int M_signMany, .ref (a 7), .ref (a 8), .int M_many, .ref (a 9), .ref (a 10), .int M_at, .ref (a 11), .int M_toldMany])), (a 1, .inl (Y 0, 238, .inl M_g)), (a 2, .inl (Y 0, 1904, .inl M_kept)), (a 3, .inl (Y 0, 238, .inl M_saved)), (a 4, .inl (Y 0, 238, .inl M_before)), (a 5, .inl (Y 0, 60, .inl M_input)), (a 6, .inl (Y 2, 100, .inl M_signs)), (a 7, .inl (Y 0, 6, .inl M_column)), (a 8, .inl (Y 0, 6, .inl M_loads)), (a 9, .inl (Y 0, 2048, .inl M_sums)), (a 10, .inl (Y 0, 2048, .inl M_groups)), (a 11, .inl (Y 0, 155, .inl M_told))] H := by rw [hHe]; exact hP
  have hD : va_D A [(a 0, .inr (11, [.ref (a 1), .ref (a 2), .ref (a 3), .ref (a 4), .int M_isSaved, .int M_changes, .int M_isWithin, .int M_code, .ref (a 5), .int M_length, .int M_fault, .int M_failed, .ref (a 6), .int M_signMany, .ref (a 7), .ref (a 8), .int M_many, .ref (a 9), .ref (a 10), .int M_at, .ref (a 11), .int M_toldMany])), (a 1, .inl (Y 0, 238, .inl M_g)), (a 2, .inl (Y 0, 1904, .inl M_kept)), (a 3, .inl (Y 0, 238, .inl M_saved)), (a 4, .inl (Y 0, 238, .inl M_before)), (a 5, .inl (Y 0, 60, .inl M_input)), (a 6, .inl (Y 2, 100, .inl M_signs)), (a 7, .inl (Y 0, 6, .inl M_column)), (a 8, .inl (Y 0, 6, .inl M_loads)), (a 9, .inl (Y 0, 2048, .inl M_sums)), (a 10, .inl (Y 0, 2048, .inl M_groups)), (a 11, .inl (Y 0, 155, .inl M_told))] := hD
  obtain ⟨locs, hlo⟩ : ∃ locs : List Loc, locs = [] := ⟨_, rfl⟩
  have hS : va_S A s.heap H locs := by rw [hlo]; exact hS
  have hl := lv_entry ([.ref (a 0)]) (n := 1) (Nat.le_of_ble_eq_true rfl)
  rw [lg_entry_eq]
  generalize (lg_sl ([.ref (a 0)]) ++ List.replicate (1 - (lg_sl ([.ref (a 0)])).length) Slot.unset).toArray = ls at hl ⊢
  have hl : lv_has ls 1 [(0, .ref (a 0))] := hl
  refine wk_start hHe hlo ?_
  rw [f_X11_fewestTransfers] at hf
  refine lv_aload_n hx hb dX11_fewestTransfers_0 rfl (lv_at hl 0 rfl) ?_
  refine lv_iconst (v := 0) hx hb dX11_fewestTransfers_1 (by decide) ?_
  refine va_put (D := (dC, dI)) (ci := 11) (v := .int 0) (ty := .int) (C := RX11) (T := TX11) (N := 22) hx hb hts in_X11_fewestTransfers_X11 tyX11 tyX11_ok nmX11 hown hK hP hD hS 0 rfl rfl 7 (by decide) (hts _ lk_X11_fewestTransfers_RX11_51) (fun _ h9 => h9) rfl (by decide +kernel) rfl rfl (Nat.le_of_ble_eq_true rfl) dX11_fewestTransfers_2 (fun H locs hP hD hS => ?_)
  have hP : va_P (dC, dI) vwCl [(a 0, .inr (11, [.ref (a 1), .ref (a 2), .ref (a 3), .ref (a 4), .int M_isSaved, .int M_changes, .int M_isWithin, .int 0, .ref (a 5), .int M_length, .int M_fault, .int M_failed, .ref (a 6), .int M_signMany, .ref (a 7), .ref (a 8), .int M_many, .ref (a 9), .ref (a 10), .int M_at, .ref (a 11), .int M_toldMany])), (a 1, .inl (Y 0, 238, .inl M_g)), (a 2, .inl (Y 0, 1904, .inl M_kept)), (a 3, .inl (Y 0, 238, .inl M_saved)), (a 4, .inl (Y 0, 238, .inl M_before)), (a 5, .inl (Y 0, 60, .inl M_input)), (a 6, .inl (Y 2, 100, .inl M_signs)), (a 7, .inl (Y 0, 6, .inl M_column)), (a 8, .inl (Y 0, 6, .inl M_loads)), (a 9, .inl (Y 0, 2048, .inl M_sums)), (a 10, .inl (Y 0, 2048, .inl M_groups)), (a 11, .inl (Y 0, 155, .inl M_told))] H := hP
  have hD : va_D A [(a 0, .inr (11, [.ref (a 1), .ref (a 2), .ref (a 3), .ref (a 4), .int M_isSaved, .int M_changes, .int M_isWithin, .int 0, .ref (a 5), .int M_length, .int M_fault, .int M_failed, .ref (a 6), .int M_signMany, .ref (a 7), .ref (a 8), .int M_many, .ref (a 9), .ref (a 10), .int M_at, .ref (a 11), .int M_toldMany])), (a 1, .inl (Y 0, 238, .inl M_g)), (a 2, .inl (Y 0, 1904, .inl M_kept)), (a 3, .inl (Y 0, 238, .inl M_saved)), (a 4, .inl (Y 0, 238, .inl M_before)), (a 5, .inl (Y 0, 60, .inl M_input)), (a 6, .inl (Y 2, 100, .inl M_signs)), (a 7, .inl (Y 0, 6, .inl M_column)), (a 8, .inl (Y 0, 6, .inl M_loads)), (a 9, .inl (Y 0, 2048, .inl M_sums)), (a 10, .inl (Y 0, 2048, .inl M_groups)), (a 11, .inl (Y 0, 155, .inl M_told))] := hD
  refine lv_aload_n hx hb dX11_fewestTransfers_5 rfl (lv_at hl 0 rfl) ?_
  obtain ⟨r1, w2, w3, hr4, hf⟩ := wkb3_s hf
  refine wk_evi (As := []) (rest := []) (wc := (wX11 Y a M_g M_kept M_saved M_before M_isSaved M_changes M_isWithin 0 M_input M_length M_fault M_failed M_signs M_signMany M_column M_loads M_many M_sums M_groups M_at M_told M_toldMany)) (w1 := (wX11 Y a M_g M_kept M_saved M_before M_isSaved M_changes M_isWithin 0 M_input M_length M_fault M_failed M_signs M_signMany M_column M_loads M_many w2 w3 M_at M_told M_toldMany)) (wr := []) ⟨hx, hb, hml, hown, hts⟩ (c_X11_settles l dC dI Y a M_g M_kept M_saved M_before M_isSaved M_changes M_isWithin 0 M_input M_length M_fault M_failed M_signs M_signMany M_column M_loads M_many M_sums M_groups M_at M_told M_toldMany H.size r1 w2 w3 hr4) (cwV 0 hts gX11_fewestTransfers_X11_settles rfl rfl rfl (by decide +kernel) ⟨Nat.le_of_ble_eq_true rfl, Nat.le_of_ble_eq_true rfl⟩) hK hP hD hS hA [0, 1, 2, 3, 4, 5, 6, 7, 8, 9, 10, 11] [] rfl rfl (by decide) (by decide) (by decide) (va_recv hK hP (ci := 11) (q0 := 0) rfl rfl) rfl hl.1 rfl (Nat.le_of_ble_eq_true rfl) dX11_fewestTransfers_6 ⟨Nat.le_of_ble_eq_true rfl, Nat.le_of_ble_eq_true rfl⟩ (fun H locs hP hD hS => ?_)
  have hP : va_P (dC, dI) vwCl [(a 0, .inr (11, [.ref (a 1), .ref (a 2), .ref (a 3), .ref (a 4), .int M_isSaved, .int M_changes, .int M_isWithin, .int 0, .ref (a 5), .int M_length, .int M_fault, .int M_failed, .ref (a 6), .int M_signMany, .ref (a 7), .ref (a 8), .int M_many, .ref (a 9), .ref (a 10), .int M_at, .ref (a 11), .int M_toldMany])), (a 1, .inl (Y 0, 238, .inl M_g)), (a 2, .inl (Y 0, 1904, .inl M_kept)), (a 3, .inl (Y 0, 238, .inl M_saved)), (a 4, .inl (Y 0, 238, .inl M_before)), (a 5, .inl (Y 0, 60, .inl M_input)), (a 6, .inl (Y 2, 100, .inl M_signs)), (a 7, .inl (Y 0, 6, .inl M_column)), (a 8, .inl (Y 0, 6, .inl M_loads)), (a 9, .inl (Y 0, 2048, .inl w2)), (a 10, .inl (Y 0, 2048, .inl w3)), (a 11, .inl (Y 0, 155, .inl M_told))] H := hP
  have hD : va_D A [(a 0, .inr (11, [.ref (a 1), .ref (a 2), .ref (a 3), .ref (a 4), .int M_isSaved, .int M_changes, .int M_isWithin, .int 0, .ref (a 5), .int M_length, .int M_fault, .int M_failed, .ref (a 6), .int M_signMany, .ref (a 7), .ref (a 8), .int M_many, .ref (a 9), .ref (a 10), .int M_at, .ref (a 11), .int M_toldMany])), (a 1, .inl (Y 0, 238, .inl M_g)), (a 2, .inl (Y 0, 1904, .inl M_kept)), (a 3, .inl (Y 0, 238, .inl M_saved)), (a 4, .inl (Y 0, 238, .inl M_before)), (a 5, .inl (Y 0, 60, .inl M_input)), (a 6, .inl (Y 2, 100, .inl M_signs)), (a 7, .inl (Y 0, 6, .inl M_column)), (a 8, .inl (Y 0, 6, .inl M_loads)), (a 9, .inl (Y 0, 2048, .inl w2)), (a 10, .inl (Y 0, 2048, .inl w3)), (a 11, .inl (Y 0, 155, .inl M_told))] := hD
  obtain ⟨e0, e1, e2, e3⟩ := wke4 hf
  subst e0
  subst e1
  subst e2
  subst e3
  have hP9 := hP.sub (ws' := (wX11 Y a M_g M_kept M_saved M_before M_isSaved M_changes M_isWithin 0 M_input M_length M_fault M_failed M_signs M_signMany M_column M_loads M_many w2 w3 M_at M_told M_toldMany)) [0, 1, 2, 3, 4, 5, 6, 7, 8, 9, 10, 11] rfl
  have hD9 := hD.sub (ws' := (wX11 Y a M_g M_kept M_saved M_before M_isSaved M_changes M_isWithin 0 M_input M_length M_fault M_failed M_signs M_signMany M_column M_loads M_many w2 w3 M_at M_told M_toldMany)) [0, 1, 2, 3, 4, 5, 6, 7, 8, 9, 10, 11] (by decide) rfl
  exact W.iret (v := r1) hx hb hr (fun t ht hW => ⟨⟨r1, (), rfl, rfl, by rw [ht]; exact hP9, va_K.moved hW.alike hK, hD9⟩, hS.F ht⟩) hS.2.2 dX11_fewestTransfers_9
theorem lk_X11_fewestTransfersBySearch_RX11_51 : Cond.fieldLink RX11 51 "CircusLedgerModel" "code" "I" ∈ wsX11_fewestTransfersBySearch := by decide +kernel
theorem in_X11_fewestTransfersBySearch_X11 : ∀ w ∈ u_ws RX11 TX11 22, w ∈ wsX11_fewestTransfersBySearch := by decide +kernel
def f_X11_fewestTransfersBySearch (M_g : Nat → Int32) (M_code : Int32) (M_sums : Nat → Int32) (M_groups : Nat → Int32) : Option (Int32 × Int32 × (Nat → Int32) × (Nat → Int32)) :=
  wkb3 (f_X11_settles M_g M_sums M_groups) (fun r1 w2 w3 =>
  some (r1, 0, w2, w3))
set_option maxHeartbeats 4000000 in
set_option maxRecDepth 100000 in
theorem c_X11_fewestTransfersBySearch (l : Launch) (dC : Nat → ClassId) (dI : Nat → Nat → Nat) (Y : Nat → ClassId) (a : Nat → Nat) (M_g : Nat → Int32) (M_kept : Nat → Int32) (M_saved : Nat → Int32) (M_before : Nat → Int32) (M_isSaved : Int32) (M_changes : Int32) (M_isWithin : Int32) (M_code : Int32) (M_input : Nat → Int32) (M_length : Int32) (M_fault : Int32) (M_failed : Int32) (M_signs : Nat → Int32) (M_signMany : Int32) (M_column : Nat → Int32) (M_loads : Nat → Int32) (M_many : Int32) (M_sums : Nat → Int32) (M_groups : Nat → Int32) (M_at : Int32) (M_told : Nat → Int32) (M_toldMany : Int32)  (sz : Nat) (r : Int32) (zM_code : Int32) (zM_sums : Nat → Int32) (zM_groups : Nat → Int32) (hf : f_X11_fewestTransfersBySearch M_g M_code M_sums M_groups = some (r, zM_code, zM_sums, zM_groups)) : Met l yX11_fewestTransfersBySearch wsX11_fewestTransfersBySearch ({ frames := 1, cells := 0, slots := 0, locals := 27 } : Room) (va_Pc [.ref (a 0)] (wk_E (dC, dI) Y (wX11 Y a M_g M_kept M_saved M_before M_isSaved M_changes M_isWithin M_code M_input M_length M_fault M_failed M_signs M_signMany M_column M_loads M_many M_sums M_groups M_at M_told M_toldMany) sz)) (va_Qi (fun r2 (_ : Unit) => r2 = r) (fun _ t => wk_X (dC, dI) Y (wX11 Y a M_g M_kept M_saved M_before M_isSaved M_changes M_isWithin zM_code M_input M_length M_fault M_failed M_signs M_signMany M_column M_loads M_many zM_sums zM_groups M_at M_told M_toldMany) (va_A (wX11 Y a M_g M_kept M_saved M_before M_isSaved M_changes M_isWithin M_code M_input M_length M_fault M_failed M_signs M_signMany M_column M_loads M_many M_sums M_groups M_at M_told M_toldMany) sz) t) (va_A (wX11 Y a M_g M_kept M_saved M_before M_isSaved M_changes M_isWithin M_code M_input M_length M_fault M_failed M_signs M_signMany M_column M_loads M_many M_sums M_groups M_at M_told M_toldMany) sz)) 0 0 (va_A (wX11 Y a M_g M_kept M_saved M_before M_isSaved M_changes M_isWithin M_code M_input M_length M_fault M_failed M_signs M_signMany M_column M_loads M_many M_sums M_groups M_at M_told M_toldMany) sz) := by
  refine Met.ofW (cc := cX11_fewestTransfersBySearch) (maxL := 1) (ret := (some .int)) (by decide) rfl ?_
  intro p e s m args below meth c s₁ B hml hv
  obtain ⟨rfl, hsz, hP, hK, hD0⟩ := hv
  have hx := B.exec
  have hb := B.bytes
  have hr := B.returns
  have hts := atoms_spec (ws := wsX11_fewestTransfersBySearch) B.pre
  have hown : s.vm.findClass RX11 = some m.cls := findClass_of_methodNamed B.named
  have hlocks := B.notSynchronized
  have C0 : wk_C p s m _ meth c cX11_fewestTransfersBySearch 1 (some .int) wsX11_fewestTransfersBySearch RX11 := ⟨hx, hb, hml, hr, hlocks, hown, hts⟩
  subst hsz
  have hD := hD0.self (sz := s.heap.size)
  generalize hAe : va_A (wX11 Y a M_g M_kept M_saved M_before M_isSaved M_changes M_isWithin M_code M_input M_length M_fault M_failed M_signs M_signMany M_column M_loads M_many M_sums M_groups M_at M_told M_toldMany) s.heap.size = A at hD ⊢
  have hA : ∀ q : Nat, s.heap.size ≤ q → A q := fun q h => by rw [← hAe]; exact Or.inr h
  have hS : va_S A s.heap s.heap [] := va_S.rf
  obtain ⟨H, hHe⟩ : ∃ H, H = s.heap := ⟨_, rfl⟩
  have hS : va_S A s.heap H [] := by rw [hHe]; exact hS
  have hP : va_P (dC, dI) vwCl [(a 0, .inr (11, [.ref (a 1), .ref (a 2), .ref (a 3), .ref (a 4), .int M_isSaved, .int M_changes, .int M_isWithin, .int M_code, .ref (a 5), .int M_length, .int M_fault, .int M_failed, .ref (a 6), .int M_signMany, .ref (a 7), .ref (a 8), .int M_many, .ref (a 9), .ref (a 10), .int M_at, .ref (a 11), .int M_toldMany])), (a 1, .inl (Y 0, 238, .inl M_g)), (a 2, .inl (Y 0, 1904, .inl M_kept)), (a 3, .inl (Y 0, 238, .inl M_saved)), (a 4, .inl (Y 0, 238, .inl M_before)), (a 5, .inl (Y 0, 60, .inl M_input)), (a 6, .inl (Y 2, 100, .inl M_signs)), (a 7, .inl (Y 0, 6, .inl M_column)), (a 8, .inl (Y 0, 6, .inl M_loads)), (a 9, .inl (Y 0, 2048, .inl M_sums)), (a 10, .inl (Y 0, 2048, .inl M_groups)), (a 11, .inl (Y 0, 155, .inl M_told))] H := by rw [hHe]; exact hP
  have hD : va_D A [(a 0, .inr (11, [.ref (a 1), .ref (a 2), .ref (a 3), .ref (a 4), .int M_isSaved, .int M_changes, .int M_isWithin, .int M_code, .ref (a 5), .int M_length, .int M_fault, .int M_failed, .ref (a 6), .int M_signMany, .ref (a 7), .ref (a 8), .int M_many, .ref (a 9), .ref (a 10), .int M_at, .ref (a 11), .int M_toldMany])), (a 1, .inl (Y 0, 238, .inl M_g)), (a 2, .inl (Y 0, 1904, .inl M_kept)), (a 3, .inl (Y 0, 238, .inl M_saved)), (a 4, .inl (Y 0, 238, .inl M_before)), (a 5, .inl (Y 0, 60, .inl M_input)), (a 6, .inl (Y 2, 100, .inl M_signs)), (a 7, .inl (Y 0, 6, .inl M_column)), (a 8, .inl (Y 0, 6, .inl M_loads)), (a 9, .inl (Y 0, 2048, .inl M_sums)), (a 10, .inl (Y 0, 2048, .inl M_groups)), (a 11, .inl (Y 0, 155, .inl M_told))] := hD
  obtain ⟨locs, hlo⟩ : ∃ locs : List Loc, locs = [] := ⟨_, rfl⟩
  have hS : va_S A s.heap H locs := by rw [hlo]; exact hS
  have hl := lv_entry ([.ref (a 0)]) (n := 1) (Nat.le_of_ble_eq_true rfl)
  rw [lg_entry_eq]
  generalize (lg_sl ([.ref (a 0)]) ++ List.replicate (1 - (lg_sl ([.ref (a 0)])).length) Slot.unset).toArray = ls at hl ⊢
  have hl : lv_has ls 1 [(0, .ref (a 0))] := hl
  refine wk_start hHe hlo ?_
  rw [f_X11_fewestTransfersBySearch] at hf
  refine lv_aload_n hx hb dX11_fewestTransfersBySearch_0 rfl (lv_at hl 0 rfl) ?_
  refine lv_iconst (v := 0) hx hb dX11_fewestTransfersBySearch_1 (by decide) ?_
  refine va_put (D := (dC, dI)) (ci := 11) (v := .int 0) (ty := .int) (C := RX11) (T := TX11) (N := 22) hx hb hts in_X11_fewestTransfersBySearch_X11 tyX11 tyX11_ok nmX11 hown hK hP hD hS 0 rfl rfl 7 (by decide) (hts _ lk_X11_fewestTransfersBySearch_RX11_51) (fun _ h9 => h9) rfl (by decide +kernel) rfl rfl (Nat.le_of_ble_eq_true rfl) dX11_fewestTransfersBySearch_2 (fun H locs hP hD hS => ?_)
  have hP : va_P (dC, dI) vwCl [(a 0, .inr (11, [.ref (a 1), .ref (a 2), .ref (a 3), .ref (a 4), .int M_isSaved, .int M_changes, .int M_isWithin, .int 0, .ref (a 5), .int M_length, .int M_fault, .int M_failed, .ref (a 6), .int M_signMany, .ref (a 7), .ref (a 8), .int M_many, .ref (a 9), .ref (a 10), .int M_at, .ref (a 11), .int M_toldMany])), (a 1, .inl (Y 0, 238, .inl M_g)), (a 2, .inl (Y 0, 1904, .inl M_kept)), (a 3, .inl (Y 0, 238, .inl M_saved)), (a 4, .inl (Y 0, 238, .inl M_before)), (a 5, .inl (Y 0, 60, .inl M_input)), (a 6, .inl (Y 2, 100, .inl M_signs)), (a 7, .inl (Y 0, 6, .inl M_column)), (a 8, .inl (Y 0, 6, .inl M_loads)), (a 9, .inl (Y 0, 2048, .inl M_sums)), (a 10, .inl (Y 0, 2048, .inl M_groups)), (a 11, .inl (Y 0, 155, .inl M_told))] H := hP
  have hD : va_D A [(a 0, .inr (11, [.ref (a 1), .ref (a 2), .ref (a 3), .ref (a 4), .int M_isSaved, .int M_changes, .int M_isWithin, .int 0, .ref (a 5), .int M_length, .int M_fault, .int M_failed, .ref (a 6), .int M_signMany, .ref (a 7), .ref (a 8), .int M_many, .ref (a 9), .ref (a 10), .int M_at, .ref (a 11), .int M_toldMany])), (a 1, .inl (Y 0, 238, .inl M_g)), (a 2, .inl (Y 0, 1904, .inl M_kept)), (a 3, .inl (Y 0, 238, .inl M_saved)), (a 4, .inl (Y 0, 238, .inl M_before)), (a 5, .inl (Y 0, 60, .inl M_input)), (a 6, .inl (Y 2, 100, .inl M_signs)), (a 7, .inl (Y 0, 6, .inl M_column)), (a 8, .inl (Y 0, 6, .inl M_loads)), (a 9, .inl (Y 0, 2048, .inl M_sums)), (a 10, .inl (Y 0, 2048, .inl M_groups)), (a 11, .inl (Y 0, 155, .inl M_told))] := hD
  refine lv_aload_n hx hb dX11_fewestTransfersBySearch_5 rfl (lv_at hl 0 rfl) ?_
  obtain ⟨r1, w2, w3, hr4, hf⟩ := wkb3_s hf
  refine wk_evi (As := []) (rest := []) (wc := (wX11 Y a M_g M_kept M_saved M_before M_isSaved M_changes M_isWithin 0 M_input M_length M_fault M_failed M_signs M_signMany M_column M_loads M_many M_sums M_groups M_at M_told M_toldMany)) (w1 := (wX11 Y a M_g M_kept M_saved M_before M_isSaved M_changes M_isWithin 0 M_input M_length M_fault M_failed M_signs M_signMany M_column M_loads M_many w2 w3 M_at M_told M_toldMany)) (wr := []) ⟨hx, hb, hml, hown, hts⟩ (c_X11_settles l dC dI Y a M_g M_kept M_saved M_before M_isSaved M_changes M_isWithin 0 M_input M_length M_fault M_failed M_signs M_signMany M_column M_loads M_many M_sums M_groups M_at M_told M_toldMany H.size r1 w2 w3 hr4) (cwV 0 hts gX11_fewestTransfersBySearch_X11_settles rfl rfl rfl (by decide +kernel) ⟨Nat.le_of_ble_eq_true rfl, Nat.le_of_ble_eq_true rfl⟩) hK hP hD hS hA [0, 1, 2, 3, 4, 5, 6, 7, 8, 9, 10, 11] [] rfl rfl (by decide) (by decide) (by decide) (va_recv hK hP (ci := 11) (q0 := 0) rfl rfl) rfl hl.1 rfl (Nat.le_of_ble_eq_true rfl) dX11_fewestTransfersBySearch_6 ⟨Nat.le_of_ble_eq_true rfl, Nat.le_of_ble_eq_true rfl⟩ (fun H locs hP hD hS => ?_)
  have hP : va_P (dC, dI) vwCl [(a 0, .inr (11, [.ref (a 1), .ref (a 2), .ref (a 3), .ref (a 4), .int M_isSaved, .int M_changes, .int M_isWithin, .int 0, .ref (a 5), .int M_length, .int M_fault, .int M_failed, .ref (a 6), .int M_signMany, .ref (a 7), .ref (a 8), .int M_many, .ref (a 9), .ref (a 10), .int M_at, .ref (a 11), .int M_toldMany])), (a 1, .inl (Y 0, 238, .inl M_g)), (a 2, .inl (Y 0, 1904, .inl M_kept)), (a 3, .inl (Y 0, 238, .inl M_saved)), (a 4, .inl (Y 0, 238, .inl M_before)), (a 5, .inl (Y 0, 60, .inl M_input)), (a 6, .inl (Y 2, 100, .inl M_signs)), (a 7, .inl (Y 0, 6, .inl M_column)), (a 8, .inl (Y 0, 6, .inl M_loads)), (a 9, .inl (Y 0, 2048, .inl w2)), (a 10, .inl (Y 0, 2048, .inl w3)), (a 11, .inl (Y 0, 155, .inl M_told))] H := hP
  have hD : va_D A [(a 0, .inr (11, [.ref (a 1), .ref (a 2), .ref (a 3), .ref (a 4), .int M_isSaved, .int M_changes, .int M_isWithin, .int 0, .ref (a 5), .int M_length, .int M_fault, .int M_failed, .ref (a 6), .int M_signMany, .ref (a 7), .ref (a 8), .int M_many, .ref (a 9), .ref (a 10), .int M_at, .ref (a 11), .int M_toldMany])), (a 1, .inl (Y 0, 238, .inl M_g)), (a 2, .inl (Y 0, 1904, .inl M_kept)), (a 3, .inl (Y 0, 238, .inl M_saved)), (a 4, .inl (Y 0, 238, .inl M_before)), (a 5, .inl (Y 0, 60, .inl M_input)), (a 6, .inl (Y 2, 100, .inl M_signs)), (a 7, .inl (Y 0, 6, .inl M_column)), (a 8, .inl (Y 0, 6, .inl M_loads)), (a 9, .inl (Y 0, 2048, .inl w2)), (a 10, .inl (Y 0, 2048, .inl w3)), (a 11, .inl (Y 0, 155, .inl M_told))] := hD
  obtain ⟨e0, e1, e2, e3⟩ := wke4 hf
  subst e0
  subst e1
  subst e2
  subst e3
  have hP9 := hP.sub (ws' := (wX11 Y a M_g M_kept M_saved M_before M_isSaved M_changes M_isWithin 0 M_input M_length M_fault M_failed M_signs M_signMany M_column M_loads M_many w2 w3 M_at M_told M_toldMany)) [0, 1, 2, 3, 4, 5, 6, 7, 8, 9, 10, 11] rfl
  have hD9 := hD.sub (ws' := (wX11 Y a M_g M_kept M_saved M_before M_isSaved M_changes M_isWithin 0 M_input M_length M_fault M_failed M_signs M_signMany M_column M_loads M_many w2 w3 M_at M_told M_toldMany)) [0, 1, 2, 3, 4, 5, 6, 7, 8, 9, 10, 11] (by decide) rfl
  exact W.iret (v := r1) hx hb hr (fun t ht hW => ⟨⟨r1, (), rfl, rfl, by rw [ht]; exact hP9, va_K.moved hW.alike hK, hD9⟩, hS.F ht⟩) hS.2.2 dX11_fewestTransfersBySearch_9
theorem lk_X11_night_RX11_7 : Cond.fieldLink RX11 7 "CircusLedgerModel" "g" "[I" ∈ wsX11_night := by decide +kernel
theorem lk_X11_night_RX11_51 : Cond.fieldLink RX11 51 "CircusLedgerModel" "code" "I" ∈ wsX11_night := by decide +kernel
theorem in_X11_night_X11 : ∀ w ∈ u_ws RX11 TX11 22, w ∈ wsX11_night := by decide +kernel
def f_X11_night (M_g : Nat → Int32) (M_code : Int32) : Option (Int32 × Int32) :=
  some ((M_g 1), 0)
set_option maxHeartbeats 4000000 in
set_option maxRecDepth 100000 in
theorem c_X11_night (l : Launch) (dC : Nat → ClassId) (dI : Nat → Nat → Nat) (Y : Nat → ClassId) (a : Nat → Nat) (M_g : Nat → Int32) (M_kept : Nat → Int32) (M_saved : Nat → Int32) (M_before : Nat → Int32) (M_isSaved : Int32) (M_changes : Int32) (M_isWithin : Int32) (M_code : Int32) (M_input : Nat → Int32) (M_length : Int32) (M_fault : Int32) (M_failed : Int32) (M_signs : Nat → Int32) (M_signMany : Int32) (M_column : Nat → Int32) (M_loads : Nat → Int32) (M_many : Int32) (M_sums : Nat → Int32) (M_groups : Nat → Int32) (M_at : Int32) (M_told : Nat → Int32) (M_toldMany : Int32)  (sz : Nat) (r : Int32) (zM_code : Int32) (hf : f_X11_night M_g M_code = some (r, zM_code)) : Met l yX11_night wsX11_night ({ frames := 0, cells := 0, slots := 0, locals := 0 } : Room) (va_Pc [.ref (a 0)] (wk_E (dC, dI) Y (wX11 Y a M_g M_kept M_saved M_before M_isSaved M_changes M_isWithin M_code M_input M_length M_fault M_failed M_signs M_signMany M_column M_loads M_many M_sums M_groups M_at M_told M_toldMany) sz)) (va_Qi (fun r2 (_ : Unit) => r2 = r) (fun _ t => wk_X (dC, dI) Y (wX11 Y a M_g M_kept M_saved M_before M_isSaved M_changes M_isWithin zM_code M_input M_length M_fault M_failed M_signs M_signMany M_column M_loads M_many M_sums M_groups M_at M_told M_toldMany) (va_A (wX11 Y a M_g M_kept M_saved M_before M_isSaved M_changes M_isWithin M_code M_input M_length M_fault M_failed M_signs M_signMany M_column M_loads M_many M_sums M_groups M_at M_told M_toldMany) sz) t) (va_A (wX11 Y a M_g M_kept M_saved M_before M_isSaved M_changes M_isWithin M_code M_input M_length M_fault M_failed M_signs M_signMany M_column M_loads M_many M_sums M_groups M_at M_told M_toldMany) sz)) 0 0 (va_A (wX11 Y a M_g M_kept M_saved M_before M_isSaved M_changes M_isWithin M_code M_input M_length M_fault M_failed M_signs M_signMany M_column M_loads M_many M_sums M_groups M_at M_told M_toldMany) sz) := by
  refine Met.ofW (cc := cX11_night) (maxL := 1) (ret := (some .int)) (by decide) rfl ?_
  intro p e s m args below meth c s₁ B hml hv
  obtain ⟨rfl, hsz, hP, hK, hD0⟩ := hv
  have hx := B.exec
  have hb := B.bytes
  have hr := B.returns
  have hts := atoms_spec (ws := wsX11_night) B.pre
  have hown : s.vm.findClass RX11 = some m.cls := findClass_of_methodNamed B.named
  have hlocks := B.notSynchronized
  have C0 : wk_C p s m _ meth c cX11_night 1 (some .int) wsX11_night RX11 := ⟨hx, hb, hml, hr, hlocks, hown, hts⟩
  subst hsz
  have hD := hD0.self (sz := s.heap.size)
  generalize hAe : va_A (wX11 Y a M_g M_kept M_saved M_before M_isSaved M_changes M_isWithin M_code M_input M_length M_fault M_failed M_signs M_signMany M_column M_loads M_many M_sums M_groups M_at M_told M_toldMany) s.heap.size = A at hD ⊢
  have hA : ∀ q : Nat, s.heap.size ≤ q → A q := fun q h => by rw [← hAe]; exact Or.inr h
  have hS : va_S A s.heap s.heap [] := va_S.rf
  obtain ⟨H, hHe⟩ : ∃ H, H = s.heap := ⟨_, rfl⟩
  have hS : va_S A s.heap H [] := by rw [hHe]; exact hS
  have hP : va_P (dC, dI) vwCl [(a 0, .inr (11, [.ref (a 1), .ref (a 2), .ref (a 3), .ref (a 4), .int M_isSaved, .int M_changes, .int M_isWithin, .int M_code, .ref (a 5), .int M_length, .int M_fault, .int M_failed, .ref (a 6), .int M_signMany, .ref (a 7), .ref (a 8), .int M_many, .ref (a 9), .ref (a 10), .int M_at, .ref (a 11), .int M_toldMany])), (a 1, .inl (Y 0, 238, .inl M_g)), (a 2, .inl (Y 0, 1904, .inl M_kept)), (a 3, .inl (Y 0, 238, .inl M_saved)), (a 4, .inl (Y 0, 238, .inl M_before)), (a 5, .inl (Y 0, 60, .inl M_input)), (a 6, .inl (Y 2, 100, .inl M_signs)), (a 7, .inl (Y 0, 6, .inl M_column)), (a 8, .inl (Y 0, 6, .inl M_loads)), (a 9, .inl (Y 0, 2048, .inl M_sums)), (a 10, .inl (Y 0, 2048, .inl M_groups)), (a 11, .inl (Y 0, 155, .inl M_told))] H := by rw [hHe]; exact hP
  have hD : va_D A [(a 0, .inr (11, [.ref (a 1), .ref (a 2), .ref (a 3), .ref (a 4), .int M_isSaved, .int M_changes, .int M_isWithin, .int M_code, .ref (a 5), .int M_length, .int M_fault, .int M_failed, .ref (a 6), .int M_signMany, .ref (a 7), .ref (a 8), .int M_many, .ref (a 9), .ref (a 10), .int M_at, .ref (a 11), .int M_toldMany])), (a 1, .inl (Y 0, 238, .inl M_g)), (a 2, .inl (Y 0, 1904, .inl M_kept)), (a 3, .inl (Y 0, 238, .inl M_saved)), (a 4, .inl (Y 0, 238, .inl M_before)), (a 5, .inl (Y 0, 60, .inl M_input)), (a 6, .inl (Y 2, 100, .inl M_signs)), (a 7, .inl (Y 0, 6, .inl M_column)), (a 8, .inl (Y 0, 6, .inl M_loads)), (a 9, .inl (Y 0, 2048, .inl M_sums)), (a 10, .inl (Y 0, 2048, .inl M_groups)), (a 11, .inl (Y 0, 155, .inl M_told))] := hD
  obtain ⟨locs, hlo⟩ : ∃ locs : List Loc, locs = [] := ⟨_, rfl⟩
  have hS : va_S A s.heap H locs := by rw [hlo]; exact hS
  have hl := lv_entry ([.ref (a 0)]) (n := 1) (Nat.le_of_ble_eq_true rfl)
  rw [lg_entry_eq]
  generalize (lg_sl ([.ref (a 0)]) ++ List.replicate (1 - (lg_sl ([.ref (a 0)])).length) Slot.unset).toArray = ls at hl ⊢
  have hl : lv_has ls 1 [(0, .ref (a 0))] := hl
  refine wk_start hHe hlo ?_
  rw [f_X11_night] at hf
  refine lv_aload_n hx hb dX11_night_0 rfl (lv_at hl 0 rfl) ?_
  refine lv_iconst (v := 0) hx hb dX11_night_1 (by decide) ?_
  refine va_put (D := (dC, dI)) (ci := 11) (v := .int 0) (ty := .int) (C := RX11) (T := TX11) (N := 22) hx hb hts in_X11_night_X11 tyX11 tyX11_ok nmX11 hown hK hP hD hS 0 rfl rfl 7 (by decide) (hts _ lk_X11_night_RX11_51) (fun _ h9 => h9) rfl (by decide +kernel) rfl rfl (Nat.le_of_ble_eq_true rfl) dX11_night_2 (fun H locs hP hD hS => ?_)
  have hP : va_P (dC, dI) vwCl [(a 0, .inr (11, [.ref (a 1), .ref (a 2), .ref (a 3), .ref (a 4), .int M_isSaved, .int M_changes, .int M_isWithin, .int 0, .ref (a 5), .int M_length, .int M_fault, .int M_failed, .ref (a 6), .int M_signMany, .ref (a 7), .ref (a 8), .int M_many, .ref (a 9), .ref (a 10), .int M_at, .ref (a 11), .int M_toldMany])), (a 1, .inl (Y 0, 238, .inl M_g)), (a 2, .inl (Y 0, 1904, .inl M_kept)), (a 3, .inl (Y 0, 238, .inl M_saved)), (a 4, .inl (Y 0, 238, .inl M_before)), (a 5, .inl (Y 0, 60, .inl M_input)), (a 6, .inl (Y 2, 100, .inl M_signs)), (a 7, .inl (Y 0, 6, .inl M_column)), (a 8, .inl (Y 0, 6, .inl M_loads)), (a 9, .inl (Y 0, 2048, .inl M_sums)), (a 10, .inl (Y 0, 2048, .inl M_groups)), (a 11, .inl (Y 0, 155, .inl M_told))] H := hP
  have hD : va_D A [(a 0, .inr (11, [.ref (a 1), .ref (a 2), .ref (a 3), .ref (a 4), .int M_isSaved, .int M_changes, .int M_isWithin, .int 0, .ref (a 5), .int M_length, .int M_fault, .int M_failed, .ref (a 6), .int M_signMany, .ref (a 7), .ref (a 8), .int M_many, .ref (a 9), .ref (a 10), .int M_at, .ref (a 11), .int M_toldMany])), (a 1, .inl (Y 0, 238, .inl M_g)), (a 2, .inl (Y 0, 1904, .inl M_kept)), (a 3, .inl (Y 0, 238, .inl M_saved)), (a 4, .inl (Y 0, 238, .inl M_before)), (a 5, .inl (Y 0, 60, .inl M_input)), (a 6, .inl (Y 2, 100, .inl M_signs)), (a 7, .inl (Y 0, 6, .inl M_column)), (a 8, .inl (Y 0, 6, .inl M_loads)), (a 9, .inl (Y 0, 2048, .inl M_sums)), (a 10, .inl (Y 0, 2048, .inl M_groups)), (a 11, .inl (Y 0, 155, .inl M_told))] := hD
  refine lv_aload_n hx hb dX11_night_5 rfl (lv_at hl 0 rfl) ?_
  refine va_get (D := (dC, dI)) (ci := 11) (v := .ref (a 1)) (C := RX11) (T := TX11) (N := 22) hx hb hts in_X11_night_X11 hown hK hP 0 rfl rfl 0 (by decide) (hts _ lk_X11_night_RX11_7) (fun _ h9 => h9) rfl dX11_night_6 ?_
  refine lv_iconst (v := 1) hx hb dX11_night_9 (by decide) ?_
  refine wk_iald hx hb hK hP 1 0 (k := 1) rfl rfl (vp_lit (by decide)) (by decide) dX11_night_10 ?_
  obtain ⟨e0, e1⟩ := wke2 hf
  subst e0
  subst e1
  have hP9 := hP.sub (ws' := (wX11 Y a M_g M_kept M_saved M_before M_isSaved M_changes M_isWithin 0 M_input M_length M_fault M_failed M_signs M_signMany M_column M_loads M_many M_sums M_groups M_at M_told M_toldMany)) [0, 1, 2, 3, 4, 5, 6, 7, 8, 9, 10, 11] rfl
  have hD9 := hD.sub (ws' := (wX11 Y a M_g M_kept M_saved M_before M_isSaved M_changes M_isWithin 0 M_input M_length M_fault M_failed M_signs M_signMany M_column M_loads M_many M_sums M_groups M_at M_told M_toldMany)) [0, 1, 2, 3, 4, 5, 6, 7, 8, 9, 10, 11] (by decide) rfl
  exact W.iret (v := (M_g 1)) hx hb hr (fun t ht hW => ⟨⟨(M_g 1), (), rfl, rfl, by rw [ht]; exact hP9, va_K.moved hW.alike hK, hD9⟩, hS.F ht⟩) hS.2.2 dX11_night_11
theorem lk_X11_net_RX11_7 : Cond.fieldLink RX11 7 "CircusLedgerModel" "g" "[I" ∈ wsX11_net := by decide +kernel
theorem lk_X11_net_RX11_51 : Cond.fieldLink RX11 51 "CircusLedgerModel" "code" "I" ∈ wsX11_net := by decide +kernel
theorem in_X11_net_X11 : ∀ w ∈ u_ws RX11 TX11 22, w ∈ wsX11_net := by decide +kernel
def f_X11_net (M_g : Nat → Int32) (M_code : Int32) : Option (Int32 × Int32) :=
  some ((M_g 2), 0)
set_option maxHeartbeats 4000000 in
set_option maxRecDepth 100000 in
theorem c_X11_net (l : Launch) (dC : Nat → ClassId) (dI : Nat → Nat → Nat) (Y : Nat → ClassId) (a : Nat → Nat) (M_g : Nat → Int32) (M_kept : Nat → Int32) (M_saved : Nat → Int32) (M_before : Nat → Int32) (M_isSaved : Int32) (M_changes : Int32) (M_isWithin : Int32) (M_code : Int32) (M_input : Nat → Int32) (M_length : Int32) (M_fault : Int32) (M_failed : Int32) (M_signs : Nat → Int32) (M_signMany : Int32) (M_column : Nat → Int32) (M_loads : Nat → Int32) (M_many : Int32) (M_sums : Nat → Int32) (M_groups : Nat → Int32) (M_at : Int32) (M_told : Nat → Int32) (M_toldMany : Int32)  (sz : Nat) (r : Int32) (zM_code : Int32) (hf : f_X11_net M_g M_code = some (r, zM_code)) : Met l yX11_net wsX11_net ({ frames := 0, cells := 0, slots := 0, locals := 0 } : Room) (va_Pc [.ref (a 0)] (wk_E (dC, dI) Y (wX11 Y a M_g M_kept M_saved M_before M_isSaved M_changes M_isWithin M_code M_input M_length M_fault M_failed M_signs M_signMany M_column M_loads M_many M_sums M_groups M_at M_told M_toldMany) sz)) (va_Qi (fun r2 (_ : Unit) => r2 = r) (fun _ t => wk_X (dC, dI) Y (wX11 Y a M_g M_kept M_saved M_before M_isSaved M_changes M_isWithin zM_code M_input M_length M_fault M_failed M_signs M_signMany M_column M_loads M_many M_sums M_groups M_at M_told M_toldMany) (va_A (wX11 Y a M_g M_kept M_saved M_before M_isSaved M_changes M_isWithin M_code M_input M_length M_fault M_failed M_signs M_signMany M_column M_loads M_many M_sums M_groups M_at M_told M_toldMany) sz) t) (va_A (wX11 Y a M_g M_kept M_saved M_before M_isSaved M_changes M_isWithin M_code M_input M_length M_fault M_failed M_signs M_signMany M_column M_loads M_many M_sums M_groups M_at M_told M_toldMany) sz)) 0 0 (va_A (wX11 Y a M_g M_kept M_saved M_before M_isSaved M_changes M_isWithin M_code M_input M_length M_fault M_failed M_signs M_signMany M_column M_loads M_many M_sums M_groups M_at M_told M_toldMany) sz) := by
  refine Met.ofW (cc := cX11_net) (maxL := 1) (ret := (some .int)) (by decide) rfl ?_
  intro p e s m args below meth c s₁ B hml hv
  obtain ⟨rfl, hsz, hP, hK, hD0⟩ := hv
  have hx := B.exec
  have hb := B.bytes
  have hr := B.returns
  have hts := atoms_spec (ws := wsX11_net) B.pre
  have hown : s.vm.findClass RX11 = some m.cls := findClass_of_methodNamed B.named
  have hlocks := B.notSynchronized
  have C0 : wk_C p s m _ meth c cX11_net 1 (some .int) wsX11_net RX11 := ⟨hx, hb, hml, hr, hlocks, hown, hts⟩
  subst hsz
  have hD := hD0.self (sz := s.heap.size)
  generalize hAe : va_A (wX11 Y a M_g M_kept M_saved M_before M_isSaved M_changes M_isWithin M_code M_input M_length M_fault M_failed M_signs M_signMany M_column M_loads M_many M_sums M_groups M_at M_told M_toldMany) s.heap.size = A at hD ⊢
  have hA : ∀ q : Nat, s.heap.size ≤ q → A q := fun q h => by rw [← hAe]; exact Or.inr h
  have hS : va_S A s.heap s.heap [] := va_S.rf
  obtain ⟨H, hHe⟩ : ∃ H, H = s.heap := ⟨_, rfl⟩
  have hS : va_S A s.heap H [] := by rw [hHe]; exact hS
  have hP : va_P (dC, dI) vwCl [(a 0, .inr (11, [.ref (a 1), .ref (a 2), .ref (a 3), .ref (a 4), .int M_isSaved, .int M_changes, .int M_isWithin, .int M_code, .ref (a 5), .int M_length, .int M_fault, .int M_failed, .ref (a 6), .int M_signMany, .ref (a 7), .ref (a 8), .int M_many, .ref (a 9), .ref (a 10), .int M_at, .ref (a 11), .int M_toldMany])), (a 1, .inl (Y 0, 238, .inl M_g)), (a 2, .inl (Y 0, 1904, .inl M_kept)), (a 3, .inl (Y 0, 238, .inl M_saved)), (a 4, .inl (Y 0, 238, .inl M_before)), (a 5, .inl (Y 0, 60, .inl M_input)), (a 6, .inl (Y 2, 100, .inl M_signs)), (a 7, .inl (Y 0, 6, .inl M_column)), (a 8, .inl (Y 0, 6, .inl M_loads)), (a 9, .inl (Y 0, 2048, .inl M_sums)), (a 10, .inl (Y 0, 2048, .inl M_groups)), (a 11, .inl (Y 0, 155, .inl M_told))] H := by rw [hHe]; exact hP
  have hD : va_D A [(a 0, .inr (11, [.ref (a 1), .ref (a 2), .ref (a 3), .ref (a 4), .int M_isSaved, .int M_changes, .int M_isWithin, .int M_code, .ref (a 5), .int M_length, .int M_fault, .int M_failed, .ref (a 6), .int M_signMany, .ref (a 7), .ref (a 8), .int M_many, .ref (a 9), .ref (a 10), .int M_at, .ref (a 11), .int M_toldMany])), (a 1, .inl (Y 0, 238, .inl M_g)), (a 2, .inl (Y 0, 1904, .inl M_kept)), (a 3, .inl (Y 0, 238, .inl M_saved)), (a 4, .inl (Y 0, 238, .inl M_before)), (a 5, .inl (Y 0, 60, .inl M_input)), (a 6, .inl (Y 2, 100, .inl M_signs)), (a 7, .inl (Y 0, 6, .inl M_column)), (a 8, .inl (Y 0, 6, .inl M_loads)), (a 9, .inl (Y 0, 2048, .inl M_sums)), (a 10, .inl (Y 0, 2048, .inl M_groups)), (a 11, .inl (Y 0, 155, .inl M_told))] := hD
  obtain ⟨locs, hlo⟩ : ∃ locs : List Loc, locs = [] := ⟨_, rfl⟩
  have hS : va_S A s.heap H locs := by rw [hlo]; exact hS
  have hl := lv_entry ([.ref (a 0)]) (n := 1) (Nat.le_of_ble_eq_true rfl)
  rw [lg_entry_eq]
  generalize (lg_sl ([.ref (a 0)]) ++ List.replicate (1 - (lg_sl ([.ref (a 0)])).length) Slot.unset).toArray = ls at hl ⊢
  have hl : lv_has ls 1 [(0, .ref (a 0))] := hl
  refine wk_start hHe hlo ?_
  rw [f_X11_net] at hf
  refine lv_aload_n hx hb dX11_net_0 rfl (lv_at hl 0 rfl) ?_
  refine lv_iconst (v := 0) hx hb dX11_net_1 (by decide) ?_
  refine va_put (D := (dC, dI)) (ci := 11) (v := .int 0) (ty := .int) (C := RX11) (T := TX11) (N := 22) hx hb hts in_X11_net_X11 tyX11 tyX11_ok nmX11 hown hK hP hD hS 0 rfl rfl 7 (by decide) (hts _ lk_X11_net_RX11_51) (fun _ h9 => h9) rfl (by decide +kernel) rfl rfl (Nat.le_of_ble_eq_true rfl) dX11_net_2 (fun H locs hP hD hS => ?_)
  have hP : va_P (dC, dI) vwCl [(a 0, .inr (11, [.ref (a 1), .ref (a 2), .ref (a 3), .ref (a 4), .int M_isSaved, .int M_changes, .int M_isWithin, .int 0, .ref (a 5), .int M_length, .int M_fault, .int M_failed, .ref (a 6), .int M_signMany, .ref (a 7), .ref (a 8), .int M_many, .ref (a 9), .ref (a 10), .int M_at, .ref (a 11), .int M_toldMany])), (a 1, .inl (Y 0, 238, .inl M_g)), (a 2, .inl (Y 0, 1904, .inl M_kept)), (a 3, .inl (Y 0, 238, .inl M_saved)), (a 4, .inl (Y 0, 238, .inl M_before)), (a 5, .inl (Y 0, 60, .inl M_input)), (a 6, .inl (Y 2, 100, .inl M_signs)), (a 7, .inl (Y 0, 6, .inl M_column)), (a 8, .inl (Y 0, 6, .inl M_loads)), (a 9, .inl (Y 0, 2048, .inl M_sums)), (a 10, .inl (Y 0, 2048, .inl M_groups)), (a 11, .inl (Y 0, 155, .inl M_told))] H := hP
  have hD : va_D A [(a 0, .inr (11, [.ref (a 1), .ref (a 2), .ref (a 3), .ref (a 4), .int M_isSaved, .int M_changes, .int M_isWithin, .int 0, .ref (a 5), .int M_length, .int M_fault, .int M_failed, .ref (a 6), .int M_signMany, .ref (a 7), .ref (a 8), .int M_many, .ref (a 9), .ref (a 10), .int M_at, .ref (a 11), .int M_toldMany])), (a 1, .inl (Y 0, 238, .inl M_g)), (a 2, .inl (Y 0, 1904, .inl M_kept)), (a 3, .inl (Y 0, 238, .inl M_saved)), (a 4, .inl (Y 0, 238, .inl M_before)), (a 5, .inl (Y 0, 60, .inl M_input)), (a 6, .inl (Y 2, 100, .inl M_signs)), (a 7, .inl (Y 0, 6, .inl M_column)), (a 8, .inl (Y 0, 6, .inl M_loads)), (a 9, .inl (Y 0, 2048, .inl M_sums)), (a 10, .inl (Y 0, 2048, .inl M_groups)), (a 11, .inl (Y 0, 155, .inl M_told))] := hD
  refine lv_aload_n hx hb dX11_net_5 rfl (lv_at hl 0 rfl) ?_
  refine va_get (D := (dC, dI)) (ci := 11) (v := .ref (a 1)) (C := RX11) (T := TX11) (N := 22) hx hb hts in_X11_net_X11 hown hK hP 0 rfl rfl 0 (by decide) (hts _ lk_X11_net_RX11_7) (fun _ h9 => h9) rfl dX11_net_6 ?_
  refine lv_iconst (v := 2) hx hb dX11_net_9 (by decide) ?_
  refine wk_iald hx hb hK hP 1 0 (k := 2) rfl rfl (vp_lit (by decide)) (by decide) dX11_net_10 ?_
  obtain ⟨e0, e1⟩ := wke2 hf
  subst e0
  subst e1
  have hP9 := hP.sub (ws' := (wX11 Y a M_g M_kept M_saved M_before M_isSaved M_changes M_isWithin 0 M_input M_length M_fault M_failed M_signs M_signMany M_column M_loads M_many M_sums M_groups M_at M_told M_toldMany)) [0, 1, 2, 3, 4, 5, 6, 7, 8, 9, 10, 11] rfl
  have hD9 := hD.sub (ws' := (wX11 Y a M_g M_kept M_saved M_before M_isSaved M_changes M_isWithin 0 M_input M_length M_fault M_failed M_signs M_signMany M_column M_loads M_many M_sums M_groups M_at M_told M_toldMany)) [0, 1, 2, 3, 4, 5, 6, 7, 8, 9, 10, 11] (by decide) rfl
  exact W.iret (v := (M_g 2)) hx hb hr (fun t ht hW => ⟨⟨(M_g 2), (), rfl, rfl, by rw [ht]; exact hP9, va_K.moved hW.alike hK, hD9⟩, hS.F ht⟩) hS.2.2 dX11_net_11
theorem lk_X11_showTotal_RX11_7 : Cond.fieldLink RX11 7 "CircusLedgerModel" "g" "[I" ∈ wsX11_showTotal := by decide +kernel
theorem lk_X11_showTotal_RX11_51 : Cond.fieldLink RX11 51 "CircusLedgerModel" "code" "I" ∈ wsX11_showTotal := by decide +kernel
theorem in_X11_showTotal_X11 : ∀ w ∈ u_ws RX11 TX11 22, w ∈ wsX11_showTotal := by decide +kernel
def f_X11_showTotal (M_g : Nat → Int32) (M_code : Int32) : Option (Int32 × Int32) :=
  some ((M_g 4), 0)
set_option maxHeartbeats 4000000 in
set_option maxRecDepth 100000 in
theorem c_X11_showTotal (l : Launch) (dC : Nat → ClassId) (dI : Nat → Nat → Nat) (Y : Nat → ClassId) (a : Nat → Nat) (M_g : Nat → Int32) (M_kept : Nat → Int32) (M_saved : Nat → Int32) (M_before : Nat → Int32) (M_isSaved : Int32) (M_changes : Int32) (M_isWithin : Int32) (M_code : Int32) (M_input : Nat → Int32) (M_length : Int32) (M_fault : Int32) (M_failed : Int32) (M_signs : Nat → Int32) (M_signMany : Int32) (M_column : Nat → Int32) (M_loads : Nat → Int32) (M_many : Int32) (M_sums : Nat → Int32) (M_groups : Nat → Int32) (M_at : Int32) (M_told : Nat → Int32) (M_toldMany : Int32)  (sz : Nat) (r : Int32) (zM_code : Int32) (hf : f_X11_showTotal M_g M_code = some (r, zM_code)) : Met l yX11_showTotal wsX11_showTotal ({ frames := 0, cells := 0, slots := 0, locals := 0 } : Room) (va_Pc [.ref (a 0)] (wk_E (dC, dI) Y (wX11 Y a M_g M_kept M_saved M_before M_isSaved M_changes M_isWithin M_code M_input M_length M_fault M_failed M_signs M_signMany M_column M_loads M_many M_sums M_groups M_at M_told M_toldMany) sz)) (va_Qi (fun r2 (_ : Unit) => r2 = r) (fun _ t => wk_X (dC, dI) Y (wX11 Y a M_g M_kept M_saved M_before M_isSaved M_changes M_isWithin zM_code M_input M_length M_fault M_failed M_signs M_signMany M_column M_loads M_many M_sums M_groups M_at M_told M_toldMany) (va_A (wX11 Y a M_g M_kept M_saved M_before M_isSaved M_changes M_isWithin M_code M_input M_length M_fault M_failed M_signs M_signMany M_column M_loads M_many M_sums M_groups M_at M_told M_toldMany) sz) t) (va_A (wX11 Y a M_g M_kept M_saved M_before M_isSaved M_changes M_isWithin M_code M_input M_length M_fault M_failed M_signs M_signMany M_column M_loads M_many M_sums M_groups M_at M_told M_toldMany) sz)) 0 0 (va_A (wX11 Y a M_g M_kept M_saved M_before M_isSaved M_changes M_isWithin M_code M_input M_length M_fault M_failed M_signs M_signMany M_column M_loads M_many M_sums M_groups M_at M_told M_toldMany) sz) := by
  refine Met.ofW (cc := cX11_showTotal) (maxL := 1) (ret := (some .int)) (by decide) rfl ?_
  intro p e s m args below meth c s₁ B hml hv
  obtain ⟨rfl, hsz, hP, hK, hD0⟩ := hv
  have hx := B.exec
  have hb := B.bytes
  have hr := B.returns
  have hts := atoms_spec (ws := wsX11_showTotal) B.pre
  have hown : s.vm.findClass RX11 = some m.cls := findClass_of_methodNamed B.named
  have hlocks := B.notSynchronized
  have C0 : wk_C p s m _ meth c cX11_showTotal 1 (some .int) wsX11_showTotal RX11 := ⟨hx, hb, hml, hr, hlocks, hown, hts⟩
  subst hsz
  have hD := hD0.self (sz := s.heap.size)
  generalize hAe : va_A (wX11 Y a M_g M_kept M_saved M_before M_isSaved M_changes M_isWithin M_code M_input M_length M_fault M_failed M_signs M_signMany M_column M_loads M_many M_sums M_groups M_at M_told M_toldMany) s.heap.size = A at hD ⊢
  have hA : ∀ q : Nat, s.heap.size ≤ q → A q := fun q h => by rw [← hAe]; exact Or.inr h
  have hS : va_S A s.heap s.heap [] := va_S.rf
  obtain ⟨H, hHe⟩ : ∃ H, H = s.heap := ⟨_, rfl⟩
  have hS : va_S A s.heap H [] := by rw [hHe]; exact hS
  have hP : va_P (dC, dI) vwCl [(a 0, .inr (11, [.ref (a 1), .ref (a 2), .ref (a 3), .ref (a 4), .int M_isSaved, .int M_changes, .int M_isWithin, .int M_code, .ref (a 5), .int M_length, .int M_fault, .int M_failed, .ref (a 6), .int M_signMany, .ref (a 7), .ref (a 8), .int M_many, .ref (a 9), .ref (a 10), .int M_at, .ref (a 11), .int M_toldMany])), (a 1, .inl (Y 0, 238, .inl M_g)), (a 2, .inl (Y 0, 1904, .inl M_kept)), (a 3, .inl (Y 0, 238, .inl M_saved)), (a 4, .inl (Y 0, 238, .inl M_before)), (a 5, .inl (Y 0, 60, .inl M_input)), (a 6, .inl (Y 2, 100, .inl M_signs)), (a 7, .inl (Y 0, 6, .inl M_column)), (a 8, .inl (Y 0, 6, .inl M_loads)), (a 9, .inl (Y 0, 2048, .inl M_sums)), (a 10, .inl (Y 0, 2048, .inl M_groups)), (a 11, .inl (Y 0, 155, .inl M_told))] H := by rw [hHe]; exact hP
  have hD : va_D A [(a 0, .inr (11, [.ref (a 1), .ref (a 2), .ref (a 3), .ref (a 4), .int M_isSaved, .int M_changes, .int M_isWithin, .int M_code, .ref (a 5), .int M_length, .int M_fault, .int M_failed, .ref (a 6), .int M_signMany, .ref (a 7), .ref (a 8), .int M_many, .ref (a 9), .ref (a 10), .int M_at, .ref (a 11), .int M_toldMany])), (a 1, .inl (Y 0, 238, .inl M_g)), (a 2, .inl (Y 0, 1904, .inl M_kept)), (a 3, .inl (Y 0, 238, .inl M_saved)), (a 4, .inl (Y 0, 238, .inl M_before)), (a 5, .inl (Y 0, 60, .inl M_input)), (a 6, .inl (Y 2, 100, .inl M_signs)), (a 7, .inl (Y 0, 6, .inl M_column)), (a 8, .inl (Y 0, 6, .inl M_loads)), (a 9, .inl (Y 0, 2048, .inl M_sums)), (a 10, .inl (Y 0, 2048, .inl M_groups)), (a 11, .inl (Y 0, 155, .inl M_told))] := hD
  obtain ⟨locs, hlo⟩ : ∃ locs : List Loc, locs = [] := ⟨_, rfl⟩
  have hS : va_S A s.heap H locs := by rw [hlo]; exact hS
  have hl := lv_entry ([.ref (a 0)]) (n := 1) (Nat.le_of_ble_eq_true rfl)
  rw [lg_entry_eq]
  generalize (lg_sl ([.ref (a 0)]) ++ List.replicate (1 - (lg_sl ([.ref (a 0)])).length) Slot.unset).toArray = ls at hl ⊢
  have hl : lv_has ls 1 [(0, .ref (a 0))] := hl
  refine wk_start hHe hlo ?_
  rw [f_X11_showTotal] at hf
  refine lv_aload_n hx hb dX11_showTotal_0 rfl (lv_at hl 0 rfl) ?_
  refine lv_iconst (v := 0) hx hb dX11_showTotal_1 (by decide) ?_
  refine va_put (D := (dC, dI)) (ci := 11) (v := .int 0) (ty := .int) (C := RX11) (T := TX11) (N := 22) hx hb hts in_X11_showTotal_X11 tyX11 tyX11_ok nmX11 hown hK hP hD hS 0 rfl rfl 7 (by decide) (hts _ lk_X11_showTotal_RX11_51) (fun _ h9 => h9) rfl (by decide +kernel) rfl rfl (Nat.le_of_ble_eq_true rfl) dX11_showTotal_2 (fun H locs hP hD hS => ?_)
  have hP : va_P (dC, dI) vwCl [(a 0, .inr (11, [.ref (a 1), .ref (a 2), .ref (a 3), .ref (a 4), .int M_isSaved, .int M_changes, .int M_isWithin, .int 0, .ref (a 5), .int M_length, .int M_fault, .int M_failed, .ref (a 6), .int M_signMany, .ref (a 7), .ref (a 8), .int M_many, .ref (a 9), .ref (a 10), .int M_at, .ref (a 11), .int M_toldMany])), (a 1, .inl (Y 0, 238, .inl M_g)), (a 2, .inl (Y 0, 1904, .inl M_kept)), (a 3, .inl (Y 0, 238, .inl M_saved)), (a 4, .inl (Y 0, 238, .inl M_before)), (a 5, .inl (Y 0, 60, .inl M_input)), (a 6, .inl (Y 2, 100, .inl M_signs)), (a 7, .inl (Y 0, 6, .inl M_column)), (a 8, .inl (Y 0, 6, .inl M_loads)), (a 9, .inl (Y 0, 2048, .inl M_sums)), (a 10, .inl (Y 0, 2048, .inl M_groups)), (a 11, .inl (Y 0, 155, .inl M_told))] H := hP
  have hD : va_D A [(a 0, .inr (11, [.ref (a 1), .ref (a 2), .ref (a 3), .ref (a 4), .int M_isSaved, .int M_changes, .int M_isWithin, .int 0, .ref (a 5), .int M_length, .int M_fault, .int M_failed, .ref (a 6), .int M_signMany, .ref (a 7), .ref (a 8), .int M_many, .ref (a 9), .ref (a 10), .int M_at, .ref (a 11), .int M_toldMany])), (a 1, .inl (Y 0, 238, .inl M_g)), (a 2, .inl (Y 0, 1904, .inl M_kept)), (a 3, .inl (Y 0, 238, .inl M_saved)), (a 4, .inl (Y 0, 238, .inl M_before)), (a 5, .inl (Y 0, 60, .inl M_input)), (a 6, .inl (Y 2, 100, .inl M_signs)), (a 7, .inl (Y 0, 6, .inl M_column)), (a 8, .inl (Y 0, 6, .inl M_loads)), (a 9, .inl (Y 0, 2048, .inl M_sums)), (a 10, .inl (Y 0, 2048, .inl M_groups)), (a 11, .inl (Y 0, 155, .inl M_told))] := hD
  refine lv_aload_n hx hb dX11_showTotal_5 rfl (lv_at hl 0 rfl) ?_
  refine va_get (D := (dC, dI)) (ci := 11) (v := .ref (a 1)) (C := RX11) (T := TX11) (N := 22) hx hb hts in_X11_showTotal_X11 hown hK hP 0 rfl rfl 0 (by decide) (hts _ lk_X11_showTotal_RX11_7) (fun _ h9 => h9) rfl dX11_showTotal_6 ?_
  refine lv_iconst (v := 4) hx hb dX11_showTotal_9 (by decide) ?_
  refine wk_iald hx hb hK hP 1 0 (k := 4) rfl rfl (vp_lit (by decide)) (by decide) dX11_showTotal_10 ?_
  obtain ⟨e0, e1⟩ := wke2 hf
  subst e0
  subst e1
  have hP9 := hP.sub (ws' := (wX11 Y a M_g M_kept M_saved M_before M_isSaved M_changes M_isWithin 0 M_input M_length M_fault M_failed M_signs M_signMany M_column M_loads M_many M_sums M_groups M_at M_told M_toldMany)) [0, 1, 2, 3, 4, 5, 6, 7, 8, 9, 10, 11] rfl
  have hD9 := hD.sub (ws' := (wX11 Y a M_g M_kept M_saved M_before M_isSaved M_changes M_isWithin 0 M_input M_length M_fault M_failed M_signs M_signMany M_column M_loads M_many M_sums M_groups M_at M_told M_toldMany)) [0, 1, 2, 3, 4, 5, 6, 7, 8, 9, 10, 11] (by decide) rfl
  exact W.iret (v := (M_g 4)) hx hb hr (fun t ht hW => ⟨⟨(M_g 4), (), rfl, rfl, by rw [ht]; exact hP9, va_K.moved hW.alike hK, hD9⟩, hS.F ht⟩) hS.2.2 dX11_showTotal_11
theorem lk_X11_fallenTotal_RX11_7 : Cond.fieldLink RX11 7 "CircusLedgerModel" "g" "[I" ∈ wsX11_fallenTotal := by decide +kernel
theorem lk_X11_fallenTotal_RX11_51 : Cond.fieldLink RX11 51 "CircusLedgerModel" "code" "I" ∈ wsX11_fallenTotal := by decide +kernel
theorem in_X11_fallenTotal_X11 : ∀ w ∈ u_ws RX11 TX11 22, w ∈ wsX11_fallenTotal := by decide +kernel
def f_X11_fallenTotal (M_g : Nat → Int32) (M_code : Int32) : Option (Int32 × Int32) :=
  some ((M_g 5), 0)
set_option maxHeartbeats 4000000 in
set_option maxRecDepth 100000 in
theorem c_X11_fallenTotal (l : Launch) (dC : Nat → ClassId) (dI : Nat → Nat → Nat) (Y : Nat → ClassId) (a : Nat → Nat) (M_g : Nat → Int32) (M_kept : Nat → Int32) (M_saved : Nat → Int32) (M_before : Nat → Int32) (M_isSaved : Int32) (M_changes : Int32) (M_isWithin : Int32) (M_code : Int32) (M_input : Nat → Int32) (M_length : Int32) (M_fault : Int32) (M_failed : Int32) (M_signs : Nat → Int32) (M_signMany : Int32) (M_column : Nat → Int32) (M_loads : Nat → Int32) (M_many : Int32) (M_sums : Nat → Int32) (M_groups : Nat → Int32) (M_at : Int32) (M_told : Nat → Int32) (M_toldMany : Int32)  (sz : Nat) (r : Int32) (zM_code : Int32) (hf : f_X11_fallenTotal M_g M_code = some (r, zM_code)) : Met l yX11_fallenTotal wsX11_fallenTotal ({ frames := 0, cells := 0, slots := 0, locals := 0 } : Room) (va_Pc [.ref (a 0)] (wk_E (dC, dI) Y (wX11 Y a M_g M_kept M_saved M_before M_isSaved M_changes M_isWithin M_code M_input M_length M_fault M_failed M_signs M_signMany M_column M_loads M_many M_sums M_groups M_at M_told M_toldMany) sz)) (va_Qi (fun r2 (_ : Unit) => r2 = r) (fun _ t => wk_X (dC, dI) Y (wX11 Y a M_g M_kept M_saved M_before M_isSaved M_changes M_isWithin zM_code M_input M_length M_fault M_failed M_signs M_signMany M_column M_loads M_many M_sums M_groups M_at M_told M_toldMany) (va_A (wX11 Y a M_g M_kept M_saved M_before M_isSaved M_changes M_isWithin M_code M_input M_length M_fault M_failed M_signs M_signMany M_column M_loads M_many M_sums M_groups M_at M_told M_toldMany) sz) t) (va_A (wX11 Y a M_g M_kept M_saved M_before M_isSaved M_changes M_isWithin M_code M_input M_length M_fault M_failed M_signs M_signMany M_column M_loads M_many M_sums M_groups M_at M_told M_toldMany) sz)) 0 0 (va_A (wX11 Y a M_g M_kept M_saved M_before M_isSaved M_changes M_isWithin M_code M_input M_length M_fault M_failed M_signs M_signMany M_column M_loads M_many M_sums M_groups M_at M_told M_toldMany) sz) := by
  refine Met.ofW (cc := cX11_fallenTotal) (maxL := 1) (ret := (some .int)) (by decide) rfl ?_
  intro p e s m args below meth c s₁ B hml hv
  obtain ⟨rfl, hsz, hP, hK, hD0⟩ := hv
  have hx := B.exec
  have hb := B.bytes
  have hr := B.returns
  have hts := atoms_spec (ws := wsX11_fallenTotal) B.pre
  have hown : s.vm.findClass RX11 = some m.cls := findClass_of_methodNamed B.named
  have hlocks := B.notSynchronized
  have C0 : wk_C p s m _ meth c cX11_fallenTotal 1 (some .int) wsX11_fallenTotal RX11 := ⟨hx, hb, hml, hr, hlocks, hown, hts⟩
  subst hsz
  have hD := hD0.self (sz := s.heap.size)
  generalize hAe : va_A (wX11 Y a M_g M_kept M_saved M_before M_isSaved M_changes M_isWithin M_code M_input M_length M_fault M_failed M_signs M_signMany M_column M_loads M_many M_sums M_groups M_at M_told M_toldMany) s.heap.size = A at hD ⊢
  have hA : ∀ q : Nat, s.heap.size ≤ q → A q := fun q h => by rw [← hAe]; exact Or.inr h
  have hS : va_S A s.heap s.heap [] := va_S.rf
  obtain ⟨H, hHe⟩ : ∃ H, H = s.heap := ⟨_, rfl⟩
  have hS : va_S A s.heap H [] := by rw [hHe]; exact hS
  have hP : va_P (dC, dI) vwCl [(a 0, .inr (11, [.ref (a 1), .ref (a 2), .ref (a 3), .ref (a 4), .int M_isSaved, .int M_changes, .int M_isWithin, .int M_code, .ref (a 5), .int M_length, .int M_fault, .int M_failed, .ref (a 6), .int M_signMany, .ref (a 7), .ref (a 8), .int M_many, .ref (a 9), .ref (a 10), .int M_at, .ref (a 11), .int M_toldMany])), (a 1, .inl (Y 0, 238, .inl M_g)), (a 2, .inl (Y 0, 1904, .inl M_kept)), (a 3, .inl (Y 0, 238, .inl M_saved)), (a 4, .inl (Y 0, 238, .inl M_before)), (a 5, .inl (Y 0, 60, .inl M_input)), (a 6, .inl (Y 2, 100, .inl M_signs)), (a 7, .inl (Y 0, 6, .inl M_column)), (a 8, .inl (Y 0, 6, .inl M_loads)), (a 9, .inl (Y 0, 2048, .inl M_sums)), (a 10, .inl (Y 0, 2048, .inl M_groups)), (a 11, .inl (Y 0, 155, .inl M_told))] H := by rw [hHe]; exact hP
  have hD : va_D A [(a 0, .inr (11, [.ref (a 1), .ref (a 2), .ref (a 3), .ref (a 4), .int M_isSaved, .int M_changes, .int M_isWithin, .int M_code, .ref (a 5), .int M_length, .int M_fault, .int M_failed, .ref (a 6), .int M_signMany, .ref (a 7), .ref (a 8), .int M_many, .ref (a 9), .ref (a 10), .int M_at, .ref (a 11), .int M_toldMany])), (a 1, .inl (Y 0, 238, .inl M_g)), (a 2, .inl (Y 0, 1904, .inl M_kept)), (a 3, .inl (Y 0, 238, .inl M_saved)), (a 4, .inl (Y 0, 238, .inl M_before)), (a 5, .inl (Y 0, 60, .inl M_input)), (a 6, .inl (Y 2, 100, .inl M_signs)), (a 7, .inl (Y 0, 6, .inl M_column)), (a 8, .inl (Y 0, 6, .inl M_loads)), (a 9, .inl (Y 0, 2048, .inl M_sums)), (a 10, .inl (Y 0, 2048, .inl M_groups)), (a 11, .inl (Y 0, 155, .inl M_told))] := hD
  obtain ⟨locs, hlo⟩ : ∃ locs : List Loc, locs = [] := ⟨_, rfl⟩
  have hS : va_S A s.heap H locs := by rw [hlo]; exact hS
  have hl := lv_entry ([.ref (a 0)]) (n := 1) (Nat.le_of_ble_eq_true rfl)
  rw [lg_entry_eq]
  generalize (lg_sl ([.ref (a 0)]) ++ List.replicate (1 - (lg_sl ([.ref (a 0)])).length) Slot.unset).toArray = ls at hl ⊢
  have hl : lv_has ls 1 [(0, .ref (a 0))] := hl
  refine wk_start hHe hlo ?_
  rw [f_X11_fallenTotal] at hf
  refine lv_aload_n hx hb dX11_fallenTotal_0 rfl (lv_at hl 0 rfl) ?_
  refine lv_iconst (v := 0) hx hb dX11_fallenTotal_1 (by decide) ?_
  refine va_put (D := (dC, dI)) (ci := 11) (v := .int 0) (ty := .int) (C := RX11) (T := TX11) (N := 22) hx hb hts in_X11_fallenTotal_X11 tyX11 tyX11_ok nmX11 hown hK hP hD hS 0 rfl rfl 7 (by decide) (hts _ lk_X11_fallenTotal_RX11_51) (fun _ h9 => h9) rfl (by decide +kernel) rfl rfl (Nat.le_of_ble_eq_true rfl) dX11_fallenTotal_2 (fun H locs hP hD hS => ?_)
  have hP : va_P (dC, dI) vwCl [(a 0, .inr (11, [.ref (a 1), .ref (a 2), .ref (a 3), .ref (a 4), .int M_isSaved, .int M_changes, .int M_isWithin, .int 0, .ref (a 5), .int M_length, .int M_fault, .int M_failed, .ref (a 6), .int M_signMany, .ref (a 7), .ref (a 8), .int M_many, .ref (a 9), .ref (a 10), .int M_at, .ref (a 11), .int M_toldMany])), (a 1, .inl (Y 0, 238, .inl M_g)), (a 2, .inl (Y 0, 1904, .inl M_kept)), (a 3, .inl (Y 0, 238, .inl M_saved)), (a 4, .inl (Y 0, 238, .inl M_before)), (a 5, .inl (Y 0, 60, .inl M_input)), (a 6, .inl (Y 2, 100, .inl M_signs)), (a 7, .inl (Y 0, 6, .inl M_column)), (a 8, .inl (Y 0, 6, .inl M_loads)), (a 9, .inl (Y 0, 2048, .inl M_sums)), (a 10, .inl (Y 0, 2048, .inl M_groups)), (a 11, .inl (Y 0, 155, .inl M_told))] H := hP
  have hD : va_D A [(a 0, .inr (11, [.ref (a 1), .ref (a 2), .ref (a 3), .ref (a 4), .int M_isSaved, .int M_changes, .int M_isWithin, .int 0, .ref (a 5), .int M_length, .int M_fault, .int M_failed, .ref (a 6), .int M_signMany, .ref (a 7), .ref (a 8), .int M_many, .ref (a 9), .ref (a 10), .int M_at, .ref (a 11), .int M_toldMany])), (a 1, .inl (Y 0, 238, .inl M_g)), (a 2, .inl (Y 0, 1904, .inl M_kept)), (a 3, .inl (Y 0, 238, .inl M_saved)), (a 4, .inl (Y 0, 238, .inl M_before)), (a 5, .inl (Y 0, 60, .inl M_input)), (a 6, .inl (Y 2, 100, .inl M_signs)), (a 7, .inl (Y 0, 6, .inl M_column)), (a 8, .inl (Y 0, 6, .inl M_loads)), (a 9, .inl (Y 0, 2048, .inl M_sums)), (a 10, .inl (Y 0, 2048, .inl M_groups)), (a 11, .inl (Y 0, 155, .inl M_told))] := hD
  refine lv_aload_n hx hb dX11_fallenTotal_5 rfl (lv_at hl 0 rfl) ?_
  refine va_get (D := (dC, dI)) (ci := 11) (v := .ref (a 1)) (C := RX11) (T := TX11) (N := 22) hx hb hts in_X11_fallenTotal_X11 hown hK hP 0 rfl rfl 0 (by decide) (hts _ lk_X11_fallenTotal_RX11_7) (fun _ h9 => h9) rfl dX11_fallenTotal_6 ?_
  refine lv_iconst (v := 5) hx hb dX11_fallenTotal_9 (by decide) ?_
  refine wk_iald hx hb hK hP 1 0 (k := 5) rfl rfl (vp_lit (by decide)) (by decide) dX11_fallenTotal_10 ?_
  obtain ⟨e0, e1⟩ := wke2 hf
  subst e0
  subst e1
  have hP9 := hP.sub (ws' := (wX11 Y a M_g M_kept M_saved M_before M_isSaved M_changes M_isWithin 0 M_input M_length M_fault M_failed M_signs M_signMany M_column M_loads M_many M_sums M_groups M_at M_told M_toldMany)) [0, 1, 2, 3, 4, 5, 6, 7, 8, 9, 10, 11] rfl
  have hD9 := hD.sub (ws' := (wX11 Y a M_g M_kept M_saved M_before M_isSaved M_changes M_isWithin 0 M_input M_length M_fault M_failed M_signs M_signMany M_column M_loads M_many M_sums M_groups M_at M_told M_toldMany)) [0, 1, 2, 3, 4, 5, 6, 7, 8, 9, 10, 11] (by decide) rfl
  exact W.iret (v := (M_g 5)) hx hb hr (fun t ht hW => ⟨⟨(M_g 5), (), rfl, rfl, by rw [ht]; exact hP9, va_K.moved hW.alike hK, hD9⟩, hS.F ht⟩) hS.2.2 dX11_fallenTotal_11
theorem lk_X11_mean_RX11_7 : Cond.fieldLink RX11 7 "CircusLedgerModel" "g" "[I" ∈ wsX11_mean := by decide +kernel
theorem in_X11_mean_X11 : ∀ w ∈ u_ws RX11 TX11 22, w ∈ wsX11_mean := by decide +kernel
def f_X11_mean_L38 (M_g : Nat → Int32) (K6 : Int32 → Int32 → Int32 → Option (UInt64)) (x2 : Int32) (x3 : Int32) (y0 : Int32) (y1 : Int32) : Option (UInt64) :=
    gin (36 + x3) 238 (if (M_g (36 + x3).toNatClampNeg) ≤ 0 then
      (K6 (y1 + y0) (x2 + 0) (x3 + 1))
    else
      (K6 (y1 + y0) (x2 + 1) (x3 + 1)))
def f_X11_mean_L6 (M_g : Nat → Int32) : Nat → Int32 → Int32 → Int32 → Option (UInt64)
  | 0, _, _, _ => none
  | nn + 1, x1, x2, x3 =>
    if (11 : Int32) ≤ x3 then
      (if x2 = 0 then
        (some (FP.dconst0))
      else
        (gok ((FP.ddiv (FP.i2d x1) (FP.i2d x2)) &&& 0x7fffffffffffffff ≤ 0x7ff0000000000000) (some ((FP.ddiv (FP.i2d x1) (FP.i2d x2))))))
    else
      (gin (36 + x3) 238 (if (M_g (36 + x3).toNatClampNeg) ≤ 0 then
        (f_X11_mean_L38 M_g (f_X11_mean_L6 M_g nn) x2 x3 0 x1)
      else
        (gin (36 + x3) 238 (f_X11_mean_L38 M_g (f_X11_mean_L6 M_g nn) x2 x3 (M_g (36 + x3).toNatClampNeg) x1))))
def f_X11_mean (M_g : Nat → Int32) : Option (UInt64) :=
  f_X11_mean_L6 M_g FU 0 0 0
set_option maxHeartbeats 4000000 in
set_option maxRecDepth 100000 in
theorem wl_X11_mean_L38 {p : Program} {l : Launch} {e : Env} {s : State} {m : MethodId} {args : Array Value} {below : List Frame} {meth : Method} {c : Code} {dC : Nat → ClassId} {dI : Nat → Nat → Nat} {Y : Nat → ClassId} {a : Nat → Nat} {M_g : Nat → Int32} {M_kept : Nat → Int32} {M_saved : Nat → Int32} {M_before : Nat → Int32} {M_isSaved : Int32} {M_changes : Int32} {M_isWithin : Int32} {M_code : Int32} {M_input : Nat → Int32} {M_length : Int32} {M_fault : Int32} {M_failed : Int32} {M_signs : Nat → Int32} {M_signMany : Int32} {M_column : Nat → Int32} {M_loads : Nat → Int32} {M_many : Int32} {M_sums : Nat → Int32} {M_groups : Nat → Int32} {M_at : Int32} {M_told : Nat → Int32} {M_toldMany : Int32}  {r : UInt64} {K6 : Int32 → Int32 → Int32 → Option (UInt64)} (C0 : wk_C p s m args meth c cX11_mean 4 (some .double) wsX11_mean RX11) (hK : va_K (dC, dI) vwCl (vTy Y) s) (hP : va_P (dC, dI) vwCl (wX11 Y a M_g M_kept M_saved M_before M_isSaved M_changes M_isWithin M_code M_input M_length M_fault M_failed M_signs M_signMany M_column M_loads M_many M_sums M_groups M_at M_told M_toldMany) s.heap) (hK6 : ∀ (x1 : Int32) (x2 : Int32) (x3 : Int32) , K6 x1 x2 x3 = some (r) → ∀ (ls : Array Slot), lv_has ls 4 [(0, .ref (a 0)), (1, .int x1), (2, .int x2), (3, .int x3)] → W p l e (headSpec wsX11_mean ({ frames := 0, cells := 0, slots := 0, locals := 0 } : Room)).room s m args below meth c s.heap [] 0 0 (MQ below (vp_Sd (fun r2 => r2 = r)) args s 0 0 (fun _ => False)) (F0 m 6 ls [])) : ∀ (x2 : Int32) (x3 : Int32) (y0 : Int32) (y1 : Int32) , f_X11_mean_L38 M_g K6 x2 x3 y0 y1 = some (r) → ∀ (ls : Array Slot), lv_has ls 4 [(0, .ref (a 0)), (2, .int x2), (3, .int x3)] → W p l e (headSpec wsX11_mean ({ frames := 0, cells := 0, slots := 0, locals := 0 } : Room)).room s m args below meth c s.heap [] 0 0 (MQ below (vp_Sd (fun r2 => r2 = r)) args s 0 0 (fun _ => False)) (F0 m 38 ls [.int y0, .int y1]) := by
  obtain ⟨hx, hb, hml, hr, hlocks, hown, hts⟩ := id C0
  intro x2 x3 y0 y1 hf ls hl
  rw [f_X11_mean_L38] at hf
  have hP : va_P (dC, dI) vwCl [(a 0, .inr (11, [.ref (a 1), .ref (a 2), .ref (a 3), .ref (a 4), .int M_isSaved, .int M_changes, .int M_isWithin, .int M_code, .ref (a 5), .int M_length, .int M_fault, .int M_failed, .ref (a 6), .int M_signMany, .ref (a 7), .ref (a 8), .int M_many, .ref (a 9), .ref (a 10), .int M_at, .ref (a 11), .int M_toldMany])), (a 1, .inl (Y 0, 238, .inl M_g)), (a 2, .inl (Y 0, 1904, .inl M_kept)), (a 3, .inl (Y 0, 238, .inl M_saved)), (a 4, .inl (Y 0, 238, .inl M_before)), (a 5, .inl (Y 0, 60, .inl M_input)), (a 6, .inl (Y 2, 100, .inl M_signs)), (a 7, .inl (Y 0, 6, .inl M_column)), (a 8, .inl (Y 0, 6, .inl M_loads)), (a 9, .inl (Y 0, 2048, .inl M_sums)), (a 10, .inl (Y 0, 2048, .inl M_groups)), (a 11, .inl (Y 0, 155, .inl M_told))] s.heap := hP
  refine lv_iadd hx hb dX11_mean_38 ?_
  refine lv_istore_n (lv' := [(1, .int (y1 + y0)), (0, .ref (a 0)), (2, .int x2), (3, .int x3)]) hx hb dX11_mean_39 rfl hl (by decide) rfl (fun ls hl => ?_)
  refine lv_iload_n hx hb dX11_mean_40 rfl (lv_at hl 2 rfl) ?_
  refine lv_aload_n hx hb dX11_mean_41 rfl (lv_at hl 1 rfl) ?_
  refine va_get (D := (dC, dI)) (ci := 11) (v := .ref (a 1)) (C := RX11) (T := TX11) (N := 22) hx hb hts in_X11_mean_X11 hown hK hP 0 rfl rfl 0 (by decide) (hts _ lk_X11_mean_RX11_7) (fun _ h9 => h9) rfl dX11_mean_42 ?_
  refine lv_bipush (v := 36) hx hb dX11_mean_45 (by decide) ?_
  refine lv_iload_n hx hb dX11_mean_47 rfl (lv_at hl 3 rfl) ?_
  refine lv_iadd hx hb dX11_mean_48 ?_
  obtain ⟨h1, hf⟩ := gin_s hf
  refine wk_iald hx hb hK hP 1 0 rfl rfl h1 rfl dX11_mean_49 ?_
  refine lv_if_le (tgt := 57) hx hb dX11_mean_50 (by decide) (fun q2 => ?_) (fun q2 => ?_)
  · have hf := wk_t hf q2
    refine lv_iconst (v := 0) hx hb dX11_mean_57 (by decide) ?_
    refine lv_iadd hx hb dX11_mean_58 ?_
    refine lv_istore_n (lv' := [(2, .int (x2 + 0)), (1, .int (y1 + y0)), (0, .ref (a 0)), (3, .int x3)]) hx hb dX11_mean_59 rfl hl (by decide) rfl (fun ls hl => ?_)
    refine lv_iinc (v := (x3 + 1)) (lv' := [(3, .int (x3 + 1)), (2, .int (x2 + 0)), (1, .int (y1 + y0)), (0, .ref (a 0))]) hx hb dX11_mean_60 hl (k := 3) rfl rfl (by decide) rfl (fun ls hl => ?_)
    refine lv_goto (tgt := 6) hx hb dX11_mean_63 (by decide) ?_
    exact hK6 (y1 + y0) (x2 + 0) (x3 + 1) hf ls (lv_sub hl [3, 2, 1, 0] rfl)
  · have hf := wk_f hf q2
    refine lv_iconst (v := 1) hx hb dX11_mean_53 (by decide) ?_
    refine lv_goto (tgt := 58) hx hb dX11_mean_54 (by decide) ?_
    refine lv_iadd hx hb dX11_mean_58 ?_
    refine lv_istore_n (lv' := [(2, .int (x2 + 1)), (1, .int (y1 + y0)), (0, .ref (a 0)), (3, .int x3)]) hx hb dX11_mean_59 rfl hl (by decide) rfl (fun ls hl => ?_)
    refine lv_iinc (v := (x3 + 1)) (lv' := [(3, .int (x3 + 1)), (2, .int (x2 + 1)), (1, .int (y1 + y0)), (0, .ref (a 0))]) hx hb dX11_mean_60 hl (k := 3) rfl rfl (by decide) rfl (fun ls hl => ?_)
    refine lv_goto (tgt := 6) hx hb dX11_mean_63 (by decide) ?_
    exact hK6 (y1 + y0) (x2 + 1) (x3 + 1) hf ls (lv_sub hl [3, 2, 1, 0] rfl)
set_option maxHeartbeats 4000000 in
set_option maxRecDepth 100000 in
theorem wl_X11_mean_L6 {p : Program} {l : Launch} {e : Env} {s : State} {m : MethodId} {args : Array Value} {below : List Frame} {meth : Method} {c : Code} {dC : Nat → ClassId} {dI : Nat → Nat → Nat} {Y : Nat → ClassId} {a : Nat → Nat} {M_g : Nat → Int32} {M_kept : Nat → Int32} {M_saved : Nat → Int32} {M_before : Nat → Int32} {M_isSaved : Int32} {M_changes : Int32} {M_isWithin : Int32} {M_code : Int32} {M_input : Nat → Int32} {M_length : Int32} {M_fault : Int32} {M_failed : Int32} {M_signs : Nat → Int32} {M_signMany : Int32} {M_column : Nat → Int32} {M_loads : Nat → Int32} {M_many : Int32} {M_sums : Nat → Int32} {M_groups : Nat → Int32} {M_at : Int32} {M_told : Nat → Int32} {M_toldMany : Int32}  {r : UInt64}  (C0 : wk_C p s m args meth c cX11_mean 4 (some .double) wsX11_mean RX11) (hK : va_K (dC, dI) vwCl (vTy Y) s) (hP : va_P (dC, dI) vwCl (wX11 Y a M_g M_kept M_saved M_before M_isSaved M_changes M_isWithin M_code M_input M_length M_fault M_failed M_signs M_signMany M_column M_loads M_many M_sums M_groups M_at M_told M_toldMany) s.heap) : ∀ (nn : Nat) (x1 : Int32) (x2 : Int32) (x3 : Int32)  , f_X11_mean_L6 M_g nn x1 x2 x3 = some (r) → ∀ (ls : Array Slot), lv_has ls 4 [(0, .ref (a 0)), (1, .int x1), (2, .int x2), (3, .int x3)] → W p l e (headSpec wsX11_mean ({ frames := 0, cells := 0, slots := 0, locals := 0 } : Room)).room s m args below meth c s.heap [] 0 0 (MQ below (vp_Sd (fun r2 => r2 = r)) args s 0 0 (fun _ => False)) (F0 m 6 ls []) := by
  have C0 := C0
  obtain ⟨hx, hb, hml, hr, hlocks, hown, hts⟩ := id C0
  intro nn
  induction nn with
  | zero =>
    intro x1 x2 x3 hf
    rw [f_X11_mean_L6] at hf
    cases hf
  | succ nn ih =>
    intro x1 x2 x3 hf ls hl
    rw [f_X11_mean_L6] at hf
    have hP : va_P (dC, dI) vwCl [(a 0, .inr (11, [.ref (a 1), .ref (a 2), .ref (a 3), .ref (a 4), .int M_isSaved, .int M_changes, .int M_isWithin, .int M_code, .ref (a 5), .int M_length, .int M_fault, .int M_failed, .ref (a 6), .int M_signMany, .ref (a 7), .ref (a 8), .int M_many, .ref (a 9), .ref (a 10), .int M_at, .ref (a 11), .int M_toldMany])), (a 1, .inl (Y 0, 238, .inl M_g)), (a 2, .inl (Y 0, 1904, .inl M_kept)), (a 3, .inl (Y 0, 238, .inl M_saved)), (a 4, .inl (Y 0, 238, .inl M_before)), (a 5, .inl (Y 0, 60, .inl M_input)), (a 6, .inl (Y 2, 100, .inl M_signs)), (a 7, .inl (Y 0, 6, .inl M_column)), (a 8, .inl (Y 0, 6, .inl M_loads)), (a 9, .inl (Y 0, 2048, .inl M_sums)), (a 10, .inl (Y 0, 2048, .inl M_groups)), (a 11, .inl (Y 0, 155, .inl M_told))] s.heap := hP
    refine lv_iload_n hx hb dX11_mean_6 rfl (lv_at hl 3 rfl) ?_
    refine lv_bipush (v := 11) hx hb dX11_mean_7 (by decide) ?_
    refine lv_icmp_ge (tgt := 66) hx hb dX11_mean_9 (by decide) (fun q1 => ?_) (fun q1 => ?_)
    · have hf := wk_t hf q1
      refine lv_iload_n hx hb dX11_mean_66 rfl (lv_at hl 2 rfl) ?_
      refine lv_if_ne (tgt := 74) hx hb dX11_mean_67 (by decide) (fun q2 => ?_) (fun q2 => ?_)
      · have hf := wk_f hf q2
        refine lv_iload_n hx hb dX11_mean_74 rfl (lv_at hl 1 rfl) ?_
        refine lv_i2d hx hb dX11_mean_75 ?_
        refine lv_iload_n hx hb dX11_mean_76 rfl (lv_at hl 2 rfl) ?_
        refine lv_i2d hx hb dX11_mean_77 ?_
        obtain ⟨h3, hf⟩ := gok_s hf
        refine lv_ddiv hx hb dX11_mean_78 h3 ?_
        have e0 := wke1 hf
        subst e0
        exact W.dret (v := (FP.ddiv (FP.i2d x1) (FP.i2d x2))) hx hb hr (fun t ht hW => ⟨(FP.ddiv (FP.i2d x1) (FP.i2d x2)), rfl, rfl, ht⟩) (fun q h => absurd h List.not_mem_nil) dX11_mean_79
      · have hf := wk_t hf q2
        refine lv_dconst0 hx hb dX11_mean_70 ?_
        refine lv_goto (tgt := 79) hx hb dX11_mean_71 (by decide) ?_
        have e0 := wke1 hf
        subst e0
        exact W.dret (v := FP.dconst0) hx hb hr (fun t ht hW => ⟨FP.dconst0, rfl, rfl, ht⟩) (fun q h => absurd h List.not_mem_nil) dX11_mean_79
    · have hf := wk_f hf q1
      refine lv_iload_n hx hb dX11_mean_12 rfl (lv_at hl 1 rfl) ?_
      refine lv_aload_n hx hb dX11_mean_13 rfl (lv_at hl 0 rfl) ?_
      refine va_get (D := (dC, dI)) (ci := 11) (v := .ref (a 1)) (C := RX11) (T := TX11) (N := 22) hx hb hts in_X11_mean_X11 hown hK hP 0 rfl rfl 0 (by decide) (hts _ lk_X11_mean_RX11_7) (fun _ h9 => h9) rfl dX11_mean_14 ?_
      refine lv_bipush (v := 36) hx hb dX11_mean_17 (by decide) ?_
      refine lv_iload_n hx hb dX11_mean_19 rfl (lv_at hl 3 rfl) ?_
      refine lv_iadd hx hb dX11_mean_20 ?_
      obtain ⟨h4, hf⟩ := gin_s hf
      refine wk_iald hx hb hK hP 1 0 rfl rfl h4 rfl dX11_mean_21 ?_
      refine lv_if_le (tgt := 37) hx hb dX11_mean_22 (by decide) (fun q5 => ?_) (fun q5 => ?_)
      · have hf := wk_t hf q5
        refine lv_iconst (v := 0) hx hb dX11_mean_37 (by decide) ?_
        exact wl_X11_mean_L38 C0 hK hP ih x2 x3 0 x1 hf ls (lv_sub hl [0, 2, 3] rfl)
      · have hf := wk_f hf q5
        refine lv_aload_n hx hb dX11_mean_25 rfl (lv_at hl 0 rfl) ?_
        refine va_get (D := (dC, dI)) (ci := 11) (v := .ref (a 1)) (C := RX11) (T := TX11) (N := 22) hx hb hts in_X11_mean_X11 hown hK hP 0 rfl rfl 0 (by decide) (hts _ lk_X11_mean_RX11_7) (fun _ h9 => h9) rfl dX11_mean_26 ?_
        refine lv_bipush (v := 36) hx hb dX11_mean_29 (by decide) ?_
        refine lv_iload_n hx hb dX11_mean_31 rfl (lv_at hl 3 rfl) ?_
        refine lv_iadd hx hb dX11_mean_32 ?_
        obtain ⟨h6, hf⟩ := gin_s hf
        refine wk_iald hx hb hK hP 1 0 rfl rfl h6 rfl dX11_mean_33 ?_
        refine lv_goto (tgt := 38) hx hb dX11_mean_34 (by decide) ?_
        exact wl_X11_mean_L38 C0 hK hP ih x2 x3 (M_g (36 + x3).toNatClampNeg) x1 hf ls (lv_sub hl [0, 2, 3] rfl)
set_option maxHeartbeats 4000000 in
set_option maxRecDepth 100000 in
theorem c_X11_mean (l : Launch) (dC : Nat → ClassId) (dI : Nat → Nat → Nat) (Y : Nat → ClassId) (a : Nat → Nat) (M_g : Nat → Int32) (M_kept : Nat → Int32) (M_saved : Nat → Int32) (M_before : Nat → Int32) (M_isSaved : Int32) (M_changes : Int32) (M_isWithin : Int32) (M_code : Int32) (M_input : Nat → Int32) (M_length : Int32) (M_fault : Int32) (M_failed : Int32) (M_signs : Nat → Int32) (M_signMany : Int32) (M_column : Nat → Int32) (M_loads : Nat → Int32) (M_many : Int32) (M_sums : Nat → Int32) (M_groups : Nat → Int32) (M_at : Int32) (M_told : Nat → Int32) (M_toldMany : Int32)  (r : UInt64) (hf : f_X11_mean M_g = some (r)) : Met l yX11_mean wsX11_mean ({ frames := 0, cells := 0, slots := 0, locals := 0 } : Room) (va_Pc [.ref (a 0)] (wk_B (dC, dI) Y (wX11 Y a M_g M_kept M_saved M_before M_isSaved M_changes M_isWithin M_code M_input M_length M_fault M_failed M_signs M_signMany M_column M_loads M_many M_sums M_groups M_at M_told M_toldMany))) (vp_Sd (fun r2 => r2 = r)) 0 0 (fun _ => False) := by
  refine Met.ofW (cc := cX11_mean) (maxL := 4) (ret := (some .double)) (by decide) rfl ?_
  intro p e s m args below meth c s₁ B hml hv
  obtain ⟨rfl, hP, hK⟩ := hv
  have hx := B.exec
  have hb := B.bytes
  have hr := B.returns
  have hts := atoms_spec (ws := wsX11_mean) B.pre
  have hown : s.vm.findClass RX11 = some m.cls := findClass_of_methodNamed B.named
  have hlocks := B.notSynchronized
  have C0 : wk_C p s m _ meth c cX11_mean 4 (some .double) wsX11_mean RX11 := ⟨hx, hb, hml, hr, hlocks, hown, hts⟩
  have hP : va_P (dC, dI) vwCl [(a 0, .inr (11, [.ref (a 1), .ref (a 2), .ref (a 3), .ref (a 4), .int M_isSaved, .int M_changes, .int M_isWithin, .int M_code, .ref (a 5), .int M_length, .int M_fault, .int M_failed, .ref (a 6), .int M_signMany, .ref (a 7), .ref (a 8), .int M_many, .ref (a 9), .ref (a 10), .int M_at, .ref (a 11), .int M_toldMany])), (a 1, .inl (Y 0, 238, .inl M_g)), (a 2, .inl (Y 0, 1904, .inl M_kept)), (a 3, .inl (Y 0, 238, .inl M_saved)), (a 4, .inl (Y 0, 238, .inl M_before)), (a 5, .inl (Y 0, 60, .inl M_input)), (a 6, .inl (Y 2, 100, .inl M_signs)), (a 7, .inl (Y 0, 6, .inl M_column)), (a 8, .inl (Y 0, 6, .inl M_loads)), (a 9, .inl (Y 0, 2048, .inl M_sums)), (a 10, .inl (Y 0, 2048, .inl M_groups)), (a 11, .inl (Y 0, 155, .inl M_told))] s.heap := hP
  have hl := lv_entry ([.ref (a 0)]) (n := 4) (Nat.le_of_ble_eq_true rfl)
  rw [lg_entry_eq]
  generalize (lg_sl ([.ref (a 0)]) ++ List.replicate (4 - (lg_sl ([.ref (a 0)])).length) Slot.unset).toArray = ls at hl ⊢
  have hl : lv_has ls 4 [(0, .ref (a 0))] := hl
  rw [f_X11_mean] at hf
  refine lv_iconst (v := 0) hx hb dX11_mean_0 (by decide) ?_
  refine lv_istore_n (lv' := [(1, .int 0), (0, .ref (a 0))]) hx hb dX11_mean_1 rfl hl (by decide) rfl (fun ls hl => ?_)
  refine lv_iconst (v := 0) hx hb dX11_mean_2 (by decide) ?_
  refine lv_istore_n (lv' := [(2, .int 0), (1, .int 0), (0, .ref (a 0))]) hx hb dX11_mean_3 rfl hl (by decide) rfl (fun ls hl => ?_)
  refine lv_iconst (v := 0) hx hb dX11_mean_4 (by decide) ?_
  refine lv_istore_n (lv' := [(3, .int 0), (2, .int 0), (1, .int 0), (0, .ref (a 0))]) hx hb dX11_mean_5 rfl hl (by decide) rfl (fun ls hl => ?_)
  exact wl_X11_mean_L6 C0 hK hP FU 0 0 0 hf ls (lv_sub hl [3, 2, 1, 0] rfl)
theorem lk_X11_isNonePositive_RX11_7 : Cond.fieldLink RX11 7 "CircusLedgerModel" "g" "[I" ∈ wsX11_isNonePositive := by decide +kernel
theorem in_X11_isNonePositive_X11 : ∀ w ∈ u_ws RX11 TX11 22, w ∈ wsX11_isNonePositive := by decide +kernel
def f_X11_isNonePositive_L2 (M_g : Nat → Int32) : Nat → Int32 → Option (Int32)
  | 0, _ => none
  | nn + 1, x1 =>
    if (11 : Int32) ≤ x1 then
      (some (1))
    else
      (gin (36 + x1) 238 (if (M_g (36 + x1).toNatClampNeg) ≤ 0 then
        (f_X11_isNonePositive_L2 M_g nn (x1 + 1))
      else
        (some (0))))
def f_X11_isNonePositive (M_g : Nat → Int32) : Option (Int32) :=
  f_X11_isNonePositive_L2 M_g FU 0
set_option maxHeartbeats 4000000 in
set_option maxRecDepth 100000 in
theorem wl_X11_isNonePositive_L2 {p : Program} {l : Launch} {e : Env} {s : State} {m : MethodId} {args : Array Value} {below : List Frame} {meth : Method} {c : Code} {dC : Nat → ClassId} {dI : Nat → Nat → Nat} {Y : Nat → ClassId} {a : Nat → Nat} {M_g : Nat → Int32} {M_kept : Nat → Int32} {M_saved : Nat → Int32} {M_before : Nat → Int32} {M_isSaved : Int32} {M_changes : Int32} {M_isWithin : Int32} {M_code : Int32} {M_input : Nat → Int32} {M_length : Int32} {M_fault : Int32} {M_failed : Int32} {M_signs : Nat → Int32} {M_signMany : Int32} {M_column : Nat → Int32} {M_loads : Nat → Int32} {M_many : Int32} {M_sums : Nat → Int32} {M_groups : Nat → Int32} {M_at : Int32} {M_told : Nat → Int32} {M_toldMany : Int32}  {r : Int32}  (C0 : wk_C p s m args meth c cX11_isNonePositive 2 (some .boolean) wsX11_isNonePositive RX11) (hK : va_K (dC, dI) vwCl (vTy Y) s) (hP : va_P (dC, dI) vwCl (wX11 Y a M_g M_kept M_saved M_before M_isSaved M_changes M_isWithin M_code M_input M_length M_fault M_failed M_signs M_signMany M_column M_loads M_many M_sums M_groups M_at M_told M_toldMany) s.heap) : ∀ (nn : Nat) (x1 : Int32)  , f_X11_isNonePositive_L2 M_g nn x1 = some (r) → ∀ (ls : Array Slot), lv_has ls 2 [(0, .ref (a 0)), (1, .int x1)] → W p l e (headSpec wsX11_isNonePositive ({ frames := 0, cells := 0, slots := 0, locals := 0 } : Room)).room s m args below meth c s.heap [] 0 0 (MQ below (vp_Si (fun r2 => r2 = r)) args s 0 0 (fun _ => False)) (F0 m 2 ls []) := by
  have C0 := C0
  obtain ⟨hx, hb, hml, hr, hlocks, hown, hts⟩ := id C0
  intro nn
  induction nn with
  | zero =>
    intro x1 hf
    rw [f_X11_isNonePositive_L2] at hf
    cases hf
  | succ nn ih =>
    intro x1 hf ls hl
    rw [f_X11_isNonePositive_L2] at hf
    have hP : va_P (dC, dI) vwCl [(a 0, .inr (11, [.ref (a 1), .ref (a 2), .ref (a 3), .ref (a 4), .int M_isSaved, .int M_changes, .int M_isWithin, .int M_code, .ref (a 5), .int M_length, .int M_fault, .int M_failed, .ref (a 6), .int M_signMany, .ref (a 7), .ref (a 8), .int M_many, .ref (a 9), .ref (a 10), .int M_at, .ref (a 11), .int M_toldMany])), (a 1, .inl (Y 0, 238, .inl M_g)), (a 2, .inl (Y 0, 1904, .inl M_kept)), (a 3, .inl (Y 0, 238, .inl M_saved)), (a 4, .inl (Y 0, 238, .inl M_before)), (a 5, .inl (Y 0, 60, .inl M_input)), (a 6, .inl (Y 2, 100, .inl M_signs)), (a 7, .inl (Y 0, 6, .inl M_column)), (a 8, .inl (Y 0, 6, .inl M_loads)), (a 9, .inl (Y 0, 2048, .inl M_sums)), (a 10, .inl (Y 0, 2048, .inl M_groups)), (a 11, .inl (Y 0, 155, .inl M_told))] s.heap := hP
    refine lv_iload_n hx hb dX11_isNonePositive_2 rfl (lv_at hl 1 rfl) ?_
    refine lv_bipush (v := 11) hx hb dX11_isNonePositive_3 (by decide) ?_
    refine lv_icmp_ge (tgt := 28) hx hb dX11_isNonePositive_5 (by decide) (fun q1 => ?_) (fun q1 => ?_)
    · have hf := wk_t hf q1
      refine lv_iconst (v := 1) hx hb dX11_isNonePositive_28 (by decide) ?_
      have e0 := wke1 hf
      subst e0
      exact W.zret (v := 1) (ty := .boolean) hx hb hr rfl (fun t ht hW => ⟨1, rfl, rfl, ht⟩) (fun q h => absurd h List.not_mem_nil) dX11_isNonePositive_29
    · have hf := wk_f hf q1
      refine lv_aload_n hx hb dX11_isNonePositive_8 rfl (lv_at hl 0 rfl) ?_
      refine va_get (D := (dC, dI)) (ci := 11) (v := .ref (a 1)) (C := RX11) (T := TX11) (N := 22) hx hb hts in_X11_isNonePositive_X11 hown hK hP 0 rfl rfl 0 (by decide) (hts _ lk_X11_isNonePositive_RX11_7) (fun _ h9 => h9) rfl dX11_isNonePositive_9 ?_
      refine lv_bipush (v := 36) hx hb dX11_isNonePositive_12 (by decide) ?_
      refine lv_iload_n hx hb dX11_isNonePositive_14 rfl (lv_at hl 1 rfl) ?_
      refine lv_iadd hx hb dX11_isNonePositive_15 ?_
      obtain ⟨h2, hf⟩ := gin_s hf
      refine wk_iald hx hb hK hP 1 0 rfl rfl h2 rfl dX11_isNonePositive_16 ?_
      refine lv_if_le (tgt := 22) hx hb dX11_isNonePositive_17 (by decide) (fun q3 => ?_) (fun q3 => ?_)
      · have hf := wk_t hf q3
        refine lv_iinc (v := (x1 + 1)) (lv' := [(1, .int (x1 + 1)), (0, .ref (a 0))]) hx hb dX11_isNonePositive_22 hl (k := 1) rfl rfl (by decide) rfl (fun ls hl => ?_)
        refine lv_goto (tgt := 2) hx hb dX11_isNonePositive_25 (by decide) ?_
        exact ih (x1 + 1) hf ls (lv_sub hl [1, 0] rfl)
      · have hf := wk_f hf q3
        refine lv_iconst (v := 0) hx hb dX11_isNonePositive_20 (by decide) ?_
        have e0 := wke1 hf
        subst e0
        exact W.zret (v := 0) (ty := .boolean) hx hb hr rfl (fun t ht hW => ⟨0, rfl, rfl, ht⟩) (fun q h => absurd h List.not_mem_nil) dX11_isNonePositive_21
set_option maxHeartbeats 4000000 in
set_option maxRecDepth 100000 in
theorem c_X11_isNonePositive (l : Launch) (dC : Nat → ClassId) (dI : Nat → Nat → Nat) (Y : Nat → ClassId) (a : Nat → Nat) (M_g : Nat → Int32) (M_kept : Nat → Int32) (M_saved : Nat → Int32) (M_before : Nat → Int32) (M_isSaved : Int32) (M_changes : Int32) (M_isWithin : Int32) (M_code : Int32) (M_input : Nat → Int32) (M_length : Int32) (M_fault : Int32) (M_failed : Int32) (M_signs : Nat → Int32) (M_signMany : Int32) (M_column : Nat → Int32) (M_loads : Nat → Int32) (M_many : Int32) (M_sums : Nat → Int32) (M_groups : Nat → Int32) (M_at : Int32) (M_told : Nat → Int32) (M_toldMany : Int32)  (r : Int32) (hf : f_X11_isNonePositive M_g = some (r)) : Met l yX11_isNonePositive wsX11_isNonePositive ({ frames := 0, cells := 0, slots := 0, locals := 0 } : Room) (va_Pc [.ref (a 0)] (wk_B (dC, dI) Y (wX11 Y a M_g M_kept M_saved M_before M_isSaved M_changes M_isWithin M_code M_input M_length M_fault M_failed M_signs M_signMany M_column M_loads M_many M_sums M_groups M_at M_told M_toldMany))) (vp_Si (fun r2 => r2 = r)) 0 0 (fun _ => False) := by
  refine Met.ofW (cc := cX11_isNonePositive) (maxL := 2) (ret := (some .boolean)) (by decide) rfl ?_
  intro p e s m args below meth c s₁ B hml hv
  obtain ⟨rfl, hP, hK⟩ := hv
  have hx := B.exec
  have hb := B.bytes
  have hr := B.returns
  have hts := atoms_spec (ws := wsX11_isNonePositive) B.pre
  have hown : s.vm.findClass RX11 = some m.cls := findClass_of_methodNamed B.named
  have hlocks := B.notSynchronized
  have C0 : wk_C p s m _ meth c cX11_isNonePositive 2 (some .boolean) wsX11_isNonePositive RX11 := ⟨hx, hb, hml, hr, hlocks, hown, hts⟩
  have hP : va_P (dC, dI) vwCl [(a 0, .inr (11, [.ref (a 1), .ref (a 2), .ref (a 3), .ref (a 4), .int M_isSaved, .int M_changes, .int M_isWithin, .int M_code, .ref (a 5), .int M_length, .int M_fault, .int M_failed, .ref (a 6), .int M_signMany, .ref (a 7), .ref (a 8), .int M_many, .ref (a 9), .ref (a 10), .int M_at, .ref (a 11), .int M_toldMany])), (a 1, .inl (Y 0, 238, .inl M_g)), (a 2, .inl (Y 0, 1904, .inl M_kept)), (a 3, .inl (Y 0, 238, .inl M_saved)), (a 4, .inl (Y 0, 238, .inl M_before)), (a 5, .inl (Y 0, 60, .inl M_input)), (a 6, .inl (Y 2, 100, .inl M_signs)), (a 7, .inl (Y 0, 6, .inl M_column)), (a 8, .inl (Y 0, 6, .inl M_loads)), (a 9, .inl (Y 0, 2048, .inl M_sums)), (a 10, .inl (Y 0, 2048, .inl M_groups)), (a 11, .inl (Y 0, 155, .inl M_told))] s.heap := hP
  have hl := lv_entry ([.ref (a 0)]) (n := 2) (Nat.le_of_ble_eq_true rfl)
  rw [lg_entry_eq]
  generalize (lg_sl ([.ref (a 0)]) ++ List.replicate (2 - (lg_sl ([.ref (a 0)])).length) Slot.unset).toArray = ls at hl ⊢
  have hl : lv_has ls 2 [(0, .ref (a 0))] := hl
  rw [f_X11_isNonePositive] at hf
  refine lv_iconst (v := 0) hx hb dX11_isNonePositive_0 (by decide) ?_
  refine lv_istore_n (lv' := [(1, .int 0), (0, .ref (a 0))]) hx hb dX11_isNonePositive_1 rfl hl (by decide) rfl (fun ls hl => ?_)
  exact wl_X11_isNonePositive_L2 C0 hK hP FU 0 hf ls (lv_sub hl [1, 0] rfl)
def f_X11_meanPositive (M_g : Nat → Int32) (M_code : Int32) : Option (UInt64 × Int32) :=
  wkb1 (f_X11_isNonePositive M_g) (fun r1 =>
  if r1 = 0 then
    (wkb2 (f_X11_fails M_code 0) (fun r4 w5 =>
    if r4 = 0 then
      (wkb1 (f_X11_mean M_g) (fun r8 =>
      some (r8, w5)))
    else
      (some (FP.dconst0, w5))))
  else
    (wkb2 (f_X11_fails M_code 1) (fun r10 w11 =>
    if r10 = 0 then
      (wkb1 (f_X11_mean M_g) (fun r14 =>
      some (r14, w11)))
    else
      (some (FP.dconst0, w11)))))
set_option maxHeartbeats 4000000 in
set_option maxRecDepth 100000 in
theorem c_X11_meanPositive (l : Launch) (dC : Nat → ClassId) (dI : Nat → Nat → Nat) (Y : Nat → ClassId) (a : Nat → Nat) (M_g : Nat → Int32) (M_kept : Nat → Int32) (M_saved : Nat → Int32) (M_before : Nat → Int32) (M_isSaved : Int32) (M_changes : Int32) (M_isWithin : Int32) (M_code : Int32) (M_input : Nat → Int32) (M_length : Int32) (M_fault : Int32) (M_failed : Int32) (M_signs : Nat → Int32) (M_signMany : Int32) (M_column : Nat → Int32) (M_loads : Nat → Int32) (M_many : Int32) (M_sums : Nat → Int32) (M_groups : Nat → Int32) (M_at : Int32) (M_told : Nat → Int32) (M_toldMany : Int32)  (sz : Nat) (r : UInt64) (zM_code : Int32) (hf : f_X11_meanPositive M_g M_code = some (r, zM_code)) : Met l yX11_meanPositive wsX11_meanPositive ({ frames := 1, cells := 0, slots := 0, locals := 23 } : Room) (va_Pc [.ref (a 0)] (wk_E (dC, dI) Y (wX11 Y a M_g M_kept M_saved M_before M_isSaved M_changes M_isWithin M_code M_input M_length M_fault M_failed M_signs M_signMany M_column M_loads M_many M_sums M_groups M_at M_told M_toldMany) sz)) (va_Qd (fun r2 (_ : Unit) => r2 = r) (fun _ t => wk_X (dC, dI) Y (wX11 Y a M_g M_kept M_saved M_before M_isSaved M_changes M_isWithin zM_code M_input M_length M_fault M_failed M_signs M_signMany M_column M_loads M_many M_sums M_groups M_at M_told M_toldMany) (va_A (wX11 Y a M_g M_kept M_saved M_before M_isSaved M_changes M_isWithin M_code M_input M_length M_fault M_failed M_signs M_signMany M_column M_loads M_many M_sums M_groups M_at M_told M_toldMany) sz) t) (va_A (wX11 Y a M_g M_kept M_saved M_before M_isSaved M_changes M_isWithin M_code M_input M_length M_fault M_failed M_signs M_signMany M_column M_loads M_many M_sums M_groups M_at M_told M_toldMany) sz)) 0 0 (va_A (wX11 Y a M_g M_kept M_saved M_before M_isSaved M_changes M_isWithin M_code M_input M_length M_fault M_failed M_signs M_signMany M_column M_loads M_many M_sums M_groups M_at M_told M_toldMany) sz) := by
  refine Met.ofW (cc := cX11_meanPositive) (maxL := 1) (ret := (some .double)) (by decide) rfl ?_
  intro p e s m args below meth c s₁ B hml hv
  obtain ⟨rfl, hsz, hP, hK, hD0⟩ := hv
  have hx := B.exec
  have hb := B.bytes
  have hr := B.returns
  have hts := atoms_spec (ws := wsX11_meanPositive) B.pre
  have hown : s.vm.findClass RX11 = some m.cls := findClass_of_methodNamed B.named
  have hlocks := B.notSynchronized
  have C0 : wk_C p s m _ meth c cX11_meanPositive 1 (some .double) wsX11_meanPositive RX11 := ⟨hx, hb, hml, hr, hlocks, hown, hts⟩
  subst hsz
  have hD := hD0.self (sz := s.heap.size)
  generalize hAe : va_A (wX11 Y a M_g M_kept M_saved M_before M_isSaved M_changes M_isWithin M_code M_input M_length M_fault M_failed M_signs M_signMany M_column M_loads M_many M_sums M_groups M_at M_told M_toldMany) s.heap.size = A at hD ⊢
  have hA : ∀ q : Nat, s.heap.size ≤ q → A q := fun q h => by rw [← hAe]; exact Or.inr h
  have hS : va_S A s.heap s.heap [] := va_S.rf
  obtain ⟨H, hHe⟩ : ∃ H, H = s.heap := ⟨_, rfl⟩
  have hS : va_S A s.heap H [] := by rw [hHe]; exact hS
  have hP : va_P (dC, dI) vwCl [(a 0, .inr (11, [.ref (a 1), .ref (a 2), .ref (a 3), .ref (a 4), .int M_isSaved, .int M_changes, .int M_isWithin, .int M_code, .ref (a 5), .int M_length, .int M_fault, .int M_failed, .ref (a 6), .int M_signMany, .ref (a 7), .ref (a 8), .int M_many, .ref (a 9), .ref (a 10), .int M_at, .ref (a 11), .int M_toldMany])), (a 1, .inl (Y 0, 238, .inl M_g)), (a 2, .inl (Y 0, 1904, .inl M_kept)), (a 3, .inl (Y 0, 238, .inl M_saved)), (a 4, .inl (Y 0, 238, .inl M_before)), (a 5, .inl (Y 0, 60, .inl M_input)), (a 6, .inl (Y 2, 100, .inl M_signs)), (a 7, .inl (Y 0, 6, .inl M_column)), (a 8, .inl (Y 0, 6, .inl M_loads)), (a 9, .inl (Y 0, 2048, .inl M_sums)), (a 10, .inl (Y 0, 2048, .inl M_groups)), (a 11, .inl (Y 0, 155, .inl M_told))] H := by rw [hHe]; exact hP
  have hD : va_D A [(a 0, .inr (11, [.ref (a 1), .ref (a 2), .ref (a 3), .ref (a 4), .int M_isSaved, .int M_changes, .int M_isWithin, .int M_code, .ref (a 5), .int M_length, .int M_fault, .int M_failed, .ref (a 6), .int M_signMany, .ref (a 7), .ref (a 8), .int M_many, .ref (a 9), .ref (a 10), .int M_at, .ref (a 11), .int M_toldMany])), (a 1, .inl (Y 0, 238, .inl M_g)), (a 2, .inl (Y 0, 1904, .inl M_kept)), (a 3, .inl (Y 0, 238, .inl M_saved)), (a 4, .inl (Y 0, 238, .inl M_before)), (a 5, .inl (Y 0, 60, .inl M_input)), (a 6, .inl (Y 2, 100, .inl M_signs)), (a 7, .inl (Y 0, 6, .inl M_column)), (a 8, .inl (Y 0, 6, .inl M_loads)), (a 9, .inl (Y 0, 2048, .inl M_sums)), (a 10, .inl (Y 0, 2048, .inl M_groups)), (a 11, .inl (Y 0, 155, .inl M_told))] := hD
  obtain ⟨locs, hlo⟩ : ∃ locs : List Loc, locs = [] := ⟨_, rfl⟩
  have hS : va_S A s.heap H locs := by rw [hlo]; exact hS
  have hl := lv_entry ([.ref (a 0)]) (n := 1) (Nat.le_of_ble_eq_true rfl)
  rw [lg_entry_eq]
  generalize (lg_sl ([.ref (a 0)]) ++ List.replicate (1 - (lg_sl ([.ref (a 0)])).length) Slot.unset).toArray = ls at hl ⊢
  have hl : lv_has ls 1 [(0, .ref (a 0))] := hl
  refine wk_start hHe hlo ?_
  rw [f_X11_meanPositive] at hf
  refine lv_aload_n hx hb dX11_meanPositive_0 rfl (lv_at hl 0 rfl) ?_
  refine lv_aload_n hx hb dX11_meanPositive_1 rfl (lv_at hl 0 rfl) ?_
  obtain ⟨r1, hr2, hf⟩ := wkb1_s hf
  have hPc := hP.sub (ws' := (wX11 Y a M_g M_kept M_saved M_before M_isSaved M_changes M_isWithin M_code M_input M_length M_fault M_failed M_signs M_signMany M_column M_loads M_many M_sums M_groups M_at M_told M_toldMany)) [0, 1, 2, 3, 4, 5, 6, 7, 8, 9, 10, 11] rfl
  refine wk_vi (As := []) (rest := [.ref (a 0)]) ⟨hx, hb, hml, hown, hts⟩ (c_X11_isNonePositive l dC dI Y a M_g M_kept M_saved M_before M_isSaved M_changes M_isWithin M_code M_input M_length M_fault M_failed M_signs M_signMany M_column M_loads M_many M_sums M_groups M_at M_told M_toldMany r1 hr2) (cwV 0 hts gX11_meanPositive_X11_isNonePositive rfl rfl rfl (by decide +kernel) ⟨Nat.le_of_ble_eq_true rfl, Nat.le_of_ble_eq_true rfl⟩) hK hPc (va_recv hK hP (ci := 11) (q0 := 0) rfl rfl) rfl hl.1 rfl (Nat.le_of_ble_eq_true rfl) dX11_meanPositive_2 ⟨Nat.le_of_ble_eq_true rfl, Nat.le_of_ble_eq_true rfl⟩ ?_
  refine lv_if_eq (tgt := 12) hx hb dX11_meanPositive_5 (by decide) (fun q3 => ?_) (fun q3 => ?_)
  · have hf := wk_t hf q3
    refine lv_iconst (v := 0) hx hb dX11_meanPositive_12 (by decide) ?_
    obtain ⟨r4, w5, hr6, hf⟩ := wkb2_s hf
    refine wk_evi (As := [.int 0]) (rest := []) (wc := (wX11 Y a M_g M_kept M_saved M_before M_isSaved M_changes M_isWithin M_code M_input M_length M_fault M_failed M_signs M_signMany M_column M_loads M_many M_sums M_groups M_at M_told M_toldMany)) (w1 := (wX11 Y a M_g M_kept M_saved M_before M_isSaved M_changes M_isWithin w5 M_input M_length M_fault M_failed M_signs M_signMany M_column M_loads M_many M_sums M_groups M_at M_told M_toldMany)) (wr := []) ⟨hx, hb, hml, hown, hts⟩ (c_X11_fails l dC dI Y a M_g M_kept M_saved M_before M_isSaved M_changes M_isWithin M_code M_input M_length M_fault M_failed M_signs M_signMany M_column M_loads M_many M_sums M_groups M_at M_told M_toldMany 0 H.size r4 w5 hr6) (cwV 1 hts gX11_meanPositive_X11_fails rfl rfl rfl (by decide +kernel) ⟨Nat.le_of_ble_eq_true rfl, Nat.le_of_ble_eq_true rfl⟩) hK hP hD hS hA [0, 1, 2, 3, 4, 5, 6, 7, 8, 9, 10, 11] [] rfl rfl (by decide) (by decide) (by decide) (va_recv hK hP (ci := 11) (q0 := 0) rfl rfl) rfl hl.1 rfl (Nat.le_of_ble_eq_true rfl) dX11_meanPositive_13 ⟨Nat.le_of_ble_eq_true rfl, Nat.le_of_ble_eq_true rfl⟩ (fun H locs hP hD hS => ?_)
    have hP : va_P (dC, dI) vwCl [(a 0, .inr (11, [.ref (a 1), .ref (a 2), .ref (a 3), .ref (a 4), .int M_isSaved, .int M_changes, .int M_isWithin, .int w5, .ref (a 5), .int M_length, .int M_fault, .int M_failed, .ref (a 6), .int M_signMany, .ref (a 7), .ref (a 8), .int M_many, .ref (a 9), .ref (a 10), .int M_at, .ref (a 11), .int M_toldMany])), (a 1, .inl (Y 0, 238, .inl M_g)), (a 2, .inl (Y 0, 1904, .inl M_kept)), (a 3, .inl (Y 0, 238, .inl M_saved)), (a 4, .inl (Y 0, 238, .inl M_before)), (a 5, .inl (Y 0, 60, .inl M_input)), (a 6, .inl (Y 2, 100, .inl M_signs)), (a 7, .inl (Y 0, 6, .inl M_column)), (a 8, .inl (Y 0, 6, .inl M_loads)), (a 9, .inl (Y 0, 2048, .inl M_sums)), (a 10, .inl (Y 0, 2048, .inl M_groups)), (a 11, .inl (Y 0, 155, .inl M_told))] H := hP
    have hD : va_D A [(a 0, .inr (11, [.ref (a 1), .ref (a 2), .ref (a 3), .ref (a 4), .int M_isSaved, .int M_changes, .int M_isWithin, .int w5, .ref (a 5), .int M_length, .int M_fault, .int M_failed, .ref (a 6), .int M_signMany, .ref (a 7), .ref (a 8), .int M_many, .ref (a 9), .ref (a 10), .int M_at, .ref (a 11), .int M_toldMany])), (a 1, .inl (Y 0, 238, .inl M_g)), (a 2, .inl (Y 0, 1904, .inl M_kept)), (a 3, .inl (Y 0, 238, .inl M_saved)), (a 4, .inl (Y 0, 238, .inl M_before)), (a 5, .inl (Y 0, 60, .inl M_input)), (a 6, .inl (Y 2, 100, .inl M_signs)), (a 7, .inl (Y 0, 6, .inl M_column)), (a 8, .inl (Y 0, 6, .inl M_loads)), (a 9, .inl (Y 0, 2048, .inl M_sums)), (a 10, .inl (Y 0, 2048, .inl M_groups)), (a 11, .inl (Y 0, 155, .inl M_told))] := hD
    refine lv_if_eq (tgt := 23) hx hb dX11_meanPositive_16 (by decide) (fun q7 => ?_) (fun q7 => ?_)
    · have hf := wk_t hf q7
      refine lv_aload_n hx hb dX11_meanPositive_23 rfl (lv_at hl 0 rfl) ?_
      obtain ⟨r8, hr9, hf⟩ := wkb1_s hf
      have hPc := hP.sub (ws' := (wX11 Y a M_g M_kept M_saved M_before M_isSaved M_changes M_isWithin w5 M_input M_length M_fault M_failed M_signs M_signMany M_column M_loads M_many M_sums M_groups M_at M_told M_toldMany)) [0, 1, 2, 3, 4, 5, 6, 7, 8, 9, 10, 11] rfl
      refine wk_vd (As := []) (rest := []) ⟨hx, hb, hml, hown, hts⟩ (c_X11_mean l dC dI Y a M_g M_kept M_saved M_before M_isSaved M_changes M_isWithin w5 M_input M_length M_fault M_failed M_signs M_signMany M_column M_loads M_many M_sums M_groups M_at M_told M_toldMany r8 hr9) (cwV 0 hts gX11_meanPositive_X11_mean rfl rfl rfl (by decide +kernel) ⟨Nat.le_of_ble_eq_true rfl, Nat.le_of_ble_eq_true rfl⟩) hK hPc (va_recv hK hP (ci := 11) (q0 := 0) rfl rfl) rfl hl.1 rfl (Nat.le_of_ble_eq_true rfl) dX11_meanPositive_24 ⟨Nat.le_of_ble_eq_true rfl, Nat.le_of_ble_eq_true rfl⟩ ?_
      obtain ⟨e0, e1⟩ := wke2 hf
      subst e0
      subst e1
      have hP9 := hP.sub (ws' := (wX11 Y a M_g M_kept M_saved M_before M_isSaved M_changes M_isWithin w5 M_input M_length M_fault M_failed M_signs M_signMany M_column M_loads M_many M_sums M_groups M_at M_told M_toldMany)) [0, 1, 2, 3, 4, 5, 6, 7, 8, 9, 10, 11] rfl
      have hD9 := hD.sub (ws' := (wX11 Y a M_g M_kept M_saved M_before M_isSaved M_changes M_isWithin w5 M_input M_length M_fault M_failed M_signs M_signMany M_column M_loads M_many M_sums M_groups M_at M_told M_toldMany)) [0, 1, 2, 3, 4, 5, 6, 7, 8, 9, 10, 11] (by decide) rfl
      exact W.dret (v := r8) hx hb hr (fun t ht hW => ⟨⟨r8, (), rfl, rfl, by rw [ht]; exact hP9, va_K.moved hW.alike hK, hD9⟩, hS.F ht⟩) hS.2.2 dX11_meanPositive_27
    · have hf := wk_f hf q7
      refine lv_dconst0 hx hb dX11_meanPositive_19 ?_
      refine lv_goto (tgt := 27) hx hb dX11_meanPositive_20 (by decide) ?_
      obtain ⟨e0, e1⟩ := wke2 hf
      subst e0
      subst e1
      have hP9 := hP.sub (ws' := (wX11 Y a M_g M_kept M_saved M_before M_isSaved M_changes M_isWithin w5 M_input M_length M_fault M_failed M_signs M_signMany M_column M_loads M_many M_sums M_groups M_at M_told M_toldMany)) [0, 1, 2, 3, 4, 5, 6, 7, 8, 9, 10, 11] rfl
      have hD9 := hD.sub (ws' := (wX11 Y a M_g M_kept M_saved M_before M_isSaved M_changes M_isWithin w5 M_input M_length M_fault M_failed M_signs M_signMany M_column M_loads M_many M_sums M_groups M_at M_told M_toldMany)) [0, 1, 2, 3, 4, 5, 6, 7, 8, 9, 10, 11] (by decide) rfl
      exact W.dret (v := FP.dconst0) hx hb hr (fun t ht hW => ⟨⟨FP.dconst0, (), rfl, rfl, by rw [ht]; exact hP9, va_K.moved hW.alike hK, hD9⟩, hS.F ht⟩) hS.2.2 dX11_meanPositive_27
  · have hf := wk_f hf q3
    refine lv_iconst (v := 1) hx hb dX11_meanPositive_8 (by decide) ?_
    refine lv_goto (tgt := 13) hx hb dX11_meanPositive_9 (by decide) ?_
    obtain ⟨r10, w11, hr12, hf⟩ := wkb2_s hf
    refine wk_evi (As := [.int 1]) (rest := []) (wc := (wX11 Y a M_g M_kept M_saved M_before M_isSaved M_changes M_isWithin M_code M_input M_length M_fault M_failed M_signs M_signMany M_column M_loads M_many M_sums M_groups M_at M_told M_toldMany)) (w1 := (wX11 Y a M_g M_kept M_saved M_before M_isSaved M_changes M_isWithin w11 M_input M_length M_fault M_failed M_signs M_signMany M_column M_loads M_many M_sums M_groups M_at M_told M_toldMany)) (wr := []) ⟨hx, hb, hml, hown, hts⟩ (c_X11_fails l dC dI Y a M_g M_kept M_saved M_before M_isSaved M_changes M_isWithin M_code M_input M_length M_fault M_failed M_signs M_signMany M_column M_loads M_many M_sums M_groups M_at M_told M_toldMany 1 H.size r10 w11 hr12) (cwV 1 hts gX11_meanPositive_X11_fails rfl rfl rfl (by decide +kernel) ⟨Nat.le_of_ble_eq_true rfl, Nat.le_of_ble_eq_true rfl⟩) hK hP hD hS hA [0, 1, 2, 3, 4, 5, 6, 7, 8, 9, 10, 11] [] rfl rfl (by decide) (by decide) (by decide) (va_recv hK hP (ci := 11) (q0 := 0) rfl rfl) rfl hl.1 rfl (Nat.le_of_ble_eq_true rfl) dX11_meanPositive_13 ⟨Nat.le_of_ble_eq_true rfl, Nat.le_of_ble_eq_true rfl⟩ (fun H locs hP hD hS => ?_)
    have hP : va_P (dC, dI) vwCl [(a 0, .inr (11, [.ref (a 1), .ref (a 2), .ref (a 3), .ref (a 4), .int M_isSaved, .int M_changes, .int M_isWithin, .int w11, .ref (a 5), .int M_length, .int M_fault, .int M_failed, .ref (a 6), .int M_signMany, .ref (a 7), .ref (a 8), .int M_many, .ref (a 9), .ref (a 10), .int M_at, .ref (a 11), .int M_toldMany])), (a 1, .inl (Y 0, 238, .inl M_g)), (a 2, .inl (Y 0, 1904, .inl M_kept)), (a 3, .inl (Y 0, 238, .inl M_saved)), (a 4, .inl (Y 0, 238, .inl M_before)), (a 5, .inl (Y 0, 60, .inl M_input)), (a 6, .inl (Y 2, 100, .inl M_signs)), (a 7, .inl (Y 0, 6, .inl M_column)), (a 8, .inl (Y 0, 6, .inl M_loads)), (a 9, .inl (Y 0, 2048, .inl M_sums)), (a 10, .inl (Y 0, 2048, .inl M_groups)), (a 11, .inl (Y 0, 155, .inl M_told))] H := hP
    have hD : va_D A [(a 0, .inr (11, [.ref (a 1), .ref (a 2), .ref (a 3), .ref (a 4), .int M_isSaved, .int M_changes, .int M_isWithin, .int w11, .ref (a 5), .int M_length, .int M_fault, .int M_failed, .ref (a 6), .int M_signMany, .ref (a 7), .ref (a 8), .int M_many, .ref (a 9), .ref (a 10), .int M_at, .ref (a 11), .int M_toldMany])), (a 1, .inl (Y 0, 238, .inl M_g)), (a 2, .inl (Y 0, 1904, .inl M_kept)), (a 3, .inl (Y 0, 238, .inl M_saved)), (a 4, .inl (Y 0, 238, .inl M_before)), (a 5, .inl (Y 0, 60, .inl M_input)), (a 6, .inl (Y 2, 100, .inl M_signs)), (a 7, .inl (Y 0, 6, .inl M_column)), (a 8, .inl (Y 0, 6, .inl M_loads)), (a 9, .inl (Y 0, 2048, .inl M_sums)), (a 10, .inl (Y 0, 2048, .inl M_groups)), (a 11, .inl (Y 0, 155, .inl M_told))] := hD
    refine lv_if_eq (tgt := 23) hx hb dX11_meanPositive_16 (by decide) (fun q13 => ?_) (fun q13 => ?_)
    · have hf := wk_t hf q13
      refine lv_aload_n hx hb dX11_meanPositive_23 rfl (lv_at hl 0 rfl) ?_
      obtain ⟨r14, hr15, hf⟩ := wkb1_s hf
      have hPc := hP.sub (ws' := (wX11 Y a M_g M_kept M_saved M_before M_isSaved M_changes M_isWithin w11 M_input M_length M_fault M_failed M_signs M_signMany M_column M_loads M_many M_sums M_groups M_at M_told M_toldMany)) [0, 1, 2, 3, 4, 5, 6, 7, 8, 9, 10, 11] rfl
      refine wk_vd (As := []) (rest := []) ⟨hx, hb, hml, hown, hts⟩ (c_X11_mean l dC dI Y a M_g M_kept M_saved M_before M_isSaved M_changes M_isWithin w11 M_input M_length M_fault M_failed M_signs M_signMany M_column M_loads M_many M_sums M_groups M_at M_told M_toldMany r14 hr15) (cwV 0 hts gX11_meanPositive_X11_mean rfl rfl rfl (by decide +kernel) ⟨Nat.le_of_ble_eq_true rfl, Nat.le_of_ble_eq_true rfl⟩) hK hPc (va_recv hK hP (ci := 11) (q0 := 0) rfl rfl) rfl hl.1 rfl (Nat.le_of_ble_eq_true rfl) dX11_meanPositive_24 ⟨Nat.le_of_ble_eq_true rfl, Nat.le_of_ble_eq_true rfl⟩ ?_
      obtain ⟨e0, e1⟩ := wke2 hf
      subst e0
      subst e1
      have hP9 := hP.sub (ws' := (wX11 Y a M_g M_kept M_saved M_before M_isSaved M_changes M_isWithin w11 M_input M_length M_fault M_failed M_signs M_signMany M_column M_loads M_many M_sums M_groups M_at M_told M_toldMany)) [0, 1, 2, 3, 4, 5, 6, 7, 8, 9, 10, 11] rfl
      have hD9 := hD.sub (ws' := (wX11 Y a M_g M_kept M_saved M_before M_isSaved M_changes M_isWithin w11 M_input M_length M_fault M_failed M_signs M_signMany M_column M_loads M_many M_sums M_groups M_at M_told M_toldMany)) [0, 1, 2, 3, 4, 5, 6, 7, 8, 9, 10, 11] (by decide) rfl
      exact W.dret (v := r14) hx hb hr (fun t ht hW => ⟨⟨r14, (), rfl, rfl, by rw [ht]; exact hP9, va_K.moved hW.alike hK, hD9⟩, hS.F ht⟩) hS.2.2 dX11_meanPositive_27
    · have hf := wk_f hf q13
      refine lv_dconst0 hx hb dX11_meanPositive_19 ?_
      refine lv_goto (tgt := 27) hx hb dX11_meanPositive_20 (by decide) ?_
      obtain ⟨e0, e1⟩ := wke2 hf
      subst e0
      subst e1
      have hP9 := hP.sub (ws' := (wX11 Y a M_g M_kept M_saved M_before M_isSaved M_changes M_isWithin w11 M_input M_length M_fault M_failed M_signs M_signMany M_column M_loads M_many M_sums M_groups M_at M_told M_toldMany)) [0, 1, 2, 3, 4, 5, 6, 7, 8, 9, 10, 11] rfl
      have hD9 := hD.sub (ws' := (wX11 Y a M_g M_kept M_saved M_before M_isSaved M_changes M_isWithin w11 M_input M_length M_fault M_failed M_signs M_signMany M_column M_loads M_many M_sums M_groups M_at M_told M_toldMany)) [0, 1, 2, 3, 4, 5, 6, 7, 8, 9, 10, 11] (by decide) rfl
      exact W.dret (v := FP.dconst0) hx hb hr (fun t ht hW => ⟨⟨FP.dconst0, (), rfl, rfl, by rw [ht]; exact hP9, va_K.moved hW.alike hK, hD9⟩, hS.F ht⟩) hS.2.2 dX11_meanPositive_27
def f_X11_meanPositiveBits (M_g : Nat → Int32) (M_code : Int32) : Option (Int64 × Int32) :=
  wkb1 (f_X11_isNonePositive M_g) (fun r1 =>
  if r1 = 0 then
    (wkb2 (f_X11_fails M_code 0) (fun r4 w5 =>
    if r4 = 0 then
      (wkb1 (f_X11_mean M_g) (fun r8 =>
      wkb1 (f_Jxe99ae_doubleToLongBits_ccdee r8) (fun r10 =>
      some (r10, w5))))
    else
      (some (0, w5))))
  else
    (wkb2 (f_X11_fails M_code 1) (fun r12 w13 =>
    if r12 = 0 then
      (wkb1 (f_X11_mean M_g) (fun r16 =>
      wkb1 (f_Jxe99ae_doubleToLongBits_ccdee r16) (fun r18 =>
      some (r18, w13))))
    else
      (some (0, w13)))))
set_option maxHeartbeats 4000000 in
set_option maxRecDepth 100000 in
theorem c_X11_meanPositiveBits (l : Launch) (dC : Nat → ClassId) (dI : Nat → Nat → Nat) (Y : Nat → ClassId) (a : Nat → Nat) (M_g : Nat → Int32) (M_kept : Nat → Int32) (M_saved : Nat → Int32) (M_before : Nat → Int32) (M_isSaved : Int32) (M_changes : Int32) (M_isWithin : Int32) (M_code : Int32) (M_input : Nat → Int32) (M_length : Int32) (M_fault : Int32) (M_failed : Int32) (M_signs : Nat → Int32) (M_signMany : Int32) (M_column : Nat → Int32) (M_loads : Nat → Int32) (M_many : Int32) (M_sums : Nat → Int32) (M_groups : Nat → Int32) (M_at : Int32) (M_told : Nat → Int32) (M_toldMany : Int32)  (sz : Nat) (r : Int64) (zM_code : Int32) (hf : f_X11_meanPositiveBits M_g M_code = some (r, zM_code)) : Met l yX11_meanPositiveBits wsX11_meanPositiveBits ({ frames := 2, cells := 0, slots := 0, locals := 45 } : Room) (va_Pc [.ref (a 0)] (wk_E (dC, dI) Y (wX11 Y a M_g M_kept M_saved M_before M_isSaved M_changes M_isWithin M_code M_input M_length M_fault M_failed M_signs M_signMany M_column M_loads M_many M_sums M_groups M_at M_told M_toldMany) sz)) (va_Ql (fun r2 (_ : Unit) => r2 = r) (fun _ t => wk_X (dC, dI) Y (wX11 Y a M_g M_kept M_saved M_before M_isSaved M_changes M_isWithin zM_code M_input M_length M_fault M_failed M_signs M_signMany M_column M_loads M_many M_sums M_groups M_at M_told M_toldMany) (va_A (wX11 Y a M_g M_kept M_saved M_before M_isSaved M_changes M_isWithin M_code M_input M_length M_fault M_failed M_signs M_signMany M_column M_loads M_many M_sums M_groups M_at M_told M_toldMany) sz) t) (va_A (wX11 Y a M_g M_kept M_saved M_before M_isSaved M_changes M_isWithin M_code M_input M_length M_fault M_failed M_signs M_signMany M_column M_loads M_many M_sums M_groups M_at M_told M_toldMany) sz)) 0 0 (va_A (wX11 Y a M_g M_kept M_saved M_before M_isSaved M_changes M_isWithin M_code M_input M_length M_fault M_failed M_signs M_signMany M_column M_loads M_many M_sums M_groups M_at M_told M_toldMany) sz) := by
  refine Met.ofW (cc := cX11_meanPositiveBits) (maxL := 1) (ret := (some .long)) (by decide) rfl ?_
  intro p e s m args below meth c s₁ B hml hv
  obtain ⟨rfl, hsz, hP, hK, hD0⟩ := hv
  have hx := B.exec
  have hb := B.bytes
  have hr := B.returns
  have hts := atoms_spec (ws := wsX11_meanPositiveBits) B.pre
  have hown : s.vm.findClass RX11 = some m.cls := findClass_of_methodNamed B.named
  have hlocks := B.notSynchronized
  have C0 : wk_C p s m _ meth c cX11_meanPositiveBits 1 (some .long) wsX11_meanPositiveBits RX11 := ⟨hx, hb, hml, hr, hlocks, hown, hts⟩
  subst hsz
  have hD := hD0.self (sz := s.heap.size)
  generalize hAe : va_A (wX11 Y a M_g M_kept M_saved M_before M_isSaved M_changes M_isWithin M_code M_input M_length M_fault M_failed M_signs M_signMany M_column M_loads M_many M_sums M_groups M_at M_told M_toldMany) s.heap.size = A at hD ⊢
  have hA : ∀ q : Nat, s.heap.size ≤ q → A q := fun q h => by rw [← hAe]; exact Or.inr h
  have hS : va_S A s.heap s.heap [] := va_S.rf
  obtain ⟨H, hHe⟩ : ∃ H, H = s.heap := ⟨_, rfl⟩
  have hS : va_S A s.heap H [] := by rw [hHe]; exact hS
  have hP : va_P (dC, dI) vwCl [(a 0, .inr (11, [.ref (a 1), .ref (a 2), .ref (a 3), .ref (a 4), .int M_isSaved, .int M_changes, .int M_isWithin, .int M_code, .ref (a 5), .int M_length, .int M_fault, .int M_failed, .ref (a 6), .int M_signMany, .ref (a 7), .ref (a 8), .int M_many, .ref (a 9), .ref (a 10), .int M_at, .ref (a 11), .int M_toldMany])), (a 1, .inl (Y 0, 238, .inl M_g)), (a 2, .inl (Y 0, 1904, .inl M_kept)), (a 3, .inl (Y 0, 238, .inl M_saved)), (a 4, .inl (Y 0, 238, .inl M_before)), (a 5, .inl (Y 0, 60, .inl M_input)), (a 6, .inl (Y 2, 100, .inl M_signs)), (a 7, .inl (Y 0, 6, .inl M_column)), (a 8, .inl (Y 0, 6, .inl M_loads)), (a 9, .inl (Y 0, 2048, .inl M_sums)), (a 10, .inl (Y 0, 2048, .inl M_groups)), (a 11, .inl (Y 0, 155, .inl M_told))] H := by rw [hHe]; exact hP
  have hD : va_D A [(a 0, .inr (11, [.ref (a 1), .ref (a 2), .ref (a 3), .ref (a 4), .int M_isSaved, .int M_changes, .int M_isWithin, .int M_code, .ref (a 5), .int M_length, .int M_fault, .int M_failed, .ref (a 6), .int M_signMany, .ref (a 7), .ref (a 8), .int M_many, .ref (a 9), .ref (a 10), .int M_at, .ref (a 11), .int M_toldMany])), (a 1, .inl (Y 0, 238, .inl M_g)), (a 2, .inl (Y 0, 1904, .inl M_kept)), (a 3, .inl (Y 0, 238, .inl M_saved)), (a 4, .inl (Y 0, 238, .inl M_before)), (a 5, .inl (Y 0, 60, .inl M_input)), (a 6, .inl (Y 2, 100, .inl M_signs)), (a 7, .inl (Y 0, 6, .inl M_column)), (a 8, .inl (Y 0, 6, .inl M_loads)), (a 9, .inl (Y 0, 2048, .inl M_sums)), (a 10, .inl (Y 0, 2048, .inl M_groups)), (a 11, .inl (Y 0, 155, .inl M_told))] := hD
  obtain ⟨locs, hlo⟩ : ∃ locs : List Loc, locs = [] := ⟨_, rfl⟩
  have hS : va_S A s.heap H locs := by rw [hlo]; exact hS
  have hl := lv_entry ([.ref (a 0)]) (n := 1) (Nat.le_of_ble_eq_true rfl)
  rw [lg_entry_eq]
  generalize (lg_sl ([.ref (a 0)]) ++ List.replicate (1 - (lg_sl ([.ref (a 0)])).length) Slot.unset).toArray = ls at hl ⊢
  have hl : lv_has ls 1 [(0, .ref (a 0))] := hl
  refine wk_start hHe hlo ?_
  rw [f_X11_meanPositiveBits] at hf
  refine lv_aload_n hx hb dX11_meanPositiveBits_0 rfl (lv_at hl 0 rfl) ?_
  refine lv_aload_n hx hb dX11_meanPositiveBits_1 rfl (lv_at hl 0 rfl) ?_
  obtain ⟨r1, hr2, hf⟩ := wkb1_s hf
  have hPc := hP.sub (ws' := (wX11 Y a M_g M_kept M_saved M_before M_isSaved M_changes M_isWithin M_code M_input M_length M_fault M_failed M_signs M_signMany M_column M_loads M_many M_sums M_groups M_at M_told M_toldMany)) [0, 1, 2, 3, 4, 5, 6, 7, 8, 9, 10, 11] rfl
  refine wk_vi (As := []) (rest := [.ref (a 0)]) ⟨hx, hb, hml, hown, hts⟩ (c_X11_isNonePositive l dC dI Y a M_g M_kept M_saved M_before M_isSaved M_changes M_isWithin M_code M_input M_length M_fault M_failed M_signs M_signMany M_column M_loads M_many M_sums M_groups M_at M_told M_toldMany r1 hr2) (cwV 0 hts gX11_meanPositiveBits_X11_isNonePositive rfl rfl rfl (by decide +kernel) ⟨Nat.le_of_ble_eq_true rfl, Nat.le_of_ble_eq_true rfl⟩) hK hPc (va_recv hK hP (ci := 11) (q0 := 0) rfl rfl) rfl hl.1 rfl (Nat.le_of_ble_eq_true rfl) dX11_meanPositiveBits_2 ⟨Nat.le_of_ble_eq_true rfl, Nat.le_of_ble_eq_true rfl⟩ ?_
  refine lv_if_eq (tgt := 12) hx hb dX11_meanPositiveBits_5 (by decide) (fun q3 => ?_) (fun q3 => ?_)
  · have hf := wk_t hf q3
    refine lv_iconst (v := 0) hx hb dX11_meanPositiveBits_12 (by decide) ?_
    obtain ⟨r4, w5, hr6, hf⟩ := wkb2_s hf
    refine wk_evi (As := [.int 0]) (rest := []) (wc := (wX11 Y a M_g M_kept M_saved M_before M_isSaved M_changes M_isWithin M_code M_input M_length M_fault M_failed M_signs M_signMany M_column M_loads M_many M_sums M_groups M_at M_told M_toldMany)) (w1 := (wX11 Y a M_g M_kept M_saved M_before M_isSaved M_changes M_isWithin w5 M_input M_length M_fault M_failed M_signs M_signMany M_column M_loads M_many M_sums M_groups M_at M_told M_toldMany)) (wr := []) ⟨hx, hb, hml, hown, hts⟩ (c_X11_fails l dC dI Y a M_g M_kept M_saved M_before M_isSaved M_changes M_isWithin M_code M_input M_length M_fault M_failed M_signs M_signMany M_column M_loads M_many M_sums M_groups M_at M_told M_toldMany 0 H.size r4 w5 hr6) (cwV 1 hts gX11_meanPositiveBits_X11_fails rfl rfl rfl (by decide +kernel) ⟨Nat.le_of_ble_eq_true rfl, Nat.le_of_ble_eq_true rfl⟩) hK hP hD hS hA [0, 1, 2, 3, 4, 5, 6, 7, 8, 9, 10, 11] [] rfl rfl (by decide) (by decide) (by decide) (va_recv hK hP (ci := 11) (q0 := 0) rfl rfl) rfl hl.1 rfl (Nat.le_of_ble_eq_true rfl) dX11_meanPositiveBits_13 ⟨Nat.le_of_ble_eq_true rfl, Nat.le_of_ble_eq_true rfl⟩ (fun H locs hP hD hS => ?_)
    have hP : va_P (dC, dI) vwCl [(a 0, .inr (11, [.ref (a 1), .ref (a 2), .ref (a 3), .ref (a 4), .int M_isSaved, .int M_changes, .int M_isWithin, .int w5, .ref (a 5), .int M_length, .int M_fault, .int M_failed, .ref (a 6), .int M_signMany, .ref (a 7), .ref (a 8), .int M_many, .ref (a 9), .ref (a 10), .int M_at, .ref (a 11), .int M_toldMany])), (a 1, .inl (Y 0, 238, .inl M_g)), (a 2, .inl (Y 0, 1904, .inl M_kept)), (a 3, .inl (Y 0, 238, .inl M_saved)), (a 4, .inl (Y 0, 238, .inl M_before)), (a 5, .inl (Y 0, 60, .inl M_input)), (a 6, .inl (Y 2, 100, .inl M_signs)), (a 7, .inl (Y 0, 6, .inl M_column)), (a 8, .inl (Y 0, 6, .inl M_loads)), (a 9, .inl (Y 0, 2048, .inl M_sums)), (a 10, .inl (Y 0, 2048, .inl M_groups)), (a 11, .inl (Y 0, 155, .inl M_told))] H := hP
    have hD : va_D A [(a 0, .inr (11, [.ref (a 1), .ref (a 2), .ref (a 3), .ref (a 4), .int M_isSaved, .int M_changes, .int M_isWithin, .int w5, .ref (a 5), .int M_length, .int M_fault, .int M_failed, .ref (a 6), .int M_signMany, .ref (a 7), .ref (a 8), .int M_many, .ref (a 9), .ref (a 10), .int M_at, .ref (a 11), .int M_toldMany])), (a 1, .inl (Y 0, 238, .inl M_g)), (a 2, .inl (Y 0, 1904, .inl M_kept)), (a 3, .inl (Y 0, 238, .inl M_saved)), (a 4, .inl (Y 0, 238, .inl M_before)), (a 5, .inl (Y 0, 60, .inl M_input)), (a 6, .inl (Y 2, 100, .inl M_signs)), (a 7, .inl (Y 0, 6, .inl M_column)), (a 8, .inl (Y 0, 6, .inl M_loads)), (a 9, .inl (Y 0, 2048, .inl M_sums)), (a 10, .inl (Y 0, 2048, .inl M_groups)), (a 11, .inl (Y 0, 155, .inl M_told))] := hD
    refine lv_if_eq (tgt := 23) hx hb dX11_meanPositiveBits_16 (by decide) (fun q7 => ?_) (fun q7 => ?_)
    · have hf := wk_t hf q7
      refine lv_aload_n hx hb dX11_meanPositiveBits_23 rfl (lv_at hl 0 rfl) ?_
      obtain ⟨r8, hr9, hf⟩ := wkb1_s hf
      have hPc := hP.sub (ws' := (wX11 Y a M_g M_kept M_saved M_before M_isSaved M_changes M_isWithin w5 M_input M_length M_fault M_failed M_signs M_signMany M_column M_loads M_many M_sums M_groups M_at M_told M_toldMany)) [0, 1, 2, 3, 4, 5, 6, 7, 8, 9, 10, 11] rfl
      refine wk_vd (As := []) (rest := []) ⟨hx, hb, hml, hown, hts⟩ (c_X11_mean l dC dI Y a M_g M_kept M_saved M_before M_isSaved M_changes M_isWithin w5 M_input M_length M_fault M_failed M_signs M_signMany M_column M_loads M_many M_sums M_groups M_at M_told M_toldMany r8 hr9) (cwV 0 hts gX11_meanPositiveBits_X11_mean rfl rfl rfl (by decide +kernel) ⟨Nat.le_of_ble_eq_true rfl, Nat.le_of_ble_eq_true rfl⟩) hK hPc (va_recv hK hP (ci := 11) (q0 := 0) rfl rfl) rfl hl.1 rfl (Nat.le_of_ble_eq_true rfl) dX11_meanPositiveBits_24 ⟨Nat.le_of_ble_eq_true rfl, Nat.le_of_ble_eq_true rfl⟩ ?_
      obtain ⟨r10, hr11, hf⟩ := wkb1_s hf
      have hPc := hP.sub (ws' := ([] : va_W)) [] rfl
      refine wk_sl (As := [.double r8]) (rest := []) ⟨hx, hb, hml, hown, hts⟩ (c_Jxe99ae_doubleToLongBits_ccdee l dC dI Y r8 r10 hr11) (va_cwS 1 hts gX11_meanPositiveBits_Jxe99ae_doubleToLongBits_ccdee rfl rfl rfl (by decide +kernel) ⟨Nat.le_of_ble_eq_true rfl, Nat.le_of_ble_eq_true rfl⟩) hK hPc rfl hl.1 rfl (Nat.le_of_ble_eq_true rfl) dX11_meanPositiveBits_27 ⟨Nat.le_of_ble_eq_true rfl, Nat.le_of_ble_eq_true rfl⟩ ?_
      obtain ⟨e0, e1⟩ := wke2 hf
      subst e0
      subst e1
      have hP9 := hP.sub (ws' := (wX11 Y a M_g M_kept M_saved M_before M_isSaved M_changes M_isWithin w5 M_input M_length M_fault M_failed M_signs M_signMany M_column M_loads M_many M_sums M_groups M_at M_told M_toldMany)) [0, 1, 2, 3, 4, 5, 6, 7, 8, 9, 10, 11] rfl
      have hD9 := hD.sub (ws' := (wX11 Y a M_g M_kept M_saved M_before M_isSaved M_changes M_isWithin w5 M_input M_length M_fault M_failed M_signs M_signMany M_column M_loads M_many M_sums M_groups M_at M_told M_toldMany)) [0, 1, 2, 3, 4, 5, 6, 7, 8, 9, 10, 11] (by decide) rfl
      exact W.lret (v := r10) hx hb hr (fun t ht hW => ⟨⟨r10, (), rfl, rfl, by rw [ht]; exact hP9, va_K.moved hW.alike hK, hD9⟩, hS.F ht⟩) hS.2.2 dX11_meanPositiveBits_30
    · have hf := wk_f hf q7
      refine lv_lconst (v := 0) hx hb dX11_meanPositiveBits_19 (by decide) ?_
      refine lv_goto (tgt := 30) hx hb dX11_meanPositiveBits_20 (by decide) ?_
      obtain ⟨e0, e1⟩ := wke2 hf
      subst e0
      subst e1
      have hP9 := hP.sub (ws' := (wX11 Y a M_g M_kept M_saved M_before M_isSaved M_changes M_isWithin w5 M_input M_length M_fault M_failed M_signs M_signMany M_column M_loads M_many M_sums M_groups M_at M_told M_toldMany)) [0, 1, 2, 3, 4, 5, 6, 7, 8, 9, 10, 11] rfl
      have hD9 := hD.sub (ws' := (wX11 Y a M_g M_kept M_saved M_before M_isSaved M_changes M_isWithin w5 M_input M_length M_fault M_failed M_signs M_signMany M_column M_loads M_many M_sums M_groups M_at M_told M_toldMany)) [0, 1, 2, 3, 4, 5, 6, 7, 8, 9, 10, 11] (by decide) rfl
      exact W.lret (v := 0) hx hb hr (fun t ht hW => ⟨⟨0, (), rfl, rfl, by rw [ht]; exact hP9, va_K.moved hW.alike hK, hD9⟩, hS.F ht⟩) hS.2.2 dX11_meanPositiveBits_30
  · have hf := wk_f hf q3
    refine lv_iconst (v := 1) hx hb dX11_meanPositiveBits_8 (by decide) ?_
    refine lv_goto (tgt := 13) hx hb dX11_meanPositiveBits_9 (by decide) ?_
    obtain ⟨r12, w13, hr14, hf⟩ := wkb2_s hf
    refine wk_evi (As := [.int 1]) (rest := []) (wc := (wX11 Y a M_g M_kept M_saved M_before M_isSaved M_changes M_isWithin M_code M_input M_length M_fault M_failed M_signs M_signMany M_column M_loads M_many M_sums M_groups M_at M_told M_toldMany)) (w1 := (wX11 Y a M_g M_kept M_saved M_before M_isSaved M_changes M_isWithin w13 M_input M_length M_fault M_failed M_signs M_signMany M_column M_loads M_many M_sums M_groups M_at M_told M_toldMany)) (wr := []) ⟨hx, hb, hml, hown, hts⟩ (c_X11_fails l dC dI Y a M_g M_kept M_saved M_before M_isSaved M_changes M_isWithin M_code M_input M_length M_fault M_failed M_signs M_signMany M_column M_loads M_many M_sums M_groups M_at M_told M_toldMany 1 H.size r12 w13 hr14) (cwV 1 hts gX11_meanPositiveBits_X11_fails rfl rfl rfl (by decide +kernel) ⟨Nat.le_of_ble_eq_true rfl, Nat.le_of_ble_eq_true rfl⟩) hK hP hD hS hA [0, 1, 2, 3, 4, 5, 6, 7, 8, 9, 10, 11] [] rfl rfl (by decide) (by decide) (by decide) (va_recv hK hP (ci := 11) (q0 := 0) rfl rfl) rfl hl.1 rfl (Nat.le_of_ble_eq_true rfl) dX11_meanPositiveBits_13 ⟨Nat.le_of_ble_eq_true rfl, Nat.le_of_ble_eq_true rfl⟩ (fun H locs hP hD hS => ?_)
    have hP : va_P (dC, dI) vwCl [(a 0, .inr (11, [.ref (a 1), .ref (a 2), .ref (a 3), .ref (a 4), .int M_isSaved, .int M_changes, .int M_isWithin, .int w13, .ref (a 5), .int M_length, .int M_fault, .int M_failed, .ref (a 6), .int M_signMany, .ref (a 7), .ref (a 8), .int M_many, .ref (a 9), .ref (a 10), .int M_at, .ref (a 11), .int M_toldMany])), (a 1, .inl (Y 0, 238, .inl M_g)), (a 2, .inl (Y 0, 1904, .inl M_kept)), (a 3, .inl (Y 0, 238, .inl M_saved)), (a 4, .inl (Y 0, 238, .inl M_before)), (a 5, .inl (Y 0, 60, .inl M_input)), (a 6, .inl (Y 2, 100, .inl M_signs)), (a 7, .inl (Y 0, 6, .inl M_column)), (a 8, .inl (Y 0, 6, .inl M_loads)), (a 9, .inl (Y 0, 2048, .inl M_sums)), (a 10, .inl (Y 0, 2048, .inl M_groups)), (a 11, .inl (Y 0, 155, .inl M_told))] H := hP
    have hD : va_D A [(a 0, .inr (11, [.ref (a 1), .ref (a 2), .ref (a 3), .ref (a 4), .int M_isSaved, .int M_changes, .int M_isWithin, .int w13, .ref (a 5), .int M_length, .int M_fault, .int M_failed, .ref (a 6), .int M_signMany, .ref (a 7), .ref (a 8), .int M_many, .ref (a 9), .ref (a 10), .int M_at, .ref (a 11), .int M_toldMany])), (a 1, .inl (Y 0, 238, .inl M_g)), (a 2, .inl (Y 0, 1904, .inl M_kept)), (a 3, .inl (Y 0, 238, .inl M_saved)), (a 4, .inl (Y 0, 238, .inl M_before)), (a 5, .inl (Y 0, 60, .inl M_input)), (a 6, .inl (Y 2, 100, .inl M_signs)), (a 7, .inl (Y 0, 6, .inl M_column)), (a 8, .inl (Y 0, 6, .inl M_loads)), (a 9, .inl (Y 0, 2048, .inl M_sums)), (a 10, .inl (Y 0, 2048, .inl M_groups)), (a 11, .inl (Y 0, 155, .inl M_told))] := hD
    refine lv_if_eq (tgt := 23) hx hb dX11_meanPositiveBits_16 (by decide) (fun q15 => ?_) (fun q15 => ?_)
    · have hf := wk_t hf q15
      refine lv_aload_n hx hb dX11_meanPositiveBits_23 rfl (lv_at hl 0 rfl) ?_
      obtain ⟨r16, hr17, hf⟩ := wkb1_s hf
      have hPc := hP.sub (ws' := (wX11 Y a M_g M_kept M_saved M_before M_isSaved M_changes M_isWithin w13 M_input M_length M_fault M_failed M_signs M_signMany M_column M_loads M_many M_sums M_groups M_at M_told M_toldMany)) [0, 1, 2, 3, 4, 5, 6, 7, 8, 9, 10, 11] rfl
      refine wk_vd (As := []) (rest := []) ⟨hx, hb, hml, hown, hts⟩ (c_X11_mean l dC dI Y a M_g M_kept M_saved M_before M_isSaved M_changes M_isWithin w13 M_input M_length M_fault M_failed M_signs M_signMany M_column M_loads M_many M_sums M_groups M_at M_told M_toldMany r16 hr17) (cwV 0 hts gX11_meanPositiveBits_X11_mean rfl rfl rfl (by decide +kernel) ⟨Nat.le_of_ble_eq_true rfl, Nat.le_of_ble_eq_true rfl⟩) hK hPc (va_recv hK hP (ci := 11) (q0 := 0) rfl rfl) rfl hl.1 rfl (Nat.le_of_ble_eq_true rfl) dX11_meanPositiveBits_24 ⟨Nat.le_of_ble_eq_true rfl, Nat.le_of_ble_eq_true rfl⟩ ?_
      obtain ⟨r18, hr19, hf⟩ := wkb1_s hf
      have hPc := hP.sub (ws' := ([] : va_W)) [] rfl
      refine wk_sl (As := [.double r16]) (rest := []) ⟨hx, hb, hml, hown, hts⟩ (c_Jxe99ae_doubleToLongBits_ccdee l dC dI Y r16 r18 hr19) (va_cwS 1 hts gX11_meanPositiveBits_Jxe99ae_doubleToLongBits_ccdee rfl rfl rfl (by decide +kernel) ⟨Nat.le_of_ble_eq_true rfl, Nat.le_of_ble_eq_true rfl⟩) hK hPc rfl hl.1 rfl (Nat.le_of_ble_eq_true rfl) dX11_meanPositiveBits_27 ⟨Nat.le_of_ble_eq_true rfl, Nat.le_of_ble_eq_true rfl⟩ ?_
      obtain ⟨e0, e1⟩ := wke2 hf
      subst e0
      subst e1
      have hP9 := hP.sub (ws' := (wX11 Y a M_g M_kept M_saved M_before M_isSaved M_changes M_isWithin w13 M_input M_length M_fault M_failed M_signs M_signMany M_column M_loads M_many M_sums M_groups M_at M_told M_toldMany)) [0, 1, 2, 3, 4, 5, 6, 7, 8, 9, 10, 11] rfl
      have hD9 := hD.sub (ws' := (wX11 Y a M_g M_kept M_saved M_before M_isSaved M_changes M_isWithin w13 M_input M_length M_fault M_failed M_signs M_signMany M_column M_loads M_many M_sums M_groups M_at M_told M_toldMany)) [0, 1, 2, 3, 4, 5, 6, 7, 8, 9, 10, 11] (by decide) rfl
      exact W.lret (v := r18) hx hb hr (fun t ht hW => ⟨⟨r18, (), rfl, rfl, by rw [ht]; exact hP9, va_K.moved hW.alike hK, hD9⟩, hS.F ht⟩) hS.2.2 dX11_meanPositiveBits_30
    · have hf := wk_f hf q15
      refine lv_lconst (v := 0) hx hb dX11_meanPositiveBits_19 (by decide) ?_
      refine lv_goto (tgt := 30) hx hb dX11_meanPositiveBits_20 (by decide) ?_
      obtain ⟨e0, e1⟩ := wke2 hf
      subst e0
      subst e1
      have hP9 := hP.sub (ws' := (wX11 Y a M_g M_kept M_saved M_before M_isSaved M_changes M_isWithin w13 M_input M_length M_fault M_failed M_signs M_signMany M_column M_loads M_many M_sums M_groups M_at M_told M_toldMany)) [0, 1, 2, 3, 4, 5, 6, 7, 8, 9, 10, 11] rfl
      have hD9 := hD.sub (ws' := (wX11 Y a M_g M_kept M_saved M_before M_isSaved M_changes M_isWithin w13 M_input M_length M_fault M_failed M_signs M_signMany M_column M_loads M_many M_sums M_groups M_at M_told M_toldMany)) [0, 1, 2, 3, 4, 5, 6, 7, 8, 9, 10, 11] (by decide) rfl
      exact W.lret (v := 0) hx hb hr (fun t ht hW => ⟨⟨0, (), rfl, rfl, by rw [ht]; exact hP9, va_K.moved hW.alike hK, hD9⟩, hS.F ht⟩) hS.2.2 dX11_meanPositiveBits_30
theorem lk_X11_isConsistent_RX11_7 : Cond.fieldLink RX11 7 "CircusLedgerModel" "g" "[I" ∈ wsX11_isConsistent := by decide +kernel
theorem lk_X11_isConsistent_RX11_51 : Cond.fieldLink RX11 51 "CircusLedgerModel" "code" "I" ∈ wsX11_isConsistent := by decide +kernel
theorem in_X11_isConsistent_X11 : ∀ w ∈ u_ws RX11 TX11 22, w ∈ wsX11_isConsistent := by decide +kernel
def f_X11_isConsistent_L9 (M_g : Nat → Int32) : Nat → Int32 → Int32 → Int32 → Option (Int32 × Int32)
  | 0, _, _, _ => none
  | nn + 1, x1, x2, M_code =>
    if (11 : Int32) ≤ x2 then
      (if x1 = 0 then
        (some (1, M_code))
      else
        (some (0, M_code)))
    else
      (gin (36 + x2) 238 (f_X11_isConsistent_L9 M_g nn (x1 + (M_g (36 + x2).toNatClampNeg)) (x2 + 1) M_code))
def f_X11_isConsistent (M_g : Nat → Int32) (M_code : Int32) : Option (Int32 × Int32) :=
  f_X11_isConsistent_L9 M_g FU 0 0 0
set_option maxHeartbeats 4000000 in
set_option maxRecDepth 100000 in
theorem wl_X11_isConsistent_L9 {p : Program} {l : Launch} {e : Env} {s : State} {m : MethodId} {args : Array Value} {below : List Frame} {meth : Method} {c : Code} {dC : Nat → ClassId} {dI : Nat → Nat → Nat} {Y : Nat → ClassId} {a : Nat → Nat} {M_g : Nat → Int32} {M_kept : Nat → Int32} {M_saved : Nat → Int32} {M_before : Nat → Int32} {M_isSaved : Int32} {M_changes : Int32} {M_isWithin : Int32} {M_input : Nat → Int32} {M_length : Int32} {M_fault : Int32} {M_failed : Int32} {M_signs : Nat → Int32} {M_signMany : Int32} {M_column : Nat → Int32} {M_loads : Nat → Int32} {M_many : Int32} {M_sums : Nat → Int32} {M_groups : Nat → Int32} {M_at : Int32} {M_told : Nat → Int32} {M_toldMany : Int32}  {r : Int32} {zM_code : Int32}  (C0 : wk_C p s m args meth c cX11_isConsistent 3 (some .boolean) wsX11_isConsistent RX11) {A : Nat → Prop} (hK : va_K (dC, dI) vwCl (vTy Y) s) (hA : ∀ q, s.heap.size ≤ q → A q) : ∀ (nn : Nat) (x1 : Int32) (x2 : Int32)  (M_code : Int32), f_X11_isConsistent_L9 M_g nn x1 x2 M_code = some (r, zM_code) → ∀ (H : Heap) (locs : List Loc), va_P (dC, dI) vwCl (wX11 Y a M_g M_kept M_saved M_before M_isSaved M_changes M_isWithin M_code M_input M_length M_fault M_failed M_signs M_signMany M_column M_loads M_many M_sums M_groups M_at M_told M_toldMany) H → va_D A (wX11 Y a M_g M_kept M_saved M_before M_isSaved M_changes M_isWithin M_code M_input M_length M_fault M_failed M_signs M_signMany M_column M_loads M_many M_sums M_groups M_at M_told M_toldMany) → va_S A s.heap H locs → ∀ (ls : Array Slot), lv_has ls 3 [(0, .ref (a 0)), (1, .int x1), (2, .int x2)] → W p l e (headSpec wsX11_isConsistent ({ frames := 0, cells := 0, slots := 0, locals := 0 } : Room)).room s m args below meth c H locs 0 0 (MQ below (va_Qi (fun r2 (_ : Unit) => r2 = r) (fun _ t => wk_X (dC, dI) Y (wX11 Y a M_g M_kept M_saved M_before M_isSaved M_changes M_isWithin zM_code M_input M_length M_fault M_failed M_signs M_signMany M_column M_loads M_many M_sums M_groups M_at M_told M_toldMany) A t) A) args s 0 0 A) (F0 m 9 ls []) := by
  have C0 := C0
  obtain ⟨hx, hb, hml, hr, hlocks, hown, hts⟩ := id C0
  intro nn
  induction nn with
  | zero =>
    intro x1 x2 M_code hf
    rw [f_X11_isConsistent_L9] at hf
    cases hf
  | succ nn ih =>
    intro x1 x2 M_code hf H locs hP hD hS ls hl
    rw [f_X11_isConsistent_L9] at hf
    have hP : va_P (dC, dI) vwCl [(a 0, .inr (11, [.ref (a 1), .ref (a 2), .ref (a 3), .ref (a 4), .int M_isSaved, .int M_changes, .int M_isWithin, .int M_code, .ref (a 5), .int M_length, .int M_fault, .int M_failed, .ref (a 6), .int M_signMany, .ref (a 7), .ref (a 8), .int M_many, .ref (a 9), .ref (a 10), .int M_at, .ref (a 11), .int M_toldMany])), (a 1, .inl (Y 0, 238, .inl M_g)), (a 2, .inl (Y 0, 1904, .inl M_kept)), (a 3, .inl (Y 0, 238, .inl M_saved)), (a 4, .inl (Y 0, 238, .inl M_before)), (a 5, .inl (Y 0, 60, .inl M_input)), (a 6, .inl (Y 2, 100, .inl M_signs)), (a 7, .inl (Y 0, 6, .inl M_column)), (a 8, .inl (Y 0, 6, .inl M_loads)), (a 9, .inl (Y 0, 2048, .inl M_sums)), (a 10, .inl (Y 0, 2048, .inl M_groups)), (a 11, .inl (Y 0, 155, .inl M_told))] H := hP
    have hD : va_D A [(a 0, .inr (11, [.ref (a 1), .ref (a 2), .ref (a 3), .ref (a 4), .int M_isSaved, .int M_changes, .int M_isWithin, .int M_code, .ref (a 5), .int M_length, .int M_fault, .int M_failed, .ref (a 6), .int M_signMany, .ref (a 7), .ref (a 8), .int M_many, .ref (a 9), .ref (a 10), .int M_at, .ref (a 11), .int M_toldMany])), (a 1, .inl (Y 0, 238, .inl M_g)), (a 2, .inl (Y 0, 1904, .inl M_kept)), (a 3, .inl (Y 0, 238, .inl M_saved)), (a 4, .inl (Y 0, 238, .inl M_before)), (a 5, .inl (Y 0, 60, .inl M_input)), (a 6, .inl (Y 2, 100, .inl M_signs)), (a 7, .inl (Y 0, 6, .inl M_column)), (a 8, .inl (Y 0, 6, .inl M_loads)), (a 9, .inl (Y 0, 2048, .inl M_sums)), (a 10, .inl (Y 0, 2048, .inl M_groups)), (a 11, .inl (Y 0, 155, .inl M_told))] := hD
    refine lv_iload_n hx hb dX11_isConsistent_9 rfl (lv_at hl 2 rfl) ?_
    refine lv_bipush (v := 11) hx hb dX11_isConsistent_10 (by decide) ?_
    refine lv_icmp_ge (tgt := 33) hx hb dX11_isConsistent_12 (by decide) (fun q1 => ?_) (fun q1 => ?_)
    · have hf := wk_t hf q1
      refine lv_iload_n hx hb dX11_isConsistent_33 rfl (lv_at hl 1 rfl) ?_
      refine lv_if_ne (tgt := 41) hx hb dX11_isConsistent_34 (by decide) (fun q2 => ?_) (fun q2 => ?_)
      · have hf := wk_f hf q2
        refine lv_iconst (v := 0) hx hb dX11_isConsistent_41 (by decide) ?_
        obtain ⟨e0, e1⟩ := wke2 hf
        subst e0
        subst e1
        have hP9 := hP.sub (ws' := (wX11 Y a M_g M_kept M_saved M_before M_isSaved M_changes M_isWithin M_code M_input M_length M_fault M_failed M_signs M_signMany M_column M_loads M_many M_sums M_groups M_at M_told M_toldMany)) [0, 1, 2, 3, 4, 5, 6, 7, 8, 9, 10, 11] rfl
        have hD9 := hD.sub (ws' := (wX11 Y a M_g M_kept M_saved M_before M_isSaved M_changes M_isWithin M_code M_input M_length M_fault M_failed M_signs M_signMany M_column M_loads M_many M_sums M_groups M_at M_told M_toldMany)) [0, 1, 2, 3, 4, 5, 6, 7, 8, 9, 10, 11] (by decide) rfl
        exact W.zret (v := 0) (ty := .boolean) hx hb hr rfl (fun t ht hW => ⟨⟨0, (), rfl, rfl, by rw [ht]; exact hP9, va_K.moved hW.alike hK, hD9⟩, hS.F ht⟩) hS.2.2 dX11_isConsistent_42
      · have hf := wk_t hf q2
        refine lv_iconst (v := 1) hx hb dX11_isConsistent_37 (by decide) ?_
        refine lv_goto (tgt := 42) hx hb dX11_isConsistent_38 (by decide) ?_
        obtain ⟨e0, e1⟩ := wke2 hf
        subst e0
        subst e1
        have hP9 := hP.sub (ws' := (wX11 Y a M_g M_kept M_saved M_before M_isSaved M_changes M_isWithin M_code M_input M_length M_fault M_failed M_signs M_signMany M_column M_loads M_many M_sums M_groups M_at M_told M_toldMany)) [0, 1, 2, 3, 4, 5, 6, 7, 8, 9, 10, 11] rfl
        have hD9 := hD.sub (ws' := (wX11 Y a M_g M_kept M_saved M_before M_isSaved M_changes M_isWithin M_code M_input M_length M_fault M_failed M_signs M_signMany M_column M_loads M_many M_sums M_groups M_at M_told M_toldMany)) [0, 1, 2, 3, 4, 5, 6, 7, 8, 9, 10, 11] (by decide) rfl
        exact W.zret (v := 1) (ty := .boolean) hx hb hr rfl (fun t ht hW => ⟨⟨1, (), rfl, rfl, by rw [ht]; exact hP9, va_K.moved hW.alike hK, hD9⟩, hS.F ht⟩) hS.2.2 dX11_isConsistent_42
    · have hf := wk_f hf q1
      refine lv_iload_n hx hb dX11_isConsistent_15 rfl (lv_at hl 1 rfl) ?_
      refine lv_aload_n hx hb dX11_isConsistent_16 rfl (lv_at hl 0 rfl) ?_
      refine va_get (D := (dC, dI)) (ci := 11) (v := .ref (a 1)) (C := RX11) (T := TX11) (N := 22) hx hb hts in_X11_isConsistent_X11 hown hK hP 0 rfl rfl 0 (by decide) (hts _ lk_X11_isConsistent_RX11_7) (fun _ h9 => h9) rfl dX11_isConsistent_17 ?_
      refine lv_bipush (v := 36) hx hb dX11_isConsistent_20 (by decide) ?_
      refine lv_iload_n hx hb dX11_isConsistent_22 rfl (lv_at hl 2 rfl) ?_
      refine lv_iadd hx hb dX11_isConsistent_23 ?_
      obtain ⟨h3, hf⟩ := gin_s hf
      refine wk_iald hx hb hK hP 1 0 rfl rfl h3 rfl dX11_isConsistent_24 ?_
      refine lv_iadd hx hb dX11_isConsistent_25 ?_
      refine lv_istore_n (lv' := [(1, .int (x1 + (M_g (36 + x2).toNatClampNeg))), (0, .ref (a 0)), (2, .int x2)]) hx hb dX11_isConsistent_26 rfl hl (by decide) rfl (fun ls hl => ?_)
      refine lv_iinc (v := (x2 + 1)) (lv' := [(2, .int (x2 + 1)), (1, .int (x1 + (M_g (36 + x2).toNatClampNeg))), (0, .ref (a 0))]) hx hb dX11_isConsistent_27 hl (k := 2) rfl rfl (by decide) rfl (fun ls hl => ?_)
      refine lv_goto (tgt := 9) hx hb dX11_isConsistent_30 (by decide) ?_
      exact ih (x1 + (M_g (36 + x2).toNatClampNeg)) (x2 + 1) M_code hf H locs hP hD hS ls (lv_sub hl [2, 1, 0] rfl)
set_option maxHeartbeats 4000000 in
set_option maxRecDepth 100000 in
theorem c_X11_isConsistent (l : Launch) (dC : Nat → ClassId) (dI : Nat → Nat → Nat) (Y : Nat → ClassId) (a : Nat → Nat) (M_g : Nat → Int32) (M_kept : Nat → Int32) (M_saved : Nat → Int32) (M_before : Nat → Int32) (M_isSaved : Int32) (M_changes : Int32) (M_isWithin : Int32) (M_code : Int32) (M_input : Nat → Int32) (M_length : Int32) (M_fault : Int32) (M_failed : Int32) (M_signs : Nat → Int32) (M_signMany : Int32) (M_column : Nat → Int32) (M_loads : Nat → Int32) (M_many : Int32) (M_sums : Nat → Int32) (M_groups : Nat → Int32) (M_at : Int32) (M_told : Nat → Int32) (M_toldMany : Int32)  (sz : Nat) (r : Int32) (zM_code : Int32) (hf : f_X11_isConsistent M_g M_code = some (r, zM_code)) : Met l yX11_isConsistent wsX11_isConsistent ({ frames := 0, cells := 0, slots := 0, locals := 0 } : Room) (va_Pc [.ref (a 0)] (wk_E (dC, dI) Y (wX11 Y a M_g M_kept M_saved M_before M_isSaved M_changes M_isWithin M_code M_input M_length M_fault M_failed M_signs M_signMany M_column M_loads M_many M_sums M_groups M_at M_told M_toldMany) sz)) (va_Qi (fun r2 (_ : Unit) => r2 = r) (fun _ t => wk_X (dC, dI) Y (wX11 Y a M_g M_kept M_saved M_before M_isSaved M_changes M_isWithin zM_code M_input M_length M_fault M_failed M_signs M_signMany M_column M_loads M_many M_sums M_groups M_at M_told M_toldMany) (va_A (wX11 Y a M_g M_kept M_saved M_before M_isSaved M_changes M_isWithin M_code M_input M_length M_fault M_failed M_signs M_signMany M_column M_loads M_many M_sums M_groups M_at M_told M_toldMany) sz) t) (va_A (wX11 Y a M_g M_kept M_saved M_before M_isSaved M_changes M_isWithin M_code M_input M_length M_fault M_failed M_signs M_signMany M_column M_loads M_many M_sums M_groups M_at M_told M_toldMany) sz)) 0 0 (va_A (wX11 Y a M_g M_kept M_saved M_before M_isSaved M_changes M_isWithin M_code M_input M_length M_fault M_failed M_signs M_signMany M_column M_loads M_many M_sums M_groups M_at M_told M_toldMany) sz) := by
  refine Met.ofW (cc := cX11_isConsistent) (maxL := 3) (ret := (some .boolean)) (by decide) rfl ?_
  intro p e s m args below meth c s₁ B hml hv
  obtain ⟨rfl, hsz, hP, hK, hD0⟩ := hv
  have hx := B.exec
  have hb := B.bytes
  have hr := B.returns
  have hts := atoms_spec (ws := wsX11_isConsistent) B.pre
  have hown : s.vm.findClass RX11 = some m.cls := findClass_of_methodNamed B.named
  have hlocks := B.notSynchronized
  have C0 : wk_C p s m _ meth c cX11_isConsistent 3 (some .boolean) wsX11_isConsistent RX11 := ⟨hx, hb, hml, hr, hlocks, hown, hts⟩
  subst hsz
  have hD := hD0.self (sz := s.heap.size)
  generalize hAe : va_A (wX11 Y a M_g M_kept M_saved M_before M_isSaved M_changes M_isWithin M_code M_input M_length M_fault M_failed M_signs M_signMany M_column M_loads M_many M_sums M_groups M_at M_told M_toldMany) s.heap.size = A at hD ⊢
  have hA : ∀ q : Nat, s.heap.size ≤ q → A q := fun q h => by rw [← hAe]; exact Or.inr h
  have hS : va_S A s.heap s.heap [] := va_S.rf
  obtain ⟨H, hHe⟩ : ∃ H, H = s.heap := ⟨_, rfl⟩
  have hS : va_S A s.heap H [] := by rw [hHe]; exact hS
  have hP : va_P (dC, dI) vwCl [(a 0, .inr (11, [.ref (a 1), .ref (a 2), .ref (a 3), .ref (a 4), .int M_isSaved, .int M_changes, .int M_isWithin, .int M_code, .ref (a 5), .int M_length, .int M_fault, .int M_failed, .ref (a 6), .int M_signMany, .ref (a 7), .ref (a 8), .int M_many, .ref (a 9), .ref (a 10), .int M_at, .ref (a 11), .int M_toldMany])), (a 1, .inl (Y 0, 238, .inl M_g)), (a 2, .inl (Y 0, 1904, .inl M_kept)), (a 3, .inl (Y 0, 238, .inl M_saved)), (a 4, .inl (Y 0, 238, .inl M_before)), (a 5, .inl (Y 0, 60, .inl M_input)), (a 6, .inl (Y 2, 100, .inl M_signs)), (a 7, .inl (Y 0, 6, .inl M_column)), (a 8, .inl (Y 0, 6, .inl M_loads)), (a 9, .inl (Y 0, 2048, .inl M_sums)), (a 10, .inl (Y 0, 2048, .inl M_groups)), (a 11, .inl (Y 0, 155, .inl M_told))] H := by rw [hHe]; exact hP
  have hD : va_D A [(a 0, .inr (11, [.ref (a 1), .ref (a 2), .ref (a 3), .ref (a 4), .int M_isSaved, .int M_changes, .int M_isWithin, .int M_code, .ref (a 5), .int M_length, .int M_fault, .int M_failed, .ref (a 6), .int M_signMany, .ref (a 7), .ref (a 8), .int M_many, .ref (a 9), .ref (a 10), .int M_at, .ref (a 11), .int M_toldMany])), (a 1, .inl (Y 0, 238, .inl M_g)), (a 2, .inl (Y 0, 1904, .inl M_kept)), (a 3, .inl (Y 0, 238, .inl M_saved)), (a 4, .inl (Y 0, 238, .inl M_before)), (a 5, .inl (Y 0, 60, .inl M_input)), (a 6, .inl (Y 2, 100, .inl M_signs)), (a 7, .inl (Y 0, 6, .inl M_column)), (a 8, .inl (Y 0, 6, .inl M_loads)), (a 9, .inl (Y 0, 2048, .inl M_sums)), (a 10, .inl (Y 0, 2048, .inl M_groups)), (a 11, .inl (Y 0, 155, .inl M_told))] := hD
  obtain ⟨locs, hlo⟩ : ∃ locs : List Loc, locs = [] := ⟨_, rfl⟩
  have hS : va_S A s.heap H locs := by rw [hlo]; exact hS
  have hl := lv_entry ([.ref (a 0)]) (n := 3) (Nat.le_of_ble_eq_true rfl)
  rw [lg_entry_eq]
  generalize (lg_sl ([.ref (a 0)]) ++ List.replicate (3 - (lg_sl ([.ref (a 0)])).length) Slot.unset).toArray = ls at hl ⊢
  have hl : lv_has ls 3 [(0, .ref (a 0))] := hl
  refine wk_start hHe hlo ?_
  rw [f_X11_isConsistent] at hf
  refine lv_aload_n hx hb dX11_isConsistent_0 rfl (lv_at hl 0 rfl) ?_
  refine lv_iconst (v := 0) hx hb dX11_isConsistent_1 (by decide) ?_
  refine va_put (D := (dC, dI)) (ci := 11) (v := .int 0) (ty := .int) (C := RX11) (T := TX11) (N := 22) hx hb hts in_X11_isConsistent_X11 tyX11 tyX11_ok nmX11 hown hK hP hD hS 0 rfl rfl 7 (by decide) (hts _ lk_X11_isConsistent_RX11_51) (fun _ h9 => h9) rfl (by decide +kernel) rfl rfl (Nat.le_of_ble_eq_true rfl) dX11_isConsistent_2 (fun H locs hP hD hS => ?_)
  have hP : va_P (dC, dI) vwCl [(a 0, .inr (11, [.ref (a 1), .ref (a 2), .ref (a 3), .ref (a 4), .int M_isSaved, .int M_changes, .int M_isWithin, .int 0, .ref (a 5), .int M_length, .int M_fault, .int M_failed, .ref (a 6), .int M_signMany, .ref (a 7), .ref (a 8), .int M_many, .ref (a 9), .ref (a 10), .int M_at, .ref (a 11), .int M_toldMany])), (a 1, .inl (Y 0, 238, .inl M_g)), (a 2, .inl (Y 0, 1904, .inl M_kept)), (a 3, .inl (Y 0, 238, .inl M_saved)), (a 4, .inl (Y 0, 238, .inl M_before)), (a 5, .inl (Y 0, 60, .inl M_input)), (a 6, .inl (Y 2, 100, .inl M_signs)), (a 7, .inl (Y 0, 6, .inl M_column)), (a 8, .inl (Y 0, 6, .inl M_loads)), (a 9, .inl (Y 0, 2048, .inl M_sums)), (a 10, .inl (Y 0, 2048, .inl M_groups)), (a 11, .inl (Y 0, 155, .inl M_told))] H := hP
  have hD : va_D A [(a 0, .inr (11, [.ref (a 1), .ref (a 2), .ref (a 3), .ref (a 4), .int M_isSaved, .int M_changes, .int M_isWithin, .int 0, .ref (a 5), .int M_length, .int M_fault, .int M_failed, .ref (a 6), .int M_signMany, .ref (a 7), .ref (a 8), .int M_many, .ref (a 9), .ref (a 10), .int M_at, .ref (a 11), .int M_toldMany])), (a 1, .inl (Y 0, 238, .inl M_g)), (a 2, .inl (Y 0, 1904, .inl M_kept)), (a 3, .inl (Y 0, 238, .inl M_saved)), (a 4, .inl (Y 0, 238, .inl M_before)), (a 5, .inl (Y 0, 60, .inl M_input)), (a 6, .inl (Y 2, 100, .inl M_signs)), (a 7, .inl (Y 0, 6, .inl M_column)), (a 8, .inl (Y 0, 6, .inl M_loads)), (a 9, .inl (Y 0, 2048, .inl M_sums)), (a 10, .inl (Y 0, 2048, .inl M_groups)), (a 11, .inl (Y 0, 155, .inl M_told))] := hD
  refine lv_iconst (v := 0) hx hb dX11_isConsistent_5 (by decide) ?_
  refine lv_istore_n (lv' := [(1, .int 0), (0, .ref (a 0))]) hx hb dX11_isConsistent_6 rfl hl (by decide) rfl (fun ls hl => ?_)
  refine lv_iconst (v := 0) hx hb dX11_isConsistent_7 (by decide) ?_
  refine lv_istore_n (lv' := [(2, .int 0), (1, .int 0), (0, .ref (a 0))]) hx hb dX11_isConsistent_8 rfl hl (by decide) rfl (fun ls hl => ?_)
  exact wl_X11_isConsistent_L9 C0 hK hA FU 0 0 0 hf H locs hP hD hS ls (lv_sub hl [2, 1, 0] rfl)
