theorem lk_X9_init_RX9_9 : Cond.fieldLink RX9 9 "CircusLedger$Troupe" "weights" "[I" ∈ wsX9_init := by decide +kernel
theorem lk_X9_init_RX9_15 : Cond.fieldLink RX9 15 "CircusLedger$Troupe" "strengths" "[I" ∈ wsX9_init := by decide +kernel
theorem lk_X9_init_RX9_18 : Cond.fieldLink RX9 18 "CircusLedger$Troupe" "heights" "[I" ∈ wsX9_init := by decide +kernel
theorem lk_X9_init_RX9_21 : Cond.fieldLink RX9 21 "CircusLedger$Troupe" "wages" "[I" ∈ wsX9_init := by decide +kernel
theorem lk_X9_init_RX9_24 : Cond.fieldLink RX9 24 "CircusLedger$Troupe" "nightsToHeal" "[I" ∈ wsX9_init := by decide +kernel
theorem in_X9_init_X9 : ∀ w ∈ u_ws RX9 TX9 6, w ∈ wsX9_init := by decide +kernel
theorem oi_X9_init : Cond.methodLink RX9 3 objectInit ∈ wsX9_init ∧ Cond.instanceMethod objectInit ∈ wsX9_init ∧ Cond.code objectInit ⟨#[0xb1]⟩ 1 none ∈ wsX9_init := ⟨by decide +kernel, by decide +kernel, by decide +kernel⟩
theorem nr_X9_init_int : Cond.arrayClass .int ∈ wsX9_init := by decide +kernel
set_option maxHeartbeats 4000000 in
set_option maxRecDepth 100000 in
theorem c_X9_init (l : Launch) (dC : Nat → ClassId) (dI : Nat → Nat → Nat) (Y : Nat → ClassId) (b0 : Nat) (sz : Nat) : Met l yX9_init wsX9_init ({ frames := 1, cells := 5, slots := 30, locals := 40 } : Room) (va_Pc [.ref b0] (wk_E (dC, dI) Y [(b0, .inr (9, [.int 0, .null, .null, .null, .null, .null]))] sz)) (va_Qv (fun (u : Nat → Nat) => u 0 = b0) (fun u t => wk_X (dC, dI) Y (wX9 Y u 0 (fun _ => 0) (fun _ => 0) (fun _ => 0) (fun _ => 0) (fun _ => 0)) (va_A [(b0, .inr (9, [.int 0, .null, .null, .null, .null, .null]))] sz) t) (va_A [(b0, .inr (9, [.int 0, .null, .null, .null, .null, .null]))] sz)) 5 30 (va_A [(b0, .inr (9, [.int 0, .null, .null, .null, .null, .null]))] sz) := by
  refine Met.ofW (cc := cX9_init) (maxL := 1) (ret := none) (by decide) rfl ?_
  intro p e s m args below meth c s₁ B hml hv
  obtain ⟨rfl, hsz, hP, hK, hD0⟩ := hv
  have hx := B.exec
  have hb := B.bytes
  have hr := B.returns
  have hts := atoms_spec (ws := wsX9_init) B.pre
  have hown : s.vm.findClass RX9 = some m.cls := findClass_of_methodNamed B.named
  have hlocks := B.notSynchronized
  have hin : meth.name = "<init>" := (name_of_methodNamed B.named B.method).1
  subst hsz
  have hD := hD0.self (sz := s.heap.size)
  generalize hAe : va_A [(b0, .inr (9, [.int 0, .null, .null, .null, .null, .null]))] s.heap.size = A at hD ⊢
  have hA : ∀ q : Nat, s.heap.size ≤ q → A q := fun q h => by rw [← hAe]; exact Or.inr h
  have hS : va_S A s.heap s.heap [] := va_S.rf
  obtain ⟨H, hHe⟩ : ∃ H, H = s.heap := ⟨_, rfl⟩
  have hS : va_S A s.heap H [] := by rw [hHe]; exact hS
  have hP : va_P (dC, dI) vwCl [(b0, .inr (9, [.int 0, .null, .null, .null, .null, .null]))] H := by rw [hHe]; exact hP
  obtain ⟨locs, hlo⟩ : ∃ locs : List Loc, locs = [] := ⟨_, rfl⟩
  have hS : va_S A s.heap H locs := by rw [hlo]; exact hS
  have hl := lv_entry ([.ref b0]) (n := 1) (Nat.le_of_ble_eq_true rfl)
  rw [lg_entry_eq]
  generalize (lg_sl ([.ref b0]) ++ List.replicate (1 - (lg_sl ([.ref b0])).length) Slot.unset).toArray = ls at hl ⊢
  have hl : lv_has ls 1 [(0, .ref b0)] := hl
  refine wk_start hHe hlo ?_
  refine lv_aload_n hx hb dX9_init_0 rfl (lv_at hl 0 rfl) ?_
  refine W.objInit hx hb hown (hts _ oi_X9_init.1) (hts _ oi_X9_init.2.1) (hts _ oi_X9_init.2.2) rfl (by rw [hml]; exact hl.1) rfl dX9_init_1 (Nat.le_of_ble_eq_true rfl) (Nat.le_of_ble_eq_true rfl) ?_
  refine W.eq (g2 := F0 m 4 ls []) rfl ?_
  refine lv_aload_n hx hb dX9_init_4 rfl (lv_at hl 0 rfl) ?_
  refine lv_bipush (v := 6) hx hb dX9_init_5 (by decide) ?_
  refine wk_newi (N := 6) hx hb (hts _ nr_X9_init_int) hK hP hD hS hA (by decide) (by decide) (Nat.le_of_ble_eq_true rfl) (Nat.le_of_ble_eq_true rfl) (Nat.le_of_ble_eq_true rfl) dX9_init_7 (fun n1 H hP hD hS => ?_)
  have hP : va_P (dC, dI) vwCl [(b0, .inr (9, [.int 0, .null, .null, .null, .null, .null])), (n1, .inl (Y 0, 6, .inl (fun _ => 0)))] H := hP
  have hD : va_D A [(b0, .inr (9, [.int 0, .null, .null, .null, .null, .null])), (n1, .inl (Y 0, 6, .inl (fun _ => 0)))] := hD
  refine va_putF (D := (dC, dI)) (ci := 9) (v := .ref n1) (ty := .array .int) (C := RX9) (T := TX9) (N := 6) hx hb hts in_X9_init_X9 tyX9 tyX9_ok nmX9 hown hK hP hD hS 0 rfl rfl 1 (by decide) (hts _ lk_X9_init_RX9_9) (fun _ h9 => h9) rfl hin rfl (by decide +kernel) rfl rfl (Nat.le_of_ble_eq_true rfl) dX9_init_9 (fun H locs hP hD hS => ?_)
  have hP : va_P (dC, dI) vwCl [(b0, .inr (9, [.int 0, .ref n1, .null, .null, .null, .null])), (n1, .inl (Y 0, 6, .inl (fun _ => 0)))] H := hP
  have hD : va_D A [(b0, .inr (9, [.int 0, .ref n1, .null, .null, .null, .null])), (n1, .inl (Y 0, 6, .inl (fun _ => 0)))] := hD
  refine lv_aload_n hx hb dX9_init_12 rfl (lv_at hl 0 rfl) ?_
  refine lv_bipush (v := 6) hx hb dX9_init_13 (by decide) ?_
  refine wk_newi (N := 6) hx hb (hts _ nr_X9_init_int) hK hP hD hS hA (by decide) (by decide) (Nat.le_of_ble_eq_true rfl) (Nat.le_of_ble_eq_true rfl) (Nat.le_of_ble_eq_true rfl) dX9_init_15 (fun n2 H hP hD hS => ?_)
  have hP : va_P (dC, dI) vwCl [(b0, .inr (9, [.int 0, .ref n1, .null, .null, .null, .null])), (n1, .inl (Y 0, 6, .inl (fun _ => 0))), (n2, .inl (Y 0, 6, .inl (fun _ => 0)))] H := hP
  have hD : va_D A [(b0, .inr (9, [.int 0, .ref n1, .null, .null, .null, .null])), (n1, .inl (Y 0, 6, .inl (fun _ => 0))), (n2, .inl (Y 0, 6, .inl (fun _ => 0)))] := hD
  refine va_putF (D := (dC, dI)) (ci := 9) (v := .ref n2) (ty := .array .int) (C := RX9) (T := TX9) (N := 6) hx hb hts in_X9_init_X9 tyX9 tyX9_ok nmX9 hown hK hP hD hS 0 rfl rfl 2 (by decide) (hts _ lk_X9_init_RX9_15) (fun _ h9 => h9) rfl hin rfl (by decide +kernel) rfl rfl (Nat.le_of_ble_eq_true rfl) dX9_init_17 (fun H locs hP hD hS => ?_)
  have hP : va_P (dC, dI) vwCl [(b0, .inr (9, [.int 0, .ref n1, .ref n2, .null, .null, .null])), (n1, .inl (Y 0, 6, .inl (fun _ => 0))), (n2, .inl (Y 0, 6, .inl (fun _ => 0)))] H := hP
  have hD : va_D A [(b0, .inr (9, [.int 0, .ref n1, .ref n2, .null, .null, .null])), (n1, .inl (Y 0, 6, .inl (fun _ => 0))), (n2, .inl (Y 0, 6, .inl (fun _ => 0)))] := hD
  refine lv_aload_n hx hb dX9_init_20 rfl (lv_at hl 0 rfl) ?_
  refine lv_bipush (v := 6) hx hb dX9_init_21 (by decide) ?_
  refine wk_newi (N := 6) hx hb (hts _ nr_X9_init_int) hK hP hD hS hA (by decide) (by decide) (Nat.le_of_ble_eq_true rfl) (Nat.le_of_ble_eq_true rfl) (Nat.le_of_ble_eq_true rfl) dX9_init_23 (fun n3 H hP hD hS => ?_)
  have hP : va_P (dC, dI) vwCl [(b0, .inr (9, [.int 0, .ref n1, .ref n2, .null, .null, .null])), (n1, .inl (Y 0, 6, .inl (fun _ => 0))), (n2, .inl (Y 0, 6, .inl (fun _ => 0))), (n3, .inl (Y 0, 6, .inl (fun _ => 0)))] H := hP
  have hD : va_D A [(b0, .inr (9, [.int 0, .ref n1, .ref n2, .null, .null, .null])), (n1, .inl (Y 0, 6, .inl (fun _ => 0))), (n2, .inl (Y 0, 6, .inl (fun _ => 0))), (n3, .inl (Y 0, 6, .inl (fun _ => 0)))] := hD
  refine va_putF (D := (dC, dI)) (ci := 9) (v := .ref n3) (ty := .array .int) (C := RX9) (T := TX9) (N := 6) hx hb hts in_X9_init_X9 tyX9 tyX9_ok nmX9 hown hK hP hD hS 0 rfl rfl 3 (by decide) (hts _ lk_X9_init_RX9_18) (fun _ h9 => h9) rfl hin rfl (by decide +kernel) rfl rfl (Nat.le_of_ble_eq_true rfl) dX9_init_25 (fun H locs hP hD hS => ?_)
  have hP : va_P (dC, dI) vwCl [(b0, .inr (9, [.int 0, .ref n1, .ref n2, .ref n3, .null, .null])), (n1, .inl (Y 0, 6, .inl (fun _ => 0))), (n2, .inl (Y 0, 6, .inl (fun _ => 0))), (n3, .inl (Y 0, 6, .inl (fun _ => 0)))] H := hP
  have hD : va_D A [(b0, .inr (9, [.int 0, .ref n1, .ref n2, .ref n3, .null, .null])), (n1, .inl (Y 0, 6, .inl (fun _ => 0))), (n2, .inl (Y 0, 6, .inl (fun _ => 0))), (n3, .inl (Y 0, 6, .inl (fun _ => 0)))] := hD
  refine lv_aload_n hx hb dX9_init_28 rfl (lv_at hl 0 rfl) ?_
  refine lv_bipush (v := 6) hx hb dX9_init_29 (by decide) ?_
  refine wk_newi (N := 6) hx hb (hts _ nr_X9_init_int) hK hP hD hS hA (by decide) (by decide) (Nat.le_of_ble_eq_true rfl) (Nat.le_of_ble_eq_true rfl) (Nat.le_of_ble_eq_true rfl) dX9_init_31 (fun n4 H hP hD hS => ?_)
  have hP : va_P (dC, dI) vwCl [(b0, .inr (9, [.int 0, .ref n1, .ref n2, .ref n3, .null, .null])), (n1, .inl (Y 0, 6, .inl (fun _ => 0))), (n2, .inl (Y 0, 6, .inl (fun _ => 0))), (n3, .inl (Y 0, 6, .inl (fun _ => 0))), (n4, .inl (Y 0, 6, .inl (fun _ => 0)))] H := hP
  have hD : va_D A [(b0, .inr (9, [.int 0, .ref n1, .ref n2, .ref n3, .null, .null])), (n1, .inl (Y 0, 6, .inl (fun _ => 0))), (n2, .inl (Y 0, 6, .inl (fun _ => 0))), (n3, .inl (Y 0, 6, .inl (fun _ => 0))), (n4, .inl (Y 0, 6, .inl (fun _ => 0)))] := hD
  refine va_putF (D := (dC, dI)) (ci := 9) (v := .ref n4) (ty := .array .int) (C := RX9) (T := TX9) (N := 6) hx hb hts in_X9_init_X9 tyX9 tyX9_ok nmX9 hown hK hP hD hS 0 rfl rfl 4 (by decide) (hts _ lk_X9_init_RX9_21) (fun _ h9 => h9) rfl hin rfl (by decide +kernel) rfl rfl (Nat.le_of_ble_eq_true rfl) dX9_init_33 (fun H locs hP hD hS => ?_)
  have hP : va_P (dC, dI) vwCl [(b0, .inr (9, [.int 0, .ref n1, .ref n2, .ref n3, .ref n4, .null])), (n1, .inl (Y 0, 6, .inl (fun _ => 0))), (n2, .inl (Y 0, 6, .inl (fun _ => 0))), (n3, .inl (Y 0, 6, .inl (fun _ => 0))), (n4, .inl (Y 0, 6, .inl (fun _ => 0)))] H := hP
  have hD : va_D A [(b0, .inr (9, [.int 0, .ref n1, .ref n2, .ref n3, .ref n4, .null])), (n1, .inl (Y 0, 6, .inl (fun _ => 0))), (n2, .inl (Y 0, 6, .inl (fun _ => 0))), (n3, .inl (Y 0, 6, .inl (fun _ => 0))), (n4, .inl (Y 0, 6, .inl (fun _ => 0)))] := hD
  refine lv_aload_n hx hb dX9_init_36 rfl (lv_at hl 0 rfl) ?_
  refine lv_bipush (v := 6) hx hb dX9_init_37 (by decide) ?_
  refine wk_newi (N := 6) hx hb (hts _ nr_X9_init_int) hK hP hD hS hA (by decide) (by decide) (Nat.le_of_ble_eq_true rfl) (Nat.le_of_ble_eq_true rfl) (Nat.le_of_ble_eq_true rfl) dX9_init_39 (fun n5 H hP hD hS => ?_)
  have hP : va_P (dC, dI) vwCl [(b0, .inr (9, [.int 0, .ref n1, .ref n2, .ref n3, .ref n4, .null])), (n1, .inl (Y 0, 6, .inl (fun _ => 0))), (n2, .inl (Y 0, 6, .inl (fun _ => 0))), (n3, .inl (Y 0, 6, .inl (fun _ => 0))), (n4, .inl (Y 0, 6, .inl (fun _ => 0))), (n5, .inl (Y 0, 6, .inl (fun _ => 0)))] H := hP
  have hD : va_D A [(b0, .inr (9, [.int 0, .ref n1, .ref n2, .ref n3, .ref n4, .null])), (n1, .inl (Y 0, 6, .inl (fun _ => 0))), (n2, .inl (Y 0, 6, .inl (fun _ => 0))), (n3, .inl (Y 0, 6, .inl (fun _ => 0))), (n4, .inl (Y 0, 6, .inl (fun _ => 0))), (n5, .inl (Y 0, 6, .inl (fun _ => 0)))] := hD
  refine va_putF (D := (dC, dI)) (ci := 9) (v := .ref n5) (ty := .array .int) (C := RX9) (T := TX9) (N := 6) hx hb hts in_X9_init_X9 tyX9 tyX9_ok nmX9 hown hK hP hD hS 0 rfl rfl 5 (by decide) (hts _ lk_X9_init_RX9_24) (fun _ h9 => h9) rfl hin rfl (by decide +kernel) rfl rfl (Nat.le_of_ble_eq_true rfl) dX9_init_41 (fun H locs hP hD hS => ?_)
  have hP : va_P (dC, dI) vwCl [(b0, .inr (9, [.int 0, .ref n1, .ref n2, .ref n3, .ref n4, .ref n5])), (n1, .inl (Y 0, 6, .inl (fun _ => 0))), (n2, .inl (Y 0, 6, .inl (fun _ => 0))), (n3, .inl (Y 0, 6, .inl (fun _ => 0))), (n4, .inl (Y 0, 6, .inl (fun _ => 0))), (n5, .inl (Y 0, 6, .inl (fun _ => 0)))] H := hP
  have hD : va_D A [(b0, .inr (9, [.int 0, .ref n1, .ref n2, .ref n3, .ref n4, .ref n5])), (n1, .inl (Y 0, 6, .inl (fun _ => 0))), (n2, .inl (Y 0, 6, .inl (fun _ => 0))), (n3, .inl (Y 0, 6, .inl (fun _ => 0))), (n4, .inl (Y 0, 6, .inl (fun _ => 0))), (n5, .inl (Y 0, 6, .inl (fun _ => 0)))] := hD
  have hP9 := hP.sub (ws' := (wX9 Y (fun k => [b0, n1, n2, n3, n4, n5].getD k 0) 0 (fun _ => 0) (fun _ => 0) (fun _ => 0) (fun _ => 0) (fun _ => 0))) [0, 1, 2, 3, 4, 5] rfl
  have hD9 := hD.sub (ws' := (wX9 Y (fun k => [b0, n1, n2, n3, n4, n5].getD k 0) 0 (fun _ => 0) (fun _ => 0) (fun _ => 0) (fun _ => 0) (fun _ => 0))) [0, 1, 2, 3, 4, 5] (by decide) rfl
  refine W.widen (k := 5) (n := 30) (Nat.le_of_ble_eq_true rfl) (Nat.le_of_ble_eq_true rfl) ?_
  exact W.vret hx hb hr (fun t ht hW => ⟨⟨(fun k => [b0, n1, n2, n3, n4, n5].getD k 0), rfl, rfl, by rw [ht]; exact hP9, va_K.moved hW.alike hK, hD9⟩, hS.F ht⟩) hS.2.2 dX9_init_44
theorem lk_X2_init_RX2_9 : Cond.fieldLink RX2 9 "CircusLedger$Books" "accounts" "I" ∈ wsX2_init := by decide +kernel
theorem lk_X2_init_RX2_15 : Cond.fieldLink RX2 15 "CircusLedger$Books" "balances" "[I" ∈ wsX2_init := by decide +kernel
theorem lk_X2_init_RX2_19 : Cond.fieldLink RX2 19 "CircusLedger$Books" "balancesAtClosing" "[I" ∈ wsX2_init := by decide +kernel
theorem lk_X2_init_RX2_22 : Cond.fieldLink RX2 22 "CircusLedger$Books" "debited" "[I" ∈ wsX2_init := by decide +kernel
theorem lk_X2_init_RX2_25 : Cond.fieldLink RX2 25 "CircusLedger$Books" "credited" "[I" ∈ wsX2_init := by decide +kernel
theorem lk_X2_init_RX2_28 : Cond.fieldLink RX2 28 "CircusLedger$Books" "amounts" "[I" ∈ wsX2_init := by decide +kernel
theorem in_X2_init_X2 : ∀ w ∈ u_ws RX2 TX2 7, w ∈ wsX2_init := by decide +kernel
theorem oi_X2_init : Cond.methodLink RX2 3 objectInit ∈ wsX2_init ∧ Cond.instanceMethod objectInit ∈ wsX2_init ∧ Cond.code objectInit ⟨#[0xb1]⟩ 1 none ∈ wsX2_init := ⟨by decide +kernel, by decide +kernel, by decide +kernel⟩
theorem nr_X2_init_int : Cond.arrayClass .int ∈ wsX2_init := by decide +kernel
set_option maxHeartbeats 4000000 in
set_option maxRecDepth 100000 in
theorem c_X2_init (l : Launch) (dC : Nat → ClassId) (dI : Nat → Nat → Nat) (Y : Nat → ClassId) (b0 : Nat) (sz : Nat) : Met l yX2_init wsX2_init ({ frames := 1, cells := 5, slots := 202, locals := 40 } : Room) (va_Pc [.ref b0] (wk_E (dC, dI) Y [(b0, .inr (4, [.int 0, .null, .null, .int 0, .null, .null, .null]))] sz)) (va_Qv (fun (u : Nat → Nat) => u 0 = b0) (fun u t => wk_X (dC, dI) Y (wX2 Y u 5 (fun _ => 0) (fun _ => 0) 0 (fun _ => 0) (fun _ => 0) (fun _ => 0)) (va_A [(b0, .inr (4, [.int 0, .null, .null, .int 0, .null, .null, .null]))] sz) t) (va_A [(b0, .inr (4, [.int 0, .null, .null, .int 0, .null, .null, .null]))] sz)) 5 202 (va_A [(b0, .inr (4, [.int 0, .null, .null, .int 0, .null, .null, .null]))] sz) := by
  refine Met.ofW (cc := cX2_init) (maxL := 1) (ret := none) (by decide) rfl ?_
  intro p e s m args below meth c s₁ B hml hv
  obtain ⟨rfl, hsz, hP, hK, hD0⟩ := hv
  have hx := B.exec
  have hb := B.bytes
  have hr := B.returns
  have hts := atoms_spec (ws := wsX2_init) B.pre
  have hown : s.vm.findClass RX2 = some m.cls := findClass_of_methodNamed B.named
  have hlocks := B.notSynchronized
  have hin : meth.name = "<init>" := (name_of_methodNamed B.named B.method).1
  subst hsz
  have hD := hD0.self (sz := s.heap.size)
  generalize hAe : va_A [(b0, .inr (4, [.int 0, .null, .null, .int 0, .null, .null, .null]))] s.heap.size = A at hD ⊢
  have hA : ∀ q : Nat, s.heap.size ≤ q → A q := fun q h => by rw [← hAe]; exact Or.inr h
  have hS : va_S A s.heap s.heap [] := va_S.rf
  obtain ⟨H, hHe⟩ : ∃ H, H = s.heap := ⟨_, rfl⟩
  have hS : va_S A s.heap H [] := by rw [hHe]; exact hS
  have hP : va_P (dC, dI) vwCl [(b0, .inr (4, [.int 0, .null, .null, .int 0, .null, .null, .null]))] H := by rw [hHe]; exact hP
  obtain ⟨locs, hlo⟩ : ∃ locs : List Loc, locs = [] := ⟨_, rfl⟩
  have hS : va_S A s.heap H locs := by rw [hlo]; exact hS
  have hl := lv_entry ([.ref b0]) (n := 1) (Nat.le_of_ble_eq_true rfl)
  rw [lg_entry_eq]
  generalize (lg_sl ([.ref b0]) ++ List.replicate (1 - (lg_sl ([.ref b0])).length) Slot.unset).toArray = ls at hl ⊢
  have hl : lv_has ls 1 [(0, .ref b0)] := hl
  refine wk_start hHe hlo ?_
  refine lv_aload_n hx hb dX2_init_0 rfl (lv_at hl 0 rfl) ?_
  refine W.objInit hx hb hown (hts _ oi_X2_init.1) (hts _ oi_X2_init.2.1) (hts _ oi_X2_init.2.2) rfl (by rw [hml]; exact hl.1) rfl dX2_init_1 (Nat.le_of_ble_eq_true rfl) (Nat.le_of_ble_eq_true rfl) ?_
  refine W.eq (g2 := F0 m 4 ls []) rfl ?_
  refine lv_aload_n hx hb dX2_init_4 rfl (lv_at hl 0 rfl) ?_
  refine lv_iconst (v := 5) hx hb dX2_init_5 (by decide) ?_
  refine va_put (D := (dC, dI)) (ci := 4) (v := .int 5) (ty := .int) (C := RX2) (T := TX2) (N := 7) hx hb hts in_X2_init_X2 tyX2 tyX2_ok nmX2 hown hK hP hD hS 0 rfl rfl 0 (by decide) (hts _ lk_X2_init_RX2_9) (fun _ h9 => h9) rfl (by decide +kernel) rfl rfl (Nat.le_of_ble_eq_true rfl) dX2_init_6 (fun H locs hP hD hS => ?_)
  have hP : va_P (dC, dI) vwCl [(b0, .inr (4, [.int 5, .null, .null, .int 0, .null, .null, .null]))] H := hP
  have hD : va_D A [(b0, .inr (4, [.int 5, .null, .null, .int 0, .null, .null, .null]))] := hD
  refine lv_aload_n hx hb dX2_init_9 rfl (lv_at hl 0 rfl) ?_
  refine lv_bipush (v := 11) hx hb dX2_init_10 (by decide) ?_
  refine wk_newi (N := 11) hx hb (hts _ nr_X2_init_int) hK hP hD hS hA (by decide) (by decide) (Nat.le_of_ble_eq_true rfl) (Nat.le_of_ble_eq_true rfl) (Nat.le_of_ble_eq_true rfl) dX2_init_12 (fun n1 H hP hD hS => ?_)
  have hP : va_P (dC, dI) vwCl [(b0, .inr (4, [.int 5, .null, .null, .int 0, .null, .null, .null])), (n1, .inl (Y 0, 11, .inl (fun _ => 0)))] H := hP
  have hD : va_D A [(b0, .inr (4, [.int 5, .null, .null, .int 0, .null, .null, .null])), (n1, .inl (Y 0, 11, .inl (fun _ => 0)))] := hD
  refine va_putF (D := (dC, dI)) (ci := 4) (v := .ref n1) (ty := .array .int) (C := RX2) (T := TX2) (N := 7) hx hb hts in_X2_init_X2 tyX2 tyX2_ok nmX2 hown hK hP hD hS 0 rfl rfl 1 (by decide) (hts _ lk_X2_init_RX2_15) (fun _ h9 => h9) rfl hin rfl (by decide +kernel) rfl rfl (Nat.le_of_ble_eq_true rfl) dX2_init_14 (fun H locs hP hD hS => ?_)
  have hP : va_P (dC, dI) vwCl [(b0, .inr (4, [.int 5, .ref n1, .null, .int 0, .null, .null, .null])), (n1, .inl (Y 0, 11, .inl (fun _ => 0)))] H := hP
  have hD : va_D A [(b0, .inr (4, [.int 5, .ref n1, .null, .int 0, .null, .null, .null])), (n1, .inl (Y 0, 11, .inl (fun _ => 0)))] := hD
  refine lv_aload_n hx hb dX2_init_17 rfl (lv_at hl 0 rfl) ?_
  refine lv_bipush (v := 11) hx hb dX2_init_18 (by decide) ?_
  refine wk_newi (N := 11) hx hb (hts _ nr_X2_init_int) hK hP hD hS hA (by decide) (by decide) (Nat.le_of_ble_eq_true rfl) (Nat.le_of_ble_eq_true rfl) (Nat.le_of_ble_eq_true rfl) dX2_init_20 (fun n2 H hP hD hS => ?_)
  have hP : va_P (dC, dI) vwCl [(b0, .inr (4, [.int 5, .ref n1, .null, .int 0, .null, .null, .null])), (n1, .inl (Y 0, 11, .inl (fun _ => 0))), (n2, .inl (Y 0, 11, .inl (fun _ => 0)))] H := hP
  have hD : va_D A [(b0, .inr (4, [.int 5, .ref n1, .null, .int 0, .null, .null, .null])), (n1, .inl (Y 0, 11, .inl (fun _ => 0))), (n2, .inl (Y 0, 11, .inl (fun _ => 0)))] := hD
  refine va_putF (D := (dC, dI)) (ci := 4) (v := .ref n2) (ty := .array .int) (C := RX2) (T := TX2) (N := 7) hx hb hts in_X2_init_X2 tyX2 tyX2_ok nmX2 hown hK hP hD hS 0 rfl rfl 2 (by decide) (hts _ lk_X2_init_RX2_19) (fun _ h9 => h9) rfl hin rfl (by decide +kernel) rfl rfl (Nat.le_of_ble_eq_true rfl) dX2_init_22 (fun H locs hP hD hS => ?_)
  have hP : va_P (dC, dI) vwCl [(b0, .inr (4, [.int 5, .ref n1, .ref n2, .int 0, .null, .null, .null])), (n1, .inl (Y 0, 11, .inl (fun _ => 0))), (n2, .inl (Y 0, 11, .inl (fun _ => 0)))] H := hP
  have hD : va_D A [(b0, .inr (4, [.int 5, .ref n1, .ref n2, .int 0, .null, .null, .null])), (n1, .inl (Y 0, 11, .inl (fun _ => 0))), (n2, .inl (Y 0, 11, .inl (fun _ => 0)))] := hD
  refine lv_aload_n hx hb dX2_init_25 rfl (lv_at hl 0 rfl) ?_
  refine lv_bipush (v := 60) hx hb dX2_init_26 (by decide) ?_
  refine wk_newi (N := 60) hx hb (hts _ nr_X2_init_int) hK hP hD hS hA (by decide) (by decide) (Nat.le_of_ble_eq_true rfl) (Nat.le_of_ble_eq_true rfl) (Nat.le_of_ble_eq_true rfl) dX2_init_28 (fun n3 H hP hD hS => ?_)
  have hP : va_P (dC, dI) vwCl [(b0, .inr (4, [.int 5, .ref n1, .ref n2, .int 0, .null, .null, .null])), (n1, .inl (Y 0, 11, .inl (fun _ => 0))), (n2, .inl (Y 0, 11, .inl (fun _ => 0))), (n3, .inl (Y 0, 60, .inl (fun _ => 0)))] H := hP
  have hD : va_D A [(b0, .inr (4, [.int 5, .ref n1, .ref n2, .int 0, .null, .null, .null])), (n1, .inl (Y 0, 11, .inl (fun _ => 0))), (n2, .inl (Y 0, 11, .inl (fun _ => 0))), (n3, .inl (Y 0, 60, .inl (fun _ => 0)))] := hD
  refine va_putF (D := (dC, dI)) (ci := 4) (v := .ref n3) (ty := .array .int) (C := RX2) (T := TX2) (N := 7) hx hb hts in_X2_init_X2 tyX2 tyX2_ok nmX2 hown hK hP hD hS 0 rfl rfl 4 (by decide) (hts _ lk_X2_init_RX2_22) (fun _ h9 => h9) rfl hin rfl (by decide +kernel) rfl rfl (Nat.le_of_ble_eq_true rfl) dX2_init_30 (fun H locs hP hD hS => ?_)
  have hP : va_P (dC, dI) vwCl [(b0, .inr (4, [.int 5, .ref n1, .ref n2, .int 0, .ref n3, .null, .null])), (n1, .inl (Y 0, 11, .inl (fun _ => 0))), (n2, .inl (Y 0, 11, .inl (fun _ => 0))), (n3, .inl (Y 0, 60, .inl (fun _ => 0)))] H := hP
  have hD : va_D A [(b0, .inr (4, [.int 5, .ref n1, .ref n2, .int 0, .ref n3, .null, .null])), (n1, .inl (Y 0, 11, .inl (fun _ => 0))), (n2, .inl (Y 0, 11, .inl (fun _ => 0))), (n3, .inl (Y 0, 60, .inl (fun _ => 0)))] := hD
  refine lv_aload_n hx hb dX2_init_33 rfl (lv_at hl 0 rfl) ?_
  refine lv_bipush (v := 60) hx hb dX2_init_34 (by decide) ?_
  refine wk_newi (N := 60) hx hb (hts _ nr_X2_init_int) hK hP hD hS hA (by decide) (by decide) (Nat.le_of_ble_eq_true rfl) (Nat.le_of_ble_eq_true rfl) (Nat.le_of_ble_eq_true rfl) dX2_init_36 (fun n4 H hP hD hS => ?_)
  have hP : va_P (dC, dI) vwCl [(b0, .inr (4, [.int 5, .ref n1, .ref n2, .int 0, .ref n3, .null, .null])), (n1, .inl (Y 0, 11, .inl (fun _ => 0))), (n2, .inl (Y 0, 11, .inl (fun _ => 0))), (n3, .inl (Y 0, 60, .inl (fun _ => 0))), (n4, .inl (Y 0, 60, .inl (fun _ => 0)))] H := hP
  have hD : va_D A [(b0, .inr (4, [.int 5, .ref n1, .ref n2, .int 0, .ref n3, .null, .null])), (n1, .inl (Y 0, 11, .inl (fun _ => 0))), (n2, .inl (Y 0, 11, .inl (fun _ => 0))), (n3, .inl (Y 0, 60, .inl (fun _ => 0))), (n4, .inl (Y 0, 60, .inl (fun _ => 0)))] := hD
  refine va_putF (D := (dC, dI)) (ci := 4) (v := .ref n4) (ty := .array .int) (C := RX2) (T := TX2) (N := 7) hx hb hts in_X2_init_X2 tyX2 tyX2_ok nmX2 hown hK hP hD hS 0 rfl rfl 5 (by decide) (hts _ lk_X2_init_RX2_25) (fun _ h9 => h9) rfl hin rfl (by decide +kernel) rfl rfl (Nat.le_of_ble_eq_true rfl) dX2_init_38 (fun H locs hP hD hS => ?_)
  have hP : va_P (dC, dI) vwCl [(b0, .inr (4, [.int 5, .ref n1, .ref n2, .int 0, .ref n3, .ref n4, .null])), (n1, .inl (Y 0, 11, .inl (fun _ => 0))), (n2, .inl (Y 0, 11, .inl (fun _ => 0))), (n3, .inl (Y 0, 60, .inl (fun _ => 0))), (n4, .inl (Y 0, 60, .inl (fun _ => 0)))] H := hP
  have hD : va_D A [(b0, .inr (4, [.int 5, .ref n1, .ref n2, .int 0, .ref n3, .ref n4, .null])), (n1, .inl (Y 0, 11, .inl (fun _ => 0))), (n2, .inl (Y 0, 11, .inl (fun _ => 0))), (n3, .inl (Y 0, 60, .inl (fun _ => 0))), (n4, .inl (Y 0, 60, .inl (fun _ => 0)))] := hD
  refine lv_aload_n hx hb dX2_init_41 rfl (lv_at hl 0 rfl) ?_
  refine lv_bipush (v := 60) hx hb dX2_init_42 (by decide) ?_
  refine wk_newi (N := 60) hx hb (hts _ nr_X2_init_int) hK hP hD hS hA (by decide) (by decide) (Nat.le_of_ble_eq_true rfl) (Nat.le_of_ble_eq_true rfl) (Nat.le_of_ble_eq_true rfl) dX2_init_44 (fun n5 H hP hD hS => ?_)
  have hP : va_P (dC, dI) vwCl [(b0, .inr (4, [.int 5, .ref n1, .ref n2, .int 0, .ref n3, .ref n4, .null])), (n1, .inl (Y 0, 11, .inl (fun _ => 0))), (n2, .inl (Y 0, 11, .inl (fun _ => 0))), (n3, .inl (Y 0, 60, .inl (fun _ => 0))), (n4, .inl (Y 0, 60, .inl (fun _ => 0))), (n5, .inl (Y 0, 60, .inl (fun _ => 0)))] H := hP
  have hD : va_D A [(b0, .inr (4, [.int 5, .ref n1, .ref n2, .int 0, .ref n3, .ref n4, .null])), (n1, .inl (Y 0, 11, .inl (fun _ => 0))), (n2, .inl (Y 0, 11, .inl (fun _ => 0))), (n3, .inl (Y 0, 60, .inl (fun _ => 0))), (n4, .inl (Y 0, 60, .inl (fun _ => 0))), (n5, .inl (Y 0, 60, .inl (fun _ => 0)))] := hD
  refine va_putF (D := (dC, dI)) (ci := 4) (v := .ref n5) (ty := .array .int) (C := RX2) (T := TX2) (N := 7) hx hb hts in_X2_init_X2 tyX2 tyX2_ok nmX2 hown hK hP hD hS 0 rfl rfl 6 (by decide) (hts _ lk_X2_init_RX2_28) (fun _ h9 => h9) rfl hin rfl (by decide +kernel) rfl rfl (Nat.le_of_ble_eq_true rfl) dX2_init_46 (fun H locs hP hD hS => ?_)
  have hP : va_P (dC, dI) vwCl [(b0, .inr (4, [.int 5, .ref n1, .ref n2, .int 0, .ref n3, .ref n4, .ref n5])), (n1, .inl (Y 0, 11, .inl (fun _ => 0))), (n2, .inl (Y 0, 11, .inl (fun _ => 0))), (n3, .inl (Y 0, 60, .inl (fun _ => 0))), (n4, .inl (Y 0, 60, .inl (fun _ => 0))), (n5, .inl (Y 0, 60, .inl (fun _ => 0)))] H := hP
  have hD : va_D A [(b0, .inr (4, [.int 5, .ref n1, .ref n2, .int 0, .ref n3, .ref n4, .ref n5])), (n1, .inl (Y 0, 11, .inl (fun _ => 0))), (n2, .inl (Y 0, 11, .inl (fun _ => 0))), (n3, .inl (Y 0, 60, .inl (fun _ => 0))), (n4, .inl (Y 0, 60, .inl (fun _ => 0))), (n5, .inl (Y 0, 60, .inl (fun _ => 0)))] := hD
  have hP9 := hP.sub (ws' := (wX2 Y (fun k => [b0, n1, n2, n3, n4, n5].getD k 0) 5 (fun _ => 0) (fun _ => 0) 0 (fun _ => 0) (fun _ => 0) (fun _ => 0))) [0, 1, 2, 3, 4, 5] rfl
  have hD9 := hD.sub (ws' := (wX2 Y (fun k => [b0, n1, n2, n3, n4, n5].getD k 0) 5 (fun _ => 0) (fun _ => 0) 0 (fun _ => 0) (fun _ => 0) (fun _ => 0))) [0, 1, 2, 3, 4, 5] (by decide) rfl
  refine W.widen (k := 5) (n := 202) (Nat.le_of_ble_eq_true rfl) (Nat.le_of_ble_eq_true rfl) ?_
  exact W.vret hx hb hr (fun t ht hW => ⟨⟨(fun k => [b0, n1, n2, n3, n4, n5].getD k 0), rfl, rfl, by rw [ht]; exact hP9, va_K.moved hW.alike hK, hD9⟩, hS.F ht⟩) hS.2.2 dX2_init_49
theorem lk_X3_init_RX3_12 : Cond.fieldLink RX3 12 "CircusLedger$Circus" "troupe" "LCircusLedger$Troupe;" ∈ wsX3_init := by decide +kernel
theorem lk_X3_init_RX3_21 : Cond.fieldLink RX3 21 "CircusLedger$Circus" "books" "LCircusLedger$Books;" ∈ wsX3_init := by decide +kernel
theorem in_X3_init_X2 : ∀ w ∈ u_ws RX2 TX2 7, w ∈ wsX3_init := by decide +kernel
theorem in_X3_init_X3 : ∀ w ∈ u_ws RX3 TX3 6, w ∈ wsX3_init := by decide +kernel
theorem in_X3_init_X9 : ∀ w ∈ u_ws RX9 TX9 6, w ∈ wsX3_init := by decide +kernel
theorem oi_X3_init : Cond.methodLink RX3 3 objectInit ∈ wsX3_init ∧ Cond.instanceMethod objectInit ∈ wsX3_init ∧ Cond.code objectInit ⟨#[0xb1]⟩ 1 none ∈ wsX3_init := ⟨by decide +kernel, by decide +kernel, by decide +kernel⟩
theorem mi_X3_init_11 : Cond.initialized RX9 ∈ wsX3_init ∧ Cond.instanceMethod yX9_init ∈ wsX3_init := ⟨by decide +kernel, by decide +kernel⟩
theorem mi_X3_init_20 : Cond.initialized RX2 ∈ wsX3_init ∧ Cond.instanceMethod yX2_init ∈ wsX3_init := ⟨by decide +kernel, by decide +kernel⟩
theorem nw_X3_init_9 : Cond.classLink RX3 9 RX9 ∈ wsX3_init ∧ Cond.instantiable RX9 6 ∈ wsX3_init ∧ Cond.initialized RX9 ∈ wsX3_init := ⟨by decide +kernel, by decide +kernel, by decide +kernel⟩
theorem nw_X3_init_18 : Cond.classLink RX3 18 RX2 ∈ wsX3_init ∧ Cond.instantiable RX2 7 ∈ wsX3_init ∧ Cond.initialized RX2 ∈ wsX3_init := ⟨by decide +kernel, by decide +kernel, by decide +kernel⟩
set_option maxHeartbeats 4000000 in
set_option maxRecDepth 100000 in
theorem c_X3_init (l : Launch) (dC : Nat → ClassId) (dI : Nat → Nat → Nat) (Y : Nat → ClassId) (b0 : Nat) (sz : Nat) : Met l yX3_init wsX3_init ({ frames := 2, cells := 12, slots := 245, locals := 60 } : Room) (va_Pc [.ref b0] (wk_EN (dC, dI) Y [(b0, .inr (5, [.null, .null, .int 0, .int 0, .int 0, .int 0]))] sz)) (va_Qv (fun (u : Nat → Nat) => u 0 = b0) (fun u t => wk_X (dC, dI) Y (wX3 Y u 0 (fun _ => 0) (fun _ => 0) (fun _ => 0) (fun _ => 0) (fun _ => 0) 5 (fun _ => 0) (fun _ => 0) 0 (fun _ => 0) (fun _ => 0) (fun _ => 0) 0 0 0 0) (va_A [(b0, .inr (5, [.null, .null, .int 0, .int 0, .int 0, .int 0]))] sz) t) (va_A [(b0, .inr (5, [.null, .null, .int 0, .int 0, .int 0, .int 0]))] sz)) 12 245 (va_A [(b0, .inr (5, [.null, .null, .int 0, .int 0, .int 0, .int 0]))] sz) := by
  refine Met.ofW (cc := cX3_init) (maxL := 1) (ret := none) (by decide) rfl ?_
  intro p e s m args below meth c s₁ B hml hv
  obtain ⟨rfl, ⟨hsz, hP, hK, hD0⟩, hN⟩ := hv
  have hx := B.exec
  have hb := B.bytes
  have hr := B.returns
  have hts := atoms_spec (ws := wsX3_init) B.pre
  have hown : s.vm.findClass RX3 = some m.cls := findClass_of_methodNamed B.named
  have hlocks := B.notSynchronized
  have hin : meth.name = "<init>" := (name_of_methodNamed B.named B.method).1
  subst hsz
  have hD := hD0.self (sz := s.heap.size)
  generalize hAe : va_A [(b0, .inr (5, [.null, .null, .int 0, .int 0, .int 0, .int 0]))] s.heap.size = A at hD ⊢
  have hA : ∀ q : Nat, s.heap.size ≤ q → A q := fun q h => by rw [← hAe]; exact Or.inr h
  have hS : va_S A s.heap s.heap [] := va_S.rf
  obtain ⟨H, hHe⟩ : ∃ H, H = s.heap := ⟨_, rfl⟩
  have hS : va_S A s.heap H [] := by rw [hHe]; exact hS
  have hP : va_P (dC, dI) vwCl [(b0, .inr (5, [.null, .null, .int 0, .int 0, .int 0, .int 0]))] H := by rw [hHe]; exact hP
  obtain ⟨locs, hlo⟩ : ∃ locs : List Loc, locs = [] := ⟨_, rfl⟩
  have hS : va_S A s.heap H locs := by rw [hlo]; exact hS
  have hl := lv_entry ([.ref b0]) (n := 1) (Nat.le_of_ble_eq_true rfl)
  rw [lg_entry_eq]
  generalize (lg_sl ([.ref b0]) ++ List.replicate (1 - (lg_sl ([.ref b0])).length) Slot.unset).toArray = ls at hl ⊢
  have hl : lv_has ls 1 [(0, .ref b0)] := hl
  refine wk_start hHe hlo ?_
  refine lv_aload_n hx hb dX3_init_0 rfl (lv_at hl 0 rfl) ?_
  refine W.objInit hx hb hown (hts _ oi_X3_init.1) (hts _ oi_X3_init.2.1) (hts _ oi_X3_init.2.2) rfl (by rw [hml]; exact hl.1) rfl dX3_init_1 (Nat.le_of_ble_eq_true rfl) (Nat.le_of_ble_eq_true rfl) ?_
  refine W.eq (g2 := F0 m 4 ls []) rfl ?_
  refine lv_aload_n hx hb dX3_init_4 rfl (lv_at hl 0 rfl) ?_
  refine va_new (ci := 9) (fs := [.int 0, .null, .null, .null, .null, .null]) (C := RX9) (T := TX9) (N := 6) hx hb hts in_X3_init_X9 tyX9 tyX9_ok hown (hts _ nw_X3_init_9.1) (hts _ nw_X3_init_9.2.1) (hts _ nw_X3_init_9.2.2) hK hP hD hS hA rfl (fun j hj => by rcases (show j = 0 ∨ j = 1 ∨ j = 2 ∨ j = 3 ∨ j = 4 ∨ j = 5 by omega) with rfl | rfl | rfl | rfl | rfl | rfl <;> rfl) (Nat.le_of_ble_eq_true rfl) (Nat.le_of_ble_eq_true rfl) dX3_init_5 (fun n1 H hP hD hS => ?_)
  have hP : va_P (dC, dI) vwCl [(b0, .inr (5, [.null, .null, .int 0, .int 0, .int 0, .int 0])), (n1, .inr (9, [.int 0, .null, .null, .null, .null, .null]))] H := hP
  have hD : va_D A [(b0, .inr (5, [.null, .null, .int 0, .int 0, .int 0, .int 0])), (n1, .inr (9, [.int 0, .null, .null, .null, .null, .null]))] := hD
  refine lv_dup hx hb dX3_init_8 rfl ?_
  refine wk_ctorE (As := []) (rest := [.ref n1, .ref b0]) (wc := [(n1, .inr (9, [.int 0, .null, .null, .null, .null, .null]))]) (wr := [(b0, .inr (5, [.null, .null, .int 0, .int 0, .int 0, .int 0]))]) (wu := fun u => (wX9 Y u 0 (fun _ => 0) (fun _ => 0) (fun _ => 0) (fun _ => 0) (fun _ => 0))) ⟨hx, hb, hml, hown, hts⟩ (c_X9_init l dC dI Y n1 H.size) ⟨va_cnB (host := "CircusLedger") 0 hts gX3_init_X9_init_n11 rfl rfl rfl (hN.1) (hts _ mi_X3_init_11.1) (by decide +kernel) ⟨Nat.le_of_ble_eq_true rfl, Nat.le_of_ble_eq_true rfl⟩, rfl, hts _ mi_X3_init_11.2⟩ hK hP hD hS hA [1] [0] rfl rfl (by decide) (by decide) (by decide) rfl hl.1 rfl (Nat.le_of_ble_eq_true rfl) dX3_init_9 ⟨Nat.le_of_ble_eq_true rfl, Nat.le_of_ble_eq_true rfl⟩ (fun u2 H locs hu3 hP1 hD1 hS => ?_)
  subst hu3
  have hP : va_P (dC, dI) vwCl [(b0, .inr (5, [.null, .null, .int 0, .int 0, .int 0, .int 0])), (u2 0, .inr (9, [.int 0, .ref (u2 1), .ref (u2 2), .ref (u2 3), .ref (u2 4), .ref (u2 5)])), (u2 1, .inl (Y 0, 6, .inl (fun _ => 0))), (u2 2, .inl (Y 0, 6, .inl (fun _ => 0))), (u2 3, .inl (Y 0, 6, .inl (fun _ => 0))), (u2 4, .inl (Y 0, 6, .inl (fun _ => 0))), (u2 5, .inl (Y 0, 6, .inl (fun _ => 0)))] H := hP1
  have hD : va_D A [(b0, .inr (5, [.null, .null, .int 0, .int 0, .int 0, .int 0])), (u2 0, .inr (9, [.int 0, .ref (u2 1), .ref (u2 2), .ref (u2 3), .ref (u2 4), .ref (u2 5)])), (u2 1, .inl (Y 0, 6, .inl (fun _ => 0))), (u2 2, .inl (Y 0, 6, .inl (fun _ => 0))), (u2 3, .inl (Y 0, 6, .inl (fun _ => 0))), (u2 4, .inl (Y 0, 6, .inl (fun _ => 0))), (u2 5, .inl (Y 0, 6, .inl (fun _ => 0)))] := hD1
  refine va_putF (D := (dC, dI)) (ci := 5) (v := .ref (u2 0)) (ty := .object "CircusLedger$Troupe") (C := RX3) (T := TX3) (N := 6) hx hb hts in_X3_init_X3 tyX3 tyX3_ok nmX3 hown hK hP hD hS 0 rfl rfl 0 (by decide) (hts _ lk_X3_init_RX3_12) (fun _ h9 => h9) rfl hin rfl (by decide +kernel) rfl rfl (Nat.le_of_ble_eq_true rfl) dX3_init_12 (fun H locs hP hD hS => ?_)
  have hP : va_P (dC, dI) vwCl [(b0, .inr (5, [.ref (u2 0), .null, .int 0, .int 0, .int 0, .int 0])), (u2 0, .inr (9, [.int 0, .ref (u2 1), .ref (u2 2), .ref (u2 3), .ref (u2 4), .ref (u2 5)])), (u2 1, .inl (Y 0, 6, .inl (fun _ => 0))), (u2 2, .inl (Y 0, 6, .inl (fun _ => 0))), (u2 3, .inl (Y 0, 6, .inl (fun _ => 0))), (u2 4, .inl (Y 0, 6, .inl (fun _ => 0))), (u2 5, .inl (Y 0, 6, .inl (fun _ => 0)))] H := hP
  have hD : va_D A [(b0, .inr (5, [.ref (u2 0), .null, .int 0, .int 0, .int 0, .int 0])), (u2 0, .inr (9, [.int 0, .ref (u2 1), .ref (u2 2), .ref (u2 3), .ref (u2 4), .ref (u2 5)])), (u2 1, .inl (Y 0, 6, .inl (fun _ => 0))), (u2 2, .inl (Y 0, 6, .inl (fun _ => 0))), (u2 3, .inl (Y 0, 6, .inl (fun _ => 0))), (u2 4, .inl (Y 0, 6, .inl (fun _ => 0))), (u2 5, .inl (Y 0, 6, .inl (fun _ => 0)))] := hD
  refine lv_aload_n hx hb dX3_init_15 rfl (lv_at hl 0 rfl) ?_
  refine va_new (ci := 4) (fs := [.int 0, .null, .null, .int 0, .null, .null, .null]) (C := RX2) (T := TX2) (N := 7) hx hb hts in_X3_init_X2 tyX2 tyX2_ok hown (hts _ nw_X3_init_18.1) (hts _ nw_X3_init_18.2.1) (hts _ nw_X3_init_18.2.2) hK hP hD hS hA rfl (fun j hj => by rcases (show j = 0 ∨ j = 1 ∨ j = 2 ∨ j = 3 ∨ j = 4 ∨ j = 5 ∨ j = 6 by omega) with rfl | rfl | rfl | rfl | rfl | rfl | rfl <;> rfl) (Nat.le_of_ble_eq_true rfl) (Nat.le_of_ble_eq_true rfl) dX3_init_16 (fun n4 H hP hD hS => ?_)
  have hP : va_P (dC, dI) vwCl [(b0, .inr (5, [.ref (u2 0), .null, .int 0, .int 0, .int 0, .int 0])), (u2 0, .inr (9, [.int 0, .ref (u2 1), .ref (u2 2), .ref (u2 3), .ref (u2 4), .ref (u2 5)])), (u2 1, .inl (Y 0, 6, .inl (fun _ => 0))), (u2 2, .inl (Y 0, 6, .inl (fun _ => 0))), (u2 3, .inl (Y 0, 6, .inl (fun _ => 0))), (u2 4, .inl (Y 0, 6, .inl (fun _ => 0))), (u2 5, .inl (Y 0, 6, .inl (fun _ => 0))), (n4, .inr (4, [.int 0, .null, .null, .int 0, .null, .null, .null]))] H := hP
  have hD : va_D A [(b0, .inr (5, [.ref (u2 0), .null, .int 0, .int 0, .int 0, .int 0])), (u2 0, .inr (9, [.int 0, .ref (u2 1), .ref (u2 2), .ref (u2 3), .ref (u2 4), .ref (u2 5)])), (u2 1, .inl (Y 0, 6, .inl (fun _ => 0))), (u2 2, .inl (Y 0, 6, .inl (fun _ => 0))), (u2 3, .inl (Y 0, 6, .inl (fun _ => 0))), (u2 4, .inl (Y 0, 6, .inl (fun _ => 0))), (u2 5, .inl (Y 0, 6, .inl (fun _ => 0))), (n4, .inr (4, [.int 0, .null, .null, .int 0, .null, .null, .null]))] := hD
  refine lv_dup hx hb dX3_init_19 rfl ?_
  refine wk_ctorE (As := []) (rest := [.ref n4, .ref b0]) (wc := [(n4, .inr (4, [.int 0, .null, .null, .int 0, .null, .null, .null]))]) (wr := [(b0, .inr (5, [.ref (u2 0), .null, .int 0, .int 0, .int 0, .int 0])), (u2 0, .inr (9, [.int 0, .ref (u2 1), .ref (u2 2), .ref (u2 3), .ref (u2 4), .ref (u2 5)])), (u2 1, .inl (Y 0, 6, .inl (fun _ => 0))), (u2 2, .inl (Y 0, 6, .inl (fun _ => 0))), (u2 3, .inl (Y 0, 6, .inl (fun _ => 0))), (u2 4, .inl (Y 0, 6, .inl (fun _ => 0))), (u2 5, .inl (Y 0, 6, .inl (fun _ => 0)))]) (wu := fun u => (wX2 Y u 5 (fun _ => 0) (fun _ => 0) 0 (fun _ => 0) (fun _ => 0) (fun _ => 0))) ⟨hx, hb, hml, hown, hts⟩ (c_X2_init l dC dI Y n4 H.size) ⟨va_cnB (host := "CircusLedger") 0 hts gX3_init_X2_init_n20 rfl rfl rfl (hN.2.1) (hts _ mi_X3_init_20.1) (by decide +kernel) ⟨Nat.le_of_ble_eq_true rfl, Nat.le_of_ble_eq_true rfl⟩, rfl, hts _ mi_X3_init_20.2⟩ hK hP hD hS hA [7] [0, 1, 2, 3, 4, 5, 6] rfl rfl (by decide) (by decide) (by decide) rfl hl.1 rfl (Nat.le_of_ble_eq_true rfl) dX3_init_20 ⟨Nat.le_of_ble_eq_true rfl, Nat.le_of_ble_eq_true rfl⟩ (fun u5 H locs hu6 hP1 hD1 hS => ?_)
  subst hu6
  have hP : va_P (dC, dI) vwCl [(b0, .inr (5, [.ref (u2 0), .null, .int 0, .int 0, .int 0, .int 0])), (u2 0, .inr (9, [.int 0, .ref (u2 1), .ref (u2 2), .ref (u2 3), .ref (u2 4), .ref (u2 5)])), (u2 1, .inl (Y 0, 6, .inl (fun _ => 0))), (u2 2, .inl (Y 0, 6, .inl (fun _ => 0))), (u2 3, .inl (Y 0, 6, .inl (fun _ => 0))), (u2 4, .inl (Y 0, 6, .inl (fun _ => 0))), (u2 5, .inl (Y 0, 6, .inl (fun _ => 0))), (u5 0, .inr (4, [.int 5, .ref (u5 1), .ref (u5 2), .int 0, .ref (u5 3), .ref (u5 4), .ref (u5 5)])), (u5 1, .inl (Y 0, 11, .inl (fun _ => 0))), (u5 2, .inl (Y 0, 11, .inl (fun _ => 0))), (u5 3, .inl (Y 0, 60, .inl (fun _ => 0))), (u5 4, .inl (Y 0, 60, .inl (fun _ => 0))), (u5 5, .inl (Y 0, 60, .inl (fun _ => 0)))] H := hP1
  have hD : va_D A [(b0, .inr (5, [.ref (u2 0), .null, .int 0, .int 0, .int 0, .int 0])), (u2 0, .inr (9, [.int 0, .ref (u2 1), .ref (u2 2), .ref (u2 3), .ref (u2 4), .ref (u2 5)])), (u2 1, .inl (Y 0, 6, .inl (fun _ => 0))), (u2 2, .inl (Y 0, 6, .inl (fun _ => 0))), (u2 3, .inl (Y 0, 6, .inl (fun _ => 0))), (u2 4, .inl (Y 0, 6, .inl (fun _ => 0))), (u2 5, .inl (Y 0, 6, .inl (fun _ => 0))), (u5 0, .inr (4, [.int 5, .ref (u5 1), .ref (u5 2), .int 0, .ref (u5 3), .ref (u5 4), .ref (u5 5)])), (u5 1, .inl (Y 0, 11, .inl (fun _ => 0))), (u5 2, .inl (Y 0, 11, .inl (fun _ => 0))), (u5 3, .inl (Y 0, 60, .inl (fun _ => 0))), (u5 4, .inl (Y 0, 60, .inl (fun _ => 0))), (u5 5, .inl (Y 0, 60, .inl (fun _ => 0)))] := hD1
  refine va_putF (D := (dC, dI)) (ci := 5) (v := .ref (u5 0)) (ty := .object "CircusLedger$Books") (C := RX3) (T := TX3) (N := 6) hx hb hts in_X3_init_X3 tyX3 tyX3_ok nmX3 hown hK hP hD hS 0 rfl rfl 1 (by decide) (hts _ lk_X3_init_RX3_21) (fun _ h9 => h9) rfl hin rfl (by decide +kernel) rfl rfl (Nat.le_of_ble_eq_true rfl) dX3_init_23 (fun H locs hP hD hS => ?_)
  have hP : va_P (dC, dI) vwCl [(b0, .inr (5, [.ref (u2 0), .ref (u5 0), .int 0, .int 0, .int 0, .int 0])), (u2 0, .inr (9, [.int 0, .ref (u2 1), .ref (u2 2), .ref (u2 3), .ref (u2 4), .ref (u2 5)])), (u2 1, .inl (Y 0, 6, .inl (fun _ => 0))), (u2 2, .inl (Y 0, 6, .inl (fun _ => 0))), (u2 3, .inl (Y 0, 6, .inl (fun _ => 0))), (u2 4, .inl (Y 0, 6, .inl (fun _ => 0))), (u2 5, .inl (Y 0, 6, .inl (fun _ => 0))), (u5 0, .inr (4, [.int 5, .ref (u5 1), .ref (u5 2), .int 0, .ref (u5 3), .ref (u5 4), .ref (u5 5)])), (u5 1, .inl (Y 0, 11, .inl (fun _ => 0))), (u5 2, .inl (Y 0, 11, .inl (fun _ => 0))), (u5 3, .inl (Y 0, 60, .inl (fun _ => 0))), (u5 4, .inl (Y 0, 60, .inl (fun _ => 0))), (u5 5, .inl (Y 0, 60, .inl (fun _ => 0)))] H := hP
  have hD : va_D A [(b0, .inr (5, [.ref (u2 0), .ref (u5 0), .int 0, .int 0, .int 0, .int 0])), (u2 0, .inr (9, [.int 0, .ref (u2 1), .ref (u2 2), .ref (u2 3), .ref (u2 4), .ref (u2 5)])), (u2 1, .inl (Y 0, 6, .inl (fun _ => 0))), (u2 2, .inl (Y 0, 6, .inl (fun _ => 0))), (u2 3, .inl (Y 0, 6, .inl (fun _ => 0))), (u2 4, .inl (Y 0, 6, .inl (fun _ => 0))), (u2 5, .inl (Y 0, 6, .inl (fun _ => 0))), (u5 0, .inr (4, [.int 5, .ref (u5 1), .ref (u5 2), .int 0, .ref (u5 3), .ref (u5 4), .ref (u5 5)])), (u5 1, .inl (Y 0, 11, .inl (fun _ => 0))), (u5 2, .inl (Y 0, 11, .inl (fun _ => 0))), (u5 3, .inl (Y 0, 60, .inl (fun _ => 0))), (u5 4, .inl (Y 0, 60, .inl (fun _ => 0))), (u5 5, .inl (Y 0, 60, .inl (fun _ => 0)))] := hD
  have hP9 := hP.sub (ws' := (wX3 Y (fun k => [b0, u2 0, u2 1, u2 2, u2 3, u2 4, u2 5, u5 0, u5 1, u5 2, u5 3, u5 4, u5 5].getD k 0) 0 (fun _ => 0) (fun _ => 0) (fun _ => 0) (fun _ => 0) (fun _ => 0) 5 (fun _ => 0) (fun _ => 0) 0 (fun _ => 0) (fun _ => 0) (fun _ => 0) 0 0 0 0)) [0, 1, 2, 3, 4, 5, 6, 7, 8, 9, 10, 11, 12] rfl
  have hD9 := hD.sub (ws' := (wX3 Y (fun k => [b0, u2 0, u2 1, u2 2, u2 3, u2 4, u2 5, u5 0, u5 1, u5 2, u5 3, u5 4, u5 5].getD k 0) 0 (fun _ => 0) (fun _ => 0) (fun _ => 0) (fun _ => 0) (fun _ => 0) 5 (fun _ => 0) (fun _ => 0) 0 (fun _ => 0) (fun _ => 0) (fun _ => 0) 0 0 0 0)) [0, 1, 2, 3, 4, 5, 6, 7, 8, 9, 10, 11, 12] (by decide) rfl
  refine W.widen (k := 12) (n := 245) (Nat.le_of_ble_eq_true rfl) (Nat.le_of_ble_eq_true rfl) ?_
  exact W.vret hx hb hr (fun t ht hW => ⟨⟨(fun k => [b0, u2 0, u2 1, u2 2, u2 3, u2 4, u2 5, u5 0, u5 1, u5 2, u5 3, u5 4, u5 5].getD k 0), rfl, rfl, by rw [ht]; exact hP9, va_K.moved hW.alike hK, hD9⟩, hS.F ht⟩) hS.2.2 dX3_init_26
theorem lk_X8_init_RX8_9 : Cond.fieldLink RX8 9 "CircusLedger$Settling" "open" "[I" ∈ wsX8_init := by decide +kernel
theorem lk_X8_init_RX8_15 : Cond.fieldLink RX8 15 "CircusLedger$Settling" "sums" "[I" ∈ wsX8_init := by decide +kernel
theorem lk_X8_init_RX8_18 : Cond.fieldLink RX8 18 "CircusLedger$Settling" "groups" "[I" ∈ wsX8_init := by decide +kernel
theorem lk_X8_init_RX8_21 : Cond.fieldLink RX8 21 "CircusLedger$Settling" "transfers" "[I" ∈ wsX8_init := by decide +kernel
theorem in_X8_init_X8 : ∀ w ∈ u_ws RX8 TX8 5, w ∈ wsX8_init := by decide +kernel
theorem oi_X8_init : Cond.methodLink RX8 3 objectInit ∈ wsX8_init ∧ Cond.instanceMethod objectInit ∈ wsX8_init ∧ Cond.code objectInit ⟨#[0xb1]⟩ 1 none ∈ wsX8_init := ⟨by decide +kernel, by decide +kernel, by decide +kernel⟩
theorem nr_X8_init_int : Cond.arrayClass .int ∈ wsX8_init := by decide +kernel
set_option maxHeartbeats 4000000 in
set_option maxRecDepth 100000 in
theorem c_X8_init (l : Launch) (dC : Nat → ClassId) (dI : Nat → Nat → Nat) (Y : Nat → ClassId) (b0 : Nat) (sz : Nat) : Met l yX8_init wsX8_init ({ frames := 1, cells := 4, slots := 6155, locals := 40 } : Room) (va_Pc [.ref b0] (wk_E (dC, dI) Y [(b0, .inr (8, [.int 0, .null, .null, .null, .null]))] sz)) (va_Qv (fun (u : Nat → Nat) => u 0 = b0) (fun u t => wk_X (dC, dI) Y (wX8 Y u 0 (fun _ => 0) (fun _ => 0) (fun _ => 0) (fun _ => 0)) (va_A [(b0, .inr (8, [.int 0, .null, .null, .null, .null]))] sz) t) (va_A [(b0, .inr (8, [.int 0, .null, .null, .null, .null]))] sz)) 4 6155 (va_A [(b0, .inr (8, [.int 0, .null, .null, .null, .null]))] sz) := by
  refine Met.ofW (cc := cX8_init) (maxL := 1) (ret := none) (by decide) rfl ?_
  intro p e s m args below meth c s₁ B hml hv
  obtain ⟨rfl, hsz, hP, hK, hD0⟩ := hv
  have hx := B.exec
  have hb := B.bytes
  have hr := B.returns
  have hts := atoms_spec (ws := wsX8_init) B.pre
  have hown : s.vm.findClass RX8 = some m.cls := findClass_of_methodNamed B.named
  have hlocks := B.notSynchronized
  have hin : meth.name = "<init>" := (name_of_methodNamed B.named B.method).1
  subst hsz
  have hD := hD0.self (sz := s.heap.size)
  generalize hAe : va_A [(b0, .inr (8, [.int 0, .null, .null, .null, .null]))] s.heap.size = A at hD ⊢
  have hA : ∀ q : Nat, s.heap.size ≤ q → A q := fun q h => by rw [← hAe]; exact Or.inr h
  have hS : va_S A s.heap s.heap [] := va_S.rf
  obtain ⟨H, hHe⟩ : ∃ H, H = s.heap := ⟨_, rfl⟩
  have hS : va_S A s.heap H [] := by rw [hHe]; exact hS
  have hP : va_P (dC, dI) vwCl [(b0, .inr (8, [.int 0, .null, .null, .null, .null]))] H := by rw [hHe]; exact hP
  obtain ⟨locs, hlo⟩ : ∃ locs : List Loc, locs = [] := ⟨_, rfl⟩
  have hS : va_S A s.heap H locs := by rw [hlo]; exact hS
  have hl := lv_entry ([.ref b0]) (n := 1) (Nat.le_of_ble_eq_true rfl)
  rw [lg_entry_eq]
  generalize (lg_sl ([.ref b0]) ++ List.replicate (1 - (lg_sl ([.ref b0])).length) Slot.unset).toArray = ls at hl ⊢
  have hl : lv_has ls 1 [(0, .ref b0)] := hl
  refine wk_start hHe hlo ?_
  refine lv_aload_n hx hb dX8_init_0 rfl (lv_at hl 0 rfl) ?_
  refine W.objInit hx hb hown (hts _ oi_X8_init.1) (hts _ oi_X8_init.2.1) (hts _ oi_X8_init.2.2) rfl (by rw [hml]; exact hl.1) rfl dX8_init_1 (Nat.le_of_ble_eq_true rfl) (Nat.le_of_ble_eq_true rfl) ?_
  refine W.eq (g2 := F0 m 4 ls []) rfl ?_
  refine lv_aload_n hx hb dX8_init_4 rfl (lv_at hl 0 rfl) ?_
  refine lv_bipush (v := 11) hx hb dX8_init_5 (by decide) ?_
  refine wk_newi (N := 11) hx hb (hts _ nr_X8_init_int) hK hP hD hS hA (by decide) (by decide) (Nat.le_of_ble_eq_true rfl) (Nat.le_of_ble_eq_true rfl) (Nat.le_of_ble_eq_true rfl) dX8_init_7 (fun n1 H hP hD hS => ?_)
  have hP : va_P (dC, dI) vwCl [(b0, .inr (8, [.int 0, .null, .null, .null, .null])), (n1, .inl (Y 0, 11, .inl (fun _ => 0)))] H := hP
  have hD : va_D A [(b0, .inr (8, [.int 0, .null, .null, .null, .null])), (n1, .inl (Y 0, 11, .inl (fun _ => 0)))] := hD
  refine va_putF (D := (dC, dI)) (ci := 8) (v := .ref n1) (ty := .array .int) (C := RX8) (T := TX8) (N := 5) hx hb hts in_X8_init_X8 tyX8 tyX8_ok nmX8 hown hK hP hD hS 0 rfl rfl 1 (by decide) (hts _ lk_X8_init_RX8_9) (fun _ h9 => h9) rfl hin rfl (by decide +kernel) rfl rfl (Nat.le_of_ble_eq_true rfl) dX8_init_9 (fun H locs hP hD hS => ?_)
  have hP : va_P (dC, dI) vwCl [(b0, .inr (8, [.int 0, .ref n1, .null, .null, .null])), (n1, .inl (Y 0, 11, .inl (fun _ => 0)))] H := hP
  have hD : va_D A [(b0, .inr (8, [.int 0, .ref n1, .null, .null, .null])), (n1, .inl (Y 0, 11, .inl (fun _ => 0)))] := hD
  refine lv_aload_n hx hb dX8_init_12 rfl (lv_at hl 0 rfl) ?_
  refine lv_sipush (v := 2048) hx hb dX8_init_13 (by decide) ?_
  refine wk_newi (N := 2048) hx hb (hts _ nr_X8_init_int) hK hP hD hS hA (by decide) (by decide) (Nat.le_of_ble_eq_true rfl) (Nat.le_of_ble_eq_true rfl) (Nat.le_of_ble_eq_true rfl) dX8_init_16 (fun n2 H hP hD hS => ?_)
  have hP : va_P (dC, dI) vwCl [(b0, .inr (8, [.int 0, .ref n1, .null, .null, .null])), (n1, .inl (Y 0, 11, .inl (fun _ => 0))), (n2, .inl (Y 0, 2048, .inl (fun _ => 0)))] H := hP
  have hD : va_D A [(b0, .inr (8, [.int 0, .ref n1, .null, .null, .null])), (n1, .inl (Y 0, 11, .inl (fun _ => 0))), (n2, .inl (Y 0, 2048, .inl (fun _ => 0)))] := hD
  refine va_putF (D := (dC, dI)) (ci := 8) (v := .ref n2) (ty := .array .int) (C := RX8) (T := TX8) (N := 5) hx hb hts in_X8_init_X8 tyX8 tyX8_ok nmX8 hown hK hP hD hS 0 rfl rfl 2 (by decide) (hts _ lk_X8_init_RX8_15) (fun _ h9 => h9) rfl hin rfl (by decide +kernel) rfl rfl (Nat.le_of_ble_eq_true rfl) dX8_init_18 (fun H locs hP hD hS => ?_)
  have hP : va_P (dC, dI) vwCl [(b0, .inr (8, [.int 0, .ref n1, .ref n2, .null, .null])), (n1, .inl (Y 0, 11, .inl (fun _ => 0))), (n2, .inl (Y 0, 2048, .inl (fun _ => 0)))] H := hP
  have hD : va_D A [(b0, .inr (8, [.int 0, .ref n1, .ref n2, .null, .null])), (n1, .inl (Y 0, 11, .inl (fun _ => 0))), (n2, .inl (Y 0, 2048, .inl (fun _ => 0)))] := hD
  refine lv_aload_n hx hb dX8_init_21 rfl (lv_at hl 0 rfl) ?_
  refine lv_sipush (v := 2048) hx hb dX8_init_22 (by decide) ?_
  refine wk_newi (N := 2048) hx hb (hts _ nr_X8_init_int) hK hP hD hS hA (by decide) (by decide) (Nat.le_of_ble_eq_true rfl) (Nat.le_of_ble_eq_true rfl) (Nat.le_of_ble_eq_true rfl) dX8_init_25 (fun n3 H hP hD hS => ?_)
  have hP : va_P (dC, dI) vwCl [(b0, .inr (8, [.int 0, .ref n1, .ref n2, .null, .null])), (n1, .inl (Y 0, 11, .inl (fun _ => 0))), (n2, .inl (Y 0, 2048, .inl (fun _ => 0))), (n3, .inl (Y 0, 2048, .inl (fun _ => 0)))] H := hP
  have hD : va_D A [(b0, .inr (8, [.int 0, .ref n1, .ref n2, .null, .null])), (n1, .inl (Y 0, 11, .inl (fun _ => 0))), (n2, .inl (Y 0, 2048, .inl (fun _ => 0))), (n3, .inl (Y 0, 2048, .inl (fun _ => 0)))] := hD
  refine va_putF (D := (dC, dI)) (ci := 8) (v := .ref n3) (ty := .array .int) (C := RX8) (T := TX8) (N := 5) hx hb hts in_X8_init_X8 tyX8 tyX8_ok nmX8 hown hK hP hD hS 0 rfl rfl 3 (by decide) (hts _ lk_X8_init_RX8_18) (fun _ h9 => h9) rfl hin rfl (by decide +kernel) rfl rfl (Nat.le_of_ble_eq_true rfl) dX8_init_27 (fun H locs hP hD hS => ?_)
  have hP : va_P (dC, dI) vwCl [(b0, .inr (8, [.int 0, .ref n1, .ref n2, .ref n3, .null])), (n1, .inl (Y 0, 11, .inl (fun _ => 0))), (n2, .inl (Y 0, 2048, .inl (fun _ => 0))), (n3, .inl (Y 0, 2048, .inl (fun _ => 0)))] H := hP
  have hD : va_D A [(b0, .inr (8, [.int 0, .ref n1, .ref n2, .ref n3, .null])), (n1, .inl (Y 0, 11, .inl (fun _ => 0))), (n2, .inl (Y 0, 2048, .inl (fun _ => 0))), (n3, .inl (Y 0, 2048, .inl (fun _ => 0)))] := hD
  refine lv_aload_n hx hb dX8_init_30 rfl (lv_at hl 0 rfl) ?_
  refine lv_sipush (v := 2048) hx hb dX8_init_31 (by decide) ?_
  refine wk_newi (N := 2048) hx hb (hts _ nr_X8_init_int) hK hP hD hS hA (by decide) (by decide) (Nat.le_of_ble_eq_true rfl) (Nat.le_of_ble_eq_true rfl) (Nat.le_of_ble_eq_true rfl) dX8_init_34 (fun n4 H hP hD hS => ?_)
  have hP : va_P (dC, dI) vwCl [(b0, .inr (8, [.int 0, .ref n1, .ref n2, .ref n3, .null])), (n1, .inl (Y 0, 11, .inl (fun _ => 0))), (n2, .inl (Y 0, 2048, .inl (fun _ => 0))), (n3, .inl (Y 0, 2048, .inl (fun _ => 0))), (n4, .inl (Y 0, 2048, .inl (fun _ => 0)))] H := hP
  have hD : va_D A [(b0, .inr (8, [.int 0, .ref n1, .ref n2, .ref n3, .null])), (n1, .inl (Y 0, 11, .inl (fun _ => 0))), (n2, .inl (Y 0, 2048, .inl (fun _ => 0))), (n3, .inl (Y 0, 2048, .inl (fun _ => 0))), (n4, .inl (Y 0, 2048, .inl (fun _ => 0)))] := hD
  refine va_putF (D := (dC, dI)) (ci := 8) (v := .ref n4) (ty := .array .int) (C := RX8) (T := TX8) (N := 5) hx hb hts in_X8_init_X8 tyX8 tyX8_ok nmX8 hown hK hP hD hS 0 rfl rfl 4 (by decide) (hts _ lk_X8_init_RX8_21) (fun _ h9 => h9) rfl hin rfl (by decide +kernel) rfl rfl (Nat.le_of_ble_eq_true rfl) dX8_init_36 (fun H locs hP hD hS => ?_)
  have hP : va_P (dC, dI) vwCl [(b0, .inr (8, [.int 0, .ref n1, .ref n2, .ref n3, .ref n4])), (n1, .inl (Y 0, 11, .inl (fun _ => 0))), (n2, .inl (Y 0, 2048, .inl (fun _ => 0))), (n3, .inl (Y 0, 2048, .inl (fun _ => 0))), (n4, .inl (Y 0, 2048, .inl (fun _ => 0)))] H := hP
  have hD : va_D A [(b0, .inr (8, [.int 0, .ref n1, .ref n2, .ref n3, .ref n4])), (n1, .inl (Y 0, 11, .inl (fun _ => 0))), (n2, .inl (Y 0, 2048, .inl (fun _ => 0))), (n3, .inl (Y 0, 2048, .inl (fun _ => 0))), (n4, .inl (Y 0, 2048, .inl (fun _ => 0)))] := hD
  have hP9 := hP.sub (ws' := (wX8 Y (fun k => [b0, n1, n2, n3, n4].getD k 0) 0 (fun _ => 0) (fun _ => 0) (fun _ => 0) (fun _ => 0))) [0, 1, 2, 3, 4] rfl
  have hD9 := hD.sub (ws' := (wX8 Y (fun k => [b0, n1, n2, n3, n4].getD k 0) 0 (fun _ => 0) (fun _ => 0) (fun _ => 0) (fun _ => 0))) [0, 1, 2, 3, 4] (by decide) rfl
  refine W.widen (k := 4) (n := 6155) (Nat.le_of_ble_eq_true rfl) (Nat.le_of_ble_eq_true rfl) ?_
  exact W.vret hx hb hr (fun t ht hW => ⟨⟨(fun k => [b0, n1, n2, n3, n4].getD k 0), rfl, rfl, by rw [ht]; exact hP9, va_K.moved hW.alike hK, hD9⟩, hS.F ht⟩) hS.2.2 dX8_init_39
theorem lk_X11_init_RX11_7 : Cond.fieldLink RX11 7 "CircusLedgerModel" "g" "[I" ∈ wsX11_init := by decide +kernel
theorem lk_X11_init_RX11_13 : Cond.fieldLink RX11 13 "CircusLedgerModel" "kept" "[I" ∈ wsX11_init := by decide +kernel
theorem lk_X11_init_RX11_16 : Cond.fieldLink RX11 16 "CircusLedgerModel" "saved" "[I" ∈ wsX11_init := by decide +kernel
theorem lk_X11_init_RX11_19 : Cond.fieldLink RX11 19 "CircusLedgerModel" "before" "[I" ∈ wsX11_init := by decide +kernel
theorem lk_X11_init_RX11_22 : Cond.fieldLink RX11 22 "CircusLedgerModel" "input" "[I" ∈ wsX11_init := by decide +kernel
theorem lk_X11_init_RX11_25 : Cond.fieldLink RX11 25 "CircusLedgerModel" "fault" "I" ∈ wsX11_init := by decide +kernel
theorem lk_X11_init_RX11_29 : Cond.fieldLink RX11 29 "CircusLedgerModel" "failed" "I" ∈ wsX11_init := by decide +kernel
theorem lk_X11_init_RX11_32 : Cond.fieldLink RX11 32 "CircusLedgerModel" "signs" "[C" ∈ wsX11_init := by decide +kernel
theorem lk_X11_init_RX11_36 : Cond.fieldLink RX11 36 "CircusLedgerModel" "column" "[I" ∈ wsX11_init := by decide +kernel
theorem lk_X11_init_RX11_39 : Cond.fieldLink RX11 39 "CircusLedgerModel" "loads" "[I" ∈ wsX11_init := by decide +kernel
theorem lk_X11_init_RX11_42 : Cond.fieldLink RX11 42 "CircusLedgerModel" "sums" "[I" ∈ wsX11_init := by decide +kernel
theorem lk_X11_init_RX11_45 : Cond.fieldLink RX11 45 "CircusLedgerModel" "groups" "[I" ∈ wsX11_init := by decide +kernel
theorem lk_X11_init_RX11_48 : Cond.fieldLink RX11 48 "CircusLedgerModel" "told" "[I" ∈ wsX11_init := by decide +kernel
theorem in_X11_init_X11 : ∀ w ∈ u_ws RX11 TX11 22, w ∈ wsX11_init := by decide +kernel
theorem oi_X11_init : Cond.methodLink RX11 1 objectInit ∈ wsX11_init ∧ Cond.instanceMethod objectInit ∈ wsX11_init ∧ Cond.code objectInit ⟨#[0xb1]⟩ 1 none ∈ wsX11_init := ⟨by decide +kernel, by decide +kernel, by decide +kernel⟩
theorem nr_X11_init_char : Cond.arrayClass .char ∈ wsX11_init := by decide +kernel
theorem nr_X11_init_int : Cond.arrayClass .int ∈ wsX11_init := by decide +kernel
set_option maxHeartbeats 4000000 in
set_option maxRecDepth 100000 in
theorem c_X11_init (l : Launch) (dC : Nat → ClassId) (dI : Nat → Nat → Nat) (Y : Nat → ClassId) (b0 : Nat) (sz : Nat) : Met l yX11_init wsX11_init ({ frames := 1, cells := 11, slots := 7041, locals := 40 } : Room) (va_Pc [.ref b0] (wk_E (dC, dI) Y [(b0, .inr (11, [.null, .null, .null, .null, .int 0, .int 0, .int 0, .int 0, .null, .int 0, .int 0, .int 0, .null, .int 0, .null, .null, .int 0, .null, .null, .int 0, .null, .int 0]))] sz)) (va_Qv (fun (u : Nat → Nat) => u 0 = b0) (fun u t => wk_X (dC, dI) Y (wX11 Y u (fun _ => 0) (fun _ => 0) (fun _ => 0) (fun _ => 0) 0 0 0 0 (fun _ => 0) 0 (-1) (-1) (fun _ => 0) 0 (fun _ => 0) (fun _ => 0) 0 (fun _ => 0) (fun _ => 0) 0 (fun _ => 0) 0) (va_A [(b0, .inr (11, [.null, .null, .null, .null, .int 0, .int 0, .int 0, .int 0, .null, .int 0, .int 0, .int 0, .null, .int 0, .null, .null, .int 0, .null, .null, .int 0, .null, .int 0]))] sz) t) (va_A [(b0, .inr (11, [.null, .null, .null, .null, .int 0, .int 0, .int 0, .int 0, .null, .int 0, .int 0, .int 0, .null, .int 0, .null, .null, .int 0, .null, .null, .int 0, .null, .int 0]))] sz)) 11 7041 (va_A [(b0, .inr (11, [.null, .null, .null, .null, .int 0, .int 0, .int 0, .int 0, .null, .int 0, .int 0, .int 0, .null, .int 0, .null, .null, .int 0, .null, .null, .int 0, .null, .int 0]))] sz) := by
  refine Met.ofW (cc := cX11_init) (maxL := 1) (ret := none) (by decide) rfl ?_
  intro p e s m args below meth c s₁ B hml hv
  obtain ⟨rfl, hsz, hP, hK, hD0⟩ := hv
  have hx := B.exec
  have hb := B.bytes
  have hr := B.returns
  have hts := atoms_spec (ws := wsX11_init) B.pre
  have hown : s.vm.findClass RX11 = some m.cls := findClass_of_methodNamed B.named
  have hlocks := B.notSynchronized
  have hin : meth.name = "<init>" := (name_of_methodNamed B.named B.method).1
  subst hsz
  have hD := hD0.self (sz := s.heap.size)
  generalize hAe : va_A [(b0, .inr (11, [.null, .null, .null, .null, .int 0, .int 0, .int 0, .int 0, .null, .int 0, .int 0, .int 0, .null, .int 0, .null, .null, .int 0, .null, .null, .int 0, .null, .int 0]))] s.heap.size = A at hD ⊢
  have hA : ∀ q : Nat, s.heap.size ≤ q → A q := fun q h => by rw [← hAe]; exact Or.inr h
  have hS : va_S A s.heap s.heap [] := va_S.rf
  obtain ⟨H, hHe⟩ : ∃ H, H = s.heap := ⟨_, rfl⟩
  have hS : va_S A s.heap H [] := by rw [hHe]; exact hS
  have hP : va_P (dC, dI) vwCl [(b0, .inr (11, [.null, .null, .null, .null, .int 0, .int 0, .int 0, .int 0, .null, .int 0, .int 0, .int 0, .null, .int 0, .null, .null, .int 0, .null, .null, .int 0, .null, .int 0]))] H := by rw [hHe]; exact hP
  obtain ⟨locs, hlo⟩ : ∃ locs : List Loc, locs = [] := ⟨_, rfl⟩
  have hS : va_S A s.heap H locs := by rw [hlo]; exact hS
  have hl := lv_entry ([.ref b0]) (n := 1) (Nat.le_of_ble_eq_true rfl)
  rw [lg_entry_eq]
  generalize (lg_sl ([.ref b0]) ++ List.replicate (1 - (lg_sl ([.ref b0])).length) Slot.unset).toArray = ls at hl ⊢
  have hl : lv_has ls 1 [(0, .ref b0)] := hl
  refine wk_start hHe hlo ?_
  refine lv_aload_n hx hb dX11_init_0 rfl (lv_at hl 0 rfl) ?_
  refine W.objInit hx hb hown (hts _ oi_X11_init.1) (hts _ oi_X11_init.2.1) (hts _ oi_X11_init.2.2) rfl (by rw [hml]; exact hl.1) rfl dX11_init_1 (Nat.le_of_ble_eq_true rfl) (Nat.le_of_ble_eq_true rfl) ?_
  refine W.eq (g2 := F0 m 4 ls []) rfl ?_
  refine lv_aload_n hx hb dX11_init_4 rfl (lv_at hl 0 rfl) ?_
  refine lv_sipush (v := 238) hx hb dX11_init_5 (by decide) ?_
  refine wk_newi (N := 238) hx hb (hts _ nr_X11_init_int) hK hP hD hS hA (by decide) (by decide) (Nat.le_of_ble_eq_true rfl) (Nat.le_of_ble_eq_true rfl) (Nat.le_of_ble_eq_true rfl) dX11_init_8 (fun n1 H hP hD hS => ?_)
  have hP : va_P (dC, dI) vwCl [(b0, .inr (11, [.null, .null, .null, .null, .int 0, .int 0, .int 0, .int 0, .null, .int 0, .int 0, .int 0, .null, .int 0, .null, .null, .int 0, .null, .null, .int 0, .null, .int 0])), (n1, .inl (Y 0, 238, .inl (fun _ => 0)))] H := hP
  have hD : va_D A [(b0, .inr (11, [.null, .null, .null, .null, .int 0, .int 0, .int 0, .int 0, .null, .int 0, .int 0, .int 0, .null, .int 0, .null, .null, .int 0, .null, .null, .int 0, .null, .int 0])), (n1, .inl (Y 0, 238, .inl (fun _ => 0)))] := hD
  refine va_putF (D := (dC, dI)) (ci := 11) (v := .ref n1) (ty := .array .int) (C := RX11) (T := TX11) (N := 22) hx hb hts in_X11_init_X11 tyX11 tyX11_ok nmX11 hown hK hP hD hS 0 rfl rfl 0 (by decide) (hts _ lk_X11_init_RX11_7) (fun _ h9 => h9) rfl hin rfl (by decide +kernel) rfl rfl (Nat.le_of_ble_eq_true rfl) dX11_init_10 (fun H locs hP hD hS => ?_)
  have hP : va_P (dC, dI) vwCl [(b0, .inr (11, [.ref n1, .null, .null, .null, .int 0, .int 0, .int 0, .int 0, .null, .int 0, .int 0, .int 0, .null, .int 0, .null, .null, .int 0, .null, .null, .int 0, .null, .int 0])), (n1, .inl (Y 0, 238, .inl (fun _ => 0)))] H := hP
  have hD : va_D A [(b0, .inr (11, [.ref n1, .null, .null, .null, .int 0, .int 0, .int 0, .int 0, .null, .int 0, .int 0, .int 0, .null, .int 0, .null, .null, .int 0, .null, .null, .int 0, .null, .int 0])), (n1, .inl (Y 0, 238, .inl (fun _ => 0)))] := hD
  refine lv_aload_n hx hb dX11_init_13 rfl (lv_at hl 0 rfl) ?_
  refine lv_sipush (v := 1904) hx hb dX11_init_14 (by decide) ?_
  refine wk_newi (N := 1904) hx hb (hts _ nr_X11_init_int) hK hP hD hS hA (by decide) (by decide) (Nat.le_of_ble_eq_true rfl) (Nat.le_of_ble_eq_true rfl) (Nat.le_of_ble_eq_true rfl) dX11_init_17 (fun n2 H hP hD hS => ?_)
  have hP : va_P (dC, dI) vwCl [(b0, .inr (11, [.ref n1, .null, .null, .null, .int 0, .int 0, .int 0, .int 0, .null, .int 0, .int 0, .int 0, .null, .int 0, .null, .null, .int 0, .null, .null, .int 0, .null, .int 0])), (n1, .inl (Y 0, 238, .inl (fun _ => 0))), (n2, .inl (Y 0, 1904, .inl (fun _ => 0)))] H := hP
  have hD : va_D A [(b0, .inr (11, [.ref n1, .null, .null, .null, .int 0, .int 0, .int 0, .int 0, .null, .int 0, .int 0, .int 0, .null, .int 0, .null, .null, .int 0, .null, .null, .int 0, .null, .int 0])), (n1, .inl (Y 0, 238, .inl (fun _ => 0))), (n2, .inl (Y 0, 1904, .inl (fun _ => 0)))] := hD
  refine va_putF (D := (dC, dI)) (ci := 11) (v := .ref n2) (ty := .array .int) (C := RX11) (T := TX11) (N := 22) hx hb hts in_X11_init_X11 tyX11 tyX11_ok nmX11 hown hK hP hD hS 0 rfl rfl 1 (by decide) (hts _ lk_X11_init_RX11_13) (fun _ h9 => h9) rfl hin rfl (by decide +kernel) rfl rfl (Nat.le_of_ble_eq_true rfl) dX11_init_19 (fun H locs hP hD hS => ?_)
  have hP : va_P (dC, dI) vwCl [(b0, .inr (11, [.ref n1, .ref n2, .null, .null, .int 0, .int 0, .int 0, .int 0, .null, .int 0, .int 0, .int 0, .null, .int 0, .null, .null, .int 0, .null, .null, .int 0, .null, .int 0])), (n1, .inl (Y 0, 238, .inl (fun _ => 0))), (n2, .inl (Y 0, 1904, .inl (fun _ => 0)))] H := hP
  have hD : va_D A [(b0, .inr (11, [.ref n1, .ref n2, .null, .null, .int 0, .int 0, .int 0, .int 0, .null, .int 0, .int 0, .int 0, .null, .int 0, .null, .null, .int 0, .null, .null, .int 0, .null, .int 0])), (n1, .inl (Y 0, 238, .inl (fun _ => 0))), (n2, .inl (Y 0, 1904, .inl (fun _ => 0)))] := hD
  refine lv_aload_n hx hb dX11_init_22 rfl (lv_at hl 0 rfl) ?_
  refine lv_sipush (v := 238) hx hb dX11_init_23 (by decide) ?_
  refine wk_newi (N := 238) hx hb (hts _ nr_X11_init_int) hK hP hD hS hA (by decide) (by decide) (Nat.le_of_ble_eq_true rfl) (Nat.le_of_ble_eq_true rfl) (Nat.le_of_ble_eq_true rfl) dX11_init_26 (fun n3 H hP hD hS => ?_)
  have hP : va_P (dC, dI) vwCl [(b0, .inr (11, [.ref n1, .ref n2, .null, .null, .int 0, .int 0, .int 0, .int 0, .null, .int 0, .int 0, .int 0, .null, .int 0, .null, .null, .int 0, .null, .null, .int 0, .null, .int 0])), (n1, .inl (Y 0, 238, .inl (fun _ => 0))), (n2, .inl (Y 0, 1904, .inl (fun _ => 0))), (n3, .inl (Y 0, 238, .inl (fun _ => 0)))] H := hP
  have hD : va_D A [(b0, .inr (11, [.ref n1, .ref n2, .null, .null, .int 0, .int 0, .int 0, .int 0, .null, .int 0, .int 0, .int 0, .null, .int 0, .null, .null, .int 0, .null, .null, .int 0, .null, .int 0])), (n1, .inl (Y 0, 238, .inl (fun _ => 0))), (n2, .inl (Y 0, 1904, .inl (fun _ => 0))), (n3, .inl (Y 0, 238, .inl (fun _ => 0)))] := hD
  refine va_putF (D := (dC, dI)) (ci := 11) (v := .ref n3) (ty := .array .int) (C := RX11) (T := TX11) (N := 22) hx hb hts in_X11_init_X11 tyX11 tyX11_ok nmX11 hown hK hP hD hS 0 rfl rfl 2 (by decide) (hts _ lk_X11_init_RX11_16) (fun _ h9 => h9) rfl hin rfl (by decide +kernel) rfl rfl (Nat.le_of_ble_eq_true rfl) dX11_init_28 (fun H locs hP hD hS => ?_)
  have hP : va_P (dC, dI) vwCl [(b0, .inr (11, [.ref n1, .ref n2, .ref n3, .null, .int 0, .int 0, .int 0, .int 0, .null, .int 0, .int 0, .int 0, .null, .int 0, .null, .null, .int 0, .null, .null, .int 0, .null, .int 0])), (n1, .inl (Y 0, 238, .inl (fun _ => 0))), (n2, .inl (Y 0, 1904, .inl (fun _ => 0))), (n3, .inl (Y 0, 238, .inl (fun _ => 0)))] H := hP
  have hD : va_D A [(b0, .inr (11, [.ref n1, .ref n2, .ref n3, .null, .int 0, .int 0, .int 0, .int 0, .null, .int 0, .int 0, .int 0, .null, .int 0, .null, .null, .int 0, .null, .null, .int 0, .null, .int 0])), (n1, .inl (Y 0, 238, .inl (fun _ => 0))), (n2, .inl (Y 0, 1904, .inl (fun _ => 0))), (n3, .inl (Y 0, 238, .inl (fun _ => 0)))] := hD
  refine lv_aload_n hx hb dX11_init_31 rfl (lv_at hl 0 rfl) ?_
  refine lv_sipush (v := 238) hx hb dX11_init_32 (by decide) ?_
  refine wk_newi (N := 238) hx hb (hts _ nr_X11_init_int) hK hP hD hS hA (by decide) (by decide) (Nat.le_of_ble_eq_true rfl) (Nat.le_of_ble_eq_true rfl) (Nat.le_of_ble_eq_true rfl) dX11_init_35 (fun n4 H hP hD hS => ?_)
  have hP : va_P (dC, dI) vwCl [(b0, .inr (11, [.ref n1, .ref n2, .ref n3, .null, .int 0, .int 0, .int 0, .int 0, .null, .int 0, .int 0, .int 0, .null, .int 0, .null, .null, .int 0, .null, .null, .int 0, .null, .int 0])), (n1, .inl (Y 0, 238, .inl (fun _ => 0))), (n2, .inl (Y 0, 1904, .inl (fun _ => 0))), (n3, .inl (Y 0, 238, .inl (fun _ => 0))), (n4, .inl (Y 0, 238, .inl (fun _ => 0)))] H := hP
  have hD : va_D A [(b0, .inr (11, [.ref n1, .ref n2, .ref n3, .null, .int 0, .int 0, .int 0, .int 0, .null, .int 0, .int 0, .int 0, .null, .int 0, .null, .null, .int 0, .null, .null, .int 0, .null, .int 0])), (n1, .inl (Y 0, 238, .inl (fun _ => 0))), (n2, .inl (Y 0, 1904, .inl (fun _ => 0))), (n3, .inl (Y 0, 238, .inl (fun _ => 0))), (n4, .inl (Y 0, 238, .inl (fun _ => 0)))] := hD
  refine va_putF (D := (dC, dI)) (ci := 11) (v := .ref n4) (ty := .array .int) (C := RX11) (T := TX11) (N := 22) hx hb hts in_X11_init_X11 tyX11 tyX11_ok nmX11 hown hK hP hD hS 0 rfl rfl 3 (by decide) (hts _ lk_X11_init_RX11_19) (fun _ h9 => h9) rfl hin rfl (by decide +kernel) rfl rfl (Nat.le_of_ble_eq_true rfl) dX11_init_37 (fun H locs hP hD hS => ?_)
  have hP : va_P (dC, dI) vwCl [(b0, .inr (11, [.ref n1, .ref n2, .ref n3, .ref n4, .int 0, .int 0, .int 0, .int 0, .null, .int 0, .int 0, .int 0, .null, .int 0, .null, .null, .int 0, .null, .null, .int 0, .null, .int 0])), (n1, .inl (Y 0, 238, .inl (fun _ => 0))), (n2, .inl (Y 0, 1904, .inl (fun _ => 0))), (n3, .inl (Y 0, 238, .inl (fun _ => 0))), (n4, .inl (Y 0, 238, .inl (fun _ => 0)))] H := hP
  have hD : va_D A [(b0, .inr (11, [.ref n1, .ref n2, .ref n3, .ref n4, .int 0, .int 0, .int 0, .int 0, .null, .int 0, .int 0, .int 0, .null, .int 0, .null, .null, .int 0, .null, .null, .int 0, .null, .int 0])), (n1, .inl (Y 0, 238, .inl (fun _ => 0))), (n2, .inl (Y 0, 1904, .inl (fun _ => 0))), (n3, .inl (Y 0, 238, .inl (fun _ => 0))), (n4, .inl (Y 0, 238, .inl (fun _ => 0)))] := hD
  refine lv_aload_n hx hb dX11_init_40 rfl (lv_at hl 0 rfl) ?_
  refine lv_bipush (v := 60) hx hb dX11_init_41 (by decide) ?_
  refine wk_newi (N := 60) hx hb (hts _ nr_X11_init_int) hK hP hD hS hA (by decide) (by decide) (Nat.le_of_ble_eq_true rfl) (Nat.le_of_ble_eq_true rfl) (Nat.le_of_ble_eq_true rfl) dX11_init_43 (fun n5 H hP hD hS => ?_)
  have hP : va_P (dC, dI) vwCl [(b0, .inr (11, [.ref n1, .ref n2, .ref n3, .ref n4, .int 0, .int 0, .int 0, .int 0, .null, .int 0, .int 0, .int 0, .null, .int 0, .null, .null, .int 0, .null, .null, .int 0, .null, .int 0])), (n1, .inl (Y 0, 238, .inl (fun _ => 0))), (n2, .inl (Y 0, 1904, .inl (fun _ => 0))), (n3, .inl (Y 0, 238, .inl (fun _ => 0))), (n4, .inl (Y 0, 238, .inl (fun _ => 0))), (n5, .inl (Y 0, 60, .inl (fun _ => 0)))] H := hP
  have hD : va_D A [(b0, .inr (11, [.ref n1, .ref n2, .ref n3, .ref n4, .int 0, .int 0, .int 0, .int 0, .null, .int 0, .int 0, .int 0, .null, .int 0, .null, .null, .int 0, .null, .null, .int 0, .null, .int 0])), (n1, .inl (Y 0, 238, .inl (fun _ => 0))), (n2, .inl (Y 0, 1904, .inl (fun _ => 0))), (n3, .inl (Y 0, 238, .inl (fun _ => 0))), (n4, .inl (Y 0, 238, .inl (fun _ => 0))), (n5, .inl (Y 0, 60, .inl (fun _ => 0)))] := hD
  refine va_putF (D := (dC, dI)) (ci := 11) (v := .ref n5) (ty := .array .int) (C := RX11) (T := TX11) (N := 22) hx hb hts in_X11_init_X11 tyX11 tyX11_ok nmX11 hown hK hP hD hS 0 rfl rfl 8 (by decide) (hts _ lk_X11_init_RX11_22) (fun _ h9 => h9) rfl hin rfl (by decide +kernel) rfl rfl (Nat.le_of_ble_eq_true rfl) dX11_init_45 (fun H locs hP hD hS => ?_)
  have hP : va_P (dC, dI) vwCl [(b0, .inr (11, [.ref n1, .ref n2, .ref n3, .ref n4, .int 0, .int 0, .int 0, .int 0, .ref n5, .int 0, .int 0, .int 0, .null, .int 0, .null, .null, .int 0, .null, .null, .int 0, .null, .int 0])), (n1, .inl (Y 0, 238, .inl (fun _ => 0))), (n2, .inl (Y 0, 1904, .inl (fun _ => 0))), (n3, .inl (Y 0, 238, .inl (fun _ => 0))), (n4, .inl (Y 0, 238, .inl (fun _ => 0))), (n5, .inl (Y 0, 60, .inl (fun _ => 0)))] H := hP
  have hD : va_D A [(b0, .inr (11, [.ref n1, .ref n2, .ref n3, .ref n4, .int 0, .int 0, .int 0, .int 0, .ref n5, .int 0, .int 0, .int 0, .null, .int 0, .null, .null, .int 0, .null, .null, .int 0, .null, .int 0])), (n1, .inl (Y 0, 238, .inl (fun _ => 0))), (n2, .inl (Y 0, 1904, .inl (fun _ => 0))), (n3, .inl (Y 0, 238, .inl (fun _ => 0))), (n4, .inl (Y 0, 238, .inl (fun _ => 0))), (n5, .inl (Y 0, 60, .inl (fun _ => 0)))] := hD
  refine lv_aload_n hx hb dX11_init_48 rfl (lv_at hl 0 rfl) ?_
  refine lv_iconst (v := (-1)) hx hb dX11_init_49 (by decide) ?_
  refine va_put (D := (dC, dI)) (ci := 11) (v := .int (-1)) (ty := .int) (C := RX11) (T := TX11) (N := 22) hx hb hts in_X11_init_X11 tyX11 tyX11_ok nmX11 hown hK hP hD hS 0 rfl rfl 10 (by decide) (hts _ lk_X11_init_RX11_25) (fun _ h9 => h9) rfl (by decide +kernel) rfl rfl (Nat.le_of_ble_eq_true rfl) dX11_init_50 (fun H locs hP hD hS => ?_)
  have hP : va_P (dC, dI) vwCl [(b0, .inr (11, [.ref n1, .ref n2, .ref n3, .ref n4, .int 0, .int 0, .int 0, .int 0, .ref n5, .int 0, .int (-1), .int 0, .null, .int 0, .null, .null, .int 0, .null, .null, .int 0, .null, .int 0])), (n1, .inl (Y 0, 238, .inl (fun _ => 0))), (n2, .inl (Y 0, 1904, .inl (fun _ => 0))), (n3, .inl (Y 0, 238, .inl (fun _ => 0))), (n4, .inl (Y 0, 238, .inl (fun _ => 0))), (n5, .inl (Y 0, 60, .inl (fun _ => 0)))] H := hP
  have hD : va_D A [(b0, .inr (11, [.ref n1, .ref n2, .ref n3, .ref n4, .int 0, .int 0, .int 0, .int 0, .ref n5, .int 0, .int (-1), .int 0, .null, .int 0, .null, .null, .int 0, .null, .null, .int 0, .null, .int 0])), (n1, .inl (Y 0, 238, .inl (fun _ => 0))), (n2, .inl (Y 0, 1904, .inl (fun _ => 0))), (n3, .inl (Y 0, 238, .inl (fun _ => 0))), (n4, .inl (Y 0, 238, .inl (fun _ => 0))), (n5, .inl (Y 0, 60, .inl (fun _ => 0)))] := hD
  refine lv_aload_n hx hb dX11_init_53 rfl (lv_at hl 0 rfl) ?_
  refine lv_iconst (v := (-1)) hx hb dX11_init_54 (by decide) ?_
  refine va_put (D := (dC, dI)) (ci := 11) (v := .int (-1)) (ty := .int) (C := RX11) (T := TX11) (N := 22) hx hb hts in_X11_init_X11 tyX11 tyX11_ok nmX11 hown hK hP hD hS 0 rfl rfl 11 (by decide) (hts _ lk_X11_init_RX11_29) (fun _ h9 => h9) rfl (by decide +kernel) rfl rfl (Nat.le_of_ble_eq_true rfl) dX11_init_55 (fun H locs hP hD hS => ?_)
  have hP : va_P (dC, dI) vwCl [(b0, .inr (11, [.ref n1, .ref n2, .ref n3, .ref n4, .int 0, .int 0, .int 0, .int 0, .ref n5, .int 0, .int (-1), .int (-1), .null, .int 0, .null, .null, .int 0, .null, .null, .int 0, .null, .int 0])), (n1, .inl (Y 0, 238, .inl (fun _ => 0))), (n2, .inl (Y 0, 1904, .inl (fun _ => 0))), (n3, .inl (Y 0, 238, .inl (fun _ => 0))), (n4, .inl (Y 0, 238, .inl (fun _ => 0))), (n5, .inl (Y 0, 60, .inl (fun _ => 0)))] H := hP
  have hD : va_D A [(b0, .inr (11, [.ref n1, .ref n2, .ref n3, .ref n4, .int 0, .int 0, .int 0, .int 0, .ref n5, .int 0, .int (-1), .int (-1), .null, .int 0, .null, .null, .int 0, .null, .null, .int 0, .null, .int 0])), (n1, .inl (Y 0, 238, .inl (fun _ => 0))), (n2, .inl (Y 0, 1904, .inl (fun _ => 0))), (n3, .inl (Y 0, 238, .inl (fun _ => 0))), (n4, .inl (Y 0, 238, .inl (fun _ => 0))), (n5, .inl (Y 0, 60, .inl (fun _ => 0)))] := hD
  refine lv_aload_n hx hb dX11_init_58 rfl (lv_at hl 0 rfl) ?_
  refine lv_bipush (v := 100) hx hb dX11_init_59 (by decide) ?_
  refine wk_newc (N := 100) hx hb (hts _ nr_X11_init_char) hK hP hD hS hA (by decide) (by decide) (Nat.le_of_ble_eq_true rfl) (Nat.le_of_ble_eq_true rfl) (Nat.le_of_ble_eq_true rfl) dX11_init_61 (fun n6 H hP hD hS => ?_)
  have hP : va_P (dC, dI) vwCl [(b0, .inr (11, [.ref n1, .ref n2, .ref n3, .ref n4, .int 0, .int 0, .int 0, .int 0, .ref n5, .int 0, .int (-1), .int (-1), .null, .int 0, .null, .null, .int 0, .null, .null, .int 0, .null, .int 0])), (n1, .inl (Y 0, 238, .inl (fun _ => 0))), (n2, .inl (Y 0, 1904, .inl (fun _ => 0))), (n3, .inl (Y 0, 238, .inl (fun _ => 0))), (n4, .inl (Y 0, 238, .inl (fun _ => 0))), (n5, .inl (Y 0, 60, .inl (fun _ => 0))), (n6, .inl (Y 2, 100, .inl (fun _ => 0)))] H := hP
  have hD : va_D A [(b0, .inr (11, [.ref n1, .ref n2, .ref n3, .ref n4, .int 0, .int 0, .int 0, .int 0, .ref n5, .int 0, .int (-1), .int (-1), .null, .int 0, .null, .null, .int 0, .null, .null, .int 0, .null, .int 0])), (n1, .inl (Y 0, 238, .inl (fun _ => 0))), (n2, .inl (Y 0, 1904, .inl (fun _ => 0))), (n3, .inl (Y 0, 238, .inl (fun _ => 0))), (n4, .inl (Y 0, 238, .inl (fun _ => 0))), (n5, .inl (Y 0, 60, .inl (fun _ => 0))), (n6, .inl (Y 2, 100, .inl (fun _ => 0)))] := hD
  refine va_putF (D := (dC, dI)) (ci := 11) (v := .ref n6) (ty := .array .char) (C := RX11) (T := TX11) (N := 22) hx hb hts in_X11_init_X11 tyX11 tyX11_ok nmX11 hown hK hP hD hS 0 rfl rfl 12 (by decide) (hts _ lk_X11_init_RX11_32) (fun _ h9 => h9) rfl hin rfl (by decide +kernel) rfl rfl (Nat.le_of_ble_eq_true rfl) dX11_init_63 (fun H locs hP hD hS => ?_)
  have hP : va_P (dC, dI) vwCl [(b0, .inr (11, [.ref n1, .ref n2, .ref n3, .ref n4, .int 0, .int 0, .int 0, .int 0, .ref n5, .int 0, .int (-1), .int (-1), .ref n6, .int 0, .null, .null, .int 0, .null, .null, .int 0, .null, .int 0])), (n1, .inl (Y 0, 238, .inl (fun _ => 0))), (n2, .inl (Y 0, 1904, .inl (fun _ => 0))), (n3, .inl (Y 0, 238, .inl (fun _ => 0))), (n4, .inl (Y 0, 238, .inl (fun _ => 0))), (n5, .inl (Y 0, 60, .inl (fun _ => 0))), (n6, .inl (Y 2, 100, .inl (fun _ => 0)))] H := hP
  have hD : va_D A [(b0, .inr (11, [.ref n1, .ref n2, .ref n3, .ref n4, .int 0, .int 0, .int 0, .int 0, .ref n5, .int 0, .int (-1), .int (-1), .ref n6, .int 0, .null, .null, .int 0, .null, .null, .int 0, .null, .int 0])), (n1, .inl (Y 0, 238, .inl (fun _ => 0))), (n2, .inl (Y 0, 1904, .inl (fun _ => 0))), (n3, .inl (Y 0, 238, .inl (fun _ => 0))), (n4, .inl (Y 0, 238, .inl (fun _ => 0))), (n5, .inl (Y 0, 60, .inl (fun _ => 0))), (n6, .inl (Y 2, 100, .inl (fun _ => 0)))] := hD
  refine lv_aload_n hx hb dX11_init_66 rfl (lv_at hl 0 rfl) ?_
  refine lv_bipush (v := 6) hx hb dX11_init_67 (by decide) ?_
  refine wk_newi (N := 6) hx hb (hts _ nr_X11_init_int) hK hP hD hS hA (by decide) (by decide) (Nat.le_of_ble_eq_true rfl) (Nat.le_of_ble_eq_true rfl) (Nat.le_of_ble_eq_true rfl) dX11_init_69 (fun n7 H hP hD hS => ?_)
  have hP : va_P (dC, dI) vwCl [(b0, .inr (11, [.ref n1, .ref n2, .ref n3, .ref n4, .int 0, .int 0, .int 0, .int 0, .ref n5, .int 0, .int (-1), .int (-1), .ref n6, .int 0, .null, .null, .int 0, .null, .null, .int 0, .null, .int 0])), (n1, .inl (Y 0, 238, .inl (fun _ => 0))), (n2, .inl (Y 0, 1904, .inl (fun _ => 0))), (n3, .inl (Y 0, 238, .inl (fun _ => 0))), (n4, .inl (Y 0, 238, .inl (fun _ => 0))), (n5, .inl (Y 0, 60, .inl (fun _ => 0))), (n6, .inl (Y 2, 100, .inl (fun _ => 0))), (n7, .inl (Y 0, 6, .inl (fun _ => 0)))] H := hP
  have hD : va_D A [(b0, .inr (11, [.ref n1, .ref n2, .ref n3, .ref n4, .int 0, .int 0, .int 0, .int 0, .ref n5, .int 0, .int (-1), .int (-1), .ref n6, .int 0, .null, .null, .int 0, .null, .null, .int 0, .null, .int 0])), (n1, .inl (Y 0, 238, .inl (fun _ => 0))), (n2, .inl (Y 0, 1904, .inl (fun _ => 0))), (n3, .inl (Y 0, 238, .inl (fun _ => 0))), (n4, .inl (Y 0, 238, .inl (fun _ => 0))), (n5, .inl (Y 0, 60, .inl (fun _ => 0))), (n6, .inl (Y 2, 100, .inl (fun _ => 0))), (n7, .inl (Y 0, 6, .inl (fun _ => 0)))] := hD
  refine va_putF (D := (dC, dI)) (ci := 11) (v := .ref n7) (ty := .array .int) (C := RX11) (T := TX11) (N := 22) hx hb hts in_X11_init_X11 tyX11 tyX11_ok nmX11 hown hK hP hD hS 0 rfl rfl 14 (by decide) (hts _ lk_X11_init_RX11_36) (fun _ h9 => h9) rfl hin rfl (by decide +kernel) rfl rfl (Nat.le_of_ble_eq_true rfl) dX11_init_71 (fun H locs hP hD hS => ?_)
  have hP : va_P (dC, dI) vwCl [(b0, .inr (11, [.ref n1, .ref n2, .ref n3, .ref n4, .int 0, .int 0, .int 0, .int 0, .ref n5, .int 0, .int (-1), .int (-1), .ref n6, .int 0, .ref n7, .null, .int 0, .null, .null, .int 0, .null, .int 0])), (n1, .inl (Y 0, 238, .inl (fun _ => 0))), (n2, .inl (Y 0, 1904, .inl (fun _ => 0))), (n3, .inl (Y 0, 238, .inl (fun _ => 0))), (n4, .inl (Y 0, 238, .inl (fun _ => 0))), (n5, .inl (Y 0, 60, .inl (fun _ => 0))), (n6, .inl (Y 2, 100, .inl (fun _ => 0))), (n7, .inl (Y 0, 6, .inl (fun _ => 0)))] H := hP
  have hD : va_D A [(b0, .inr (11, [.ref n1, .ref n2, .ref n3, .ref n4, .int 0, .int 0, .int 0, .int 0, .ref n5, .int 0, .int (-1), .int (-1), .ref n6, .int 0, .ref n7, .null, .int 0, .null, .null, .int 0, .null, .int 0])), (n1, .inl (Y 0, 238, .inl (fun _ => 0))), (n2, .inl (Y 0, 1904, .inl (fun _ => 0))), (n3, .inl (Y 0, 238, .inl (fun _ => 0))), (n4, .inl (Y 0, 238, .inl (fun _ => 0))), (n5, .inl (Y 0, 60, .inl (fun _ => 0))), (n6, .inl (Y 2, 100, .inl (fun _ => 0))), (n7, .inl (Y 0, 6, .inl (fun _ => 0)))] := hD
  refine lv_aload_n hx hb dX11_init_74 rfl (lv_at hl 0 rfl) ?_
  refine lv_bipush (v := 6) hx hb dX11_init_75 (by decide) ?_
  refine wk_newi (N := 6) hx hb (hts _ nr_X11_init_int) hK hP hD hS hA (by decide) (by decide) (Nat.le_of_ble_eq_true rfl) (Nat.le_of_ble_eq_true rfl) (Nat.le_of_ble_eq_true rfl) dX11_init_77 (fun n8 H hP hD hS => ?_)
  have hP : va_P (dC, dI) vwCl [(b0, .inr (11, [.ref n1, .ref n2, .ref n3, .ref n4, .int 0, .int 0, .int 0, .int 0, .ref n5, .int 0, .int (-1), .int (-1), .ref n6, .int 0, .ref n7, .null, .int 0, .null, .null, .int 0, .null, .int 0])), (n1, .inl (Y 0, 238, .inl (fun _ => 0))), (n2, .inl (Y 0, 1904, .inl (fun _ => 0))), (n3, .inl (Y 0, 238, .inl (fun _ => 0))), (n4, .inl (Y 0, 238, .inl (fun _ => 0))), (n5, .inl (Y 0, 60, .inl (fun _ => 0))), (n6, .inl (Y 2, 100, .inl (fun _ => 0))), (n7, .inl (Y 0, 6, .inl (fun _ => 0))), (n8, .inl (Y 0, 6, .inl (fun _ => 0)))] H := hP
  have hD : va_D A [(b0, .inr (11, [.ref n1, .ref n2, .ref n3, .ref n4, .int 0, .int 0, .int 0, .int 0, .ref n5, .int 0, .int (-1), .int (-1), .ref n6, .int 0, .ref n7, .null, .int 0, .null, .null, .int 0, .null, .int 0])), (n1, .inl (Y 0, 238, .inl (fun _ => 0))), (n2, .inl (Y 0, 1904, .inl (fun _ => 0))), (n3, .inl (Y 0, 238, .inl (fun _ => 0))), (n4, .inl (Y 0, 238, .inl (fun _ => 0))), (n5, .inl (Y 0, 60, .inl (fun _ => 0))), (n6, .inl (Y 2, 100, .inl (fun _ => 0))), (n7, .inl (Y 0, 6, .inl (fun _ => 0))), (n8, .inl (Y 0, 6, .inl (fun _ => 0)))] := hD
  refine va_putF (D := (dC, dI)) (ci := 11) (v := .ref n8) (ty := .array .int) (C := RX11) (T := TX11) (N := 22) hx hb hts in_X11_init_X11 tyX11 tyX11_ok nmX11 hown hK hP hD hS 0 rfl rfl 15 (by decide) (hts _ lk_X11_init_RX11_39) (fun _ h9 => h9) rfl hin rfl (by decide +kernel) rfl rfl (Nat.le_of_ble_eq_true rfl) dX11_init_79 (fun H locs hP hD hS => ?_)
  have hP : va_P (dC, dI) vwCl [(b0, .inr (11, [.ref n1, .ref n2, .ref n3, .ref n4, .int 0, .int 0, .int 0, .int 0, .ref n5, .int 0, .int (-1), .int (-1), .ref n6, .int 0, .ref n7, .ref n8, .int 0, .null, .null, .int 0, .null, .int 0])), (n1, .inl (Y 0, 238, .inl (fun _ => 0))), (n2, .inl (Y 0, 1904, .inl (fun _ => 0))), (n3, .inl (Y 0, 238, .inl (fun _ => 0))), (n4, .inl (Y 0, 238, .inl (fun _ => 0))), (n5, .inl (Y 0, 60, .inl (fun _ => 0))), (n6, .inl (Y 2, 100, .inl (fun _ => 0))), (n7, .inl (Y 0, 6, .inl (fun _ => 0))), (n8, .inl (Y 0, 6, .inl (fun _ => 0)))] H := hP
  have hD : va_D A [(b0, .inr (11, [.ref n1, .ref n2, .ref n3, .ref n4, .int 0, .int 0, .int 0, .int 0, .ref n5, .int 0, .int (-1), .int (-1), .ref n6, .int 0, .ref n7, .ref n8, .int 0, .null, .null, .int 0, .null, .int 0])), (n1, .inl (Y 0, 238, .inl (fun _ => 0))), (n2, .inl (Y 0, 1904, .inl (fun _ => 0))), (n3, .inl (Y 0, 238, .inl (fun _ => 0))), (n4, .inl (Y 0, 238, .inl (fun _ => 0))), (n5, .inl (Y 0, 60, .inl (fun _ => 0))), (n6, .inl (Y 2, 100, .inl (fun _ => 0))), (n7, .inl (Y 0, 6, .inl (fun _ => 0))), (n8, .inl (Y 0, 6, .inl (fun _ => 0)))] := hD
  refine lv_aload_n hx hb dX11_init_82 rfl (lv_at hl 0 rfl) ?_
  refine lv_sipush (v := 2048) hx hb dX11_init_83 (by decide) ?_
  refine wk_newi (N := 2048) hx hb (hts _ nr_X11_init_int) hK hP hD hS hA (by decide) (by decide) (Nat.le_of_ble_eq_true rfl) (Nat.le_of_ble_eq_true rfl) (Nat.le_of_ble_eq_true rfl) dX11_init_86 (fun n9 H hP hD hS => ?_)
  have hP : va_P (dC, dI) vwCl [(b0, .inr (11, [.ref n1, .ref n2, .ref n3, .ref n4, .int 0, .int 0, .int 0, .int 0, .ref n5, .int 0, .int (-1), .int (-1), .ref n6, .int 0, .ref n7, .ref n8, .int 0, .null, .null, .int 0, .null, .int 0])), (n1, .inl (Y 0, 238, .inl (fun _ => 0))), (n2, .inl (Y 0, 1904, .inl (fun _ => 0))), (n3, .inl (Y 0, 238, .inl (fun _ => 0))), (n4, .inl (Y 0, 238, .inl (fun _ => 0))), (n5, .inl (Y 0, 60, .inl (fun _ => 0))), (n6, .inl (Y 2, 100, .inl (fun _ => 0))), (n7, .inl (Y 0, 6, .inl (fun _ => 0))), (n8, .inl (Y 0, 6, .inl (fun _ => 0))), (n9, .inl (Y 0, 2048, .inl (fun _ => 0)))] H := hP
  have hD : va_D A [(b0, .inr (11, [.ref n1, .ref n2, .ref n3, .ref n4, .int 0, .int 0, .int 0, .int 0, .ref n5, .int 0, .int (-1), .int (-1), .ref n6, .int 0, .ref n7, .ref n8, .int 0, .null, .null, .int 0, .null, .int 0])), (n1, .inl (Y 0, 238, .inl (fun _ => 0))), (n2, .inl (Y 0, 1904, .inl (fun _ => 0))), (n3, .inl (Y 0, 238, .inl (fun _ => 0))), (n4, .inl (Y 0, 238, .inl (fun _ => 0))), (n5, .inl (Y 0, 60, .inl (fun _ => 0))), (n6, .inl (Y 2, 100, .inl (fun _ => 0))), (n7, .inl (Y 0, 6, .inl (fun _ => 0))), (n8, .inl (Y 0, 6, .inl (fun _ => 0))), (n9, .inl (Y 0, 2048, .inl (fun _ => 0)))] := hD
  refine va_putF (D := (dC, dI)) (ci := 11) (v := .ref n9) (ty := .array .int) (C := RX11) (T := TX11) (N := 22) hx hb hts in_X11_init_X11 tyX11 tyX11_ok nmX11 hown hK hP hD hS 0 rfl rfl 17 (by decide) (hts _ lk_X11_init_RX11_42) (fun _ h9 => h9) rfl hin rfl (by decide +kernel) rfl rfl (Nat.le_of_ble_eq_true rfl) dX11_init_88 (fun H locs hP hD hS => ?_)
  have hP : va_P (dC, dI) vwCl [(b0, .inr (11, [.ref n1, .ref n2, .ref n3, .ref n4, .int 0, .int 0, .int 0, .int 0, .ref n5, .int 0, .int (-1), .int (-1), .ref n6, .int 0, .ref n7, .ref n8, .int 0, .ref n9, .null, .int 0, .null, .int 0])), (n1, .inl (Y 0, 238, .inl (fun _ => 0))), (n2, .inl (Y 0, 1904, .inl (fun _ => 0))), (n3, .inl (Y 0, 238, .inl (fun _ => 0))), (n4, .inl (Y 0, 238, .inl (fun _ => 0))), (n5, .inl (Y 0, 60, .inl (fun _ => 0))), (n6, .inl (Y 2, 100, .inl (fun _ => 0))), (n7, .inl (Y 0, 6, .inl (fun _ => 0))), (n8, .inl (Y 0, 6, .inl (fun _ => 0))), (n9, .inl (Y 0, 2048, .inl (fun _ => 0)))] H := hP
  have hD : va_D A [(b0, .inr (11, [.ref n1, .ref n2, .ref n3, .ref n4, .int 0, .int 0, .int 0, .int 0, .ref n5, .int 0, .int (-1), .int (-1), .ref n6, .int 0, .ref n7, .ref n8, .int 0, .ref n9, .null, .int 0, .null, .int 0])), (n1, .inl (Y 0, 238, .inl (fun _ => 0))), (n2, .inl (Y 0, 1904, .inl (fun _ => 0))), (n3, .inl (Y 0, 238, .inl (fun _ => 0))), (n4, .inl (Y 0, 238, .inl (fun _ => 0))), (n5, .inl (Y 0, 60, .inl (fun _ => 0))), (n6, .inl (Y 2, 100, .inl (fun _ => 0))), (n7, .inl (Y 0, 6, .inl (fun _ => 0))), (n8, .inl (Y 0, 6, .inl (fun _ => 0))), (n9, .inl (Y 0, 2048, .inl (fun _ => 0)))] := hD
  refine lv_aload_n hx hb dX11_init_91 rfl (lv_at hl 0 rfl) ?_
  refine lv_sipush (v := 2048) hx hb dX11_init_92 (by decide) ?_
  refine wk_newi (N := 2048) hx hb (hts _ nr_X11_init_int) hK hP hD hS hA (by decide) (by decide) (Nat.le_of_ble_eq_true rfl) (Nat.le_of_ble_eq_true rfl) (Nat.le_of_ble_eq_true rfl) dX11_init_95 (fun n10 H hP hD hS => ?_)
  have hP : va_P (dC, dI) vwCl [(b0, .inr (11, [.ref n1, .ref n2, .ref n3, .ref n4, .int 0, .int 0, .int 0, .int 0, .ref n5, .int 0, .int (-1), .int (-1), .ref n6, .int 0, .ref n7, .ref n8, .int 0, .ref n9, .null, .int 0, .null, .int 0])), (n1, .inl (Y 0, 238, .inl (fun _ => 0))), (n2, .inl (Y 0, 1904, .inl (fun _ => 0))), (n3, .inl (Y 0, 238, .inl (fun _ => 0))), (n4, .inl (Y 0, 238, .inl (fun _ => 0))), (n5, .inl (Y 0, 60, .inl (fun _ => 0))), (n6, .inl (Y 2, 100, .inl (fun _ => 0))), (n7, .inl (Y 0, 6, .inl (fun _ => 0))), (n8, .inl (Y 0, 6, .inl (fun _ => 0))), (n9, .inl (Y 0, 2048, .inl (fun _ => 0))), (n10, .inl (Y 0, 2048, .inl (fun _ => 0)))] H := hP
  have hD : va_D A [(b0, .inr (11, [.ref n1, .ref n2, .ref n3, .ref n4, .int 0, .int 0, .int 0, .int 0, .ref n5, .int 0, .int (-1), .int (-1), .ref n6, .int 0, .ref n7, .ref n8, .int 0, .ref n9, .null, .int 0, .null, .int 0])), (n1, .inl (Y 0, 238, .inl (fun _ => 0))), (n2, .inl (Y 0, 1904, .inl (fun _ => 0))), (n3, .inl (Y 0, 238, .inl (fun _ => 0))), (n4, .inl (Y 0, 238, .inl (fun _ => 0))), (n5, .inl (Y 0, 60, .inl (fun _ => 0))), (n6, .inl (Y 2, 100, .inl (fun _ => 0))), (n7, .inl (Y 0, 6, .inl (fun _ => 0))), (n8, .inl (Y 0, 6, .inl (fun _ => 0))), (n9, .inl (Y 0, 2048, .inl (fun _ => 0))), (n10, .inl (Y 0, 2048, .inl (fun _ => 0)))] := hD
  refine va_putF (D := (dC, dI)) (ci := 11) (v := .ref n10) (ty := .array .int) (C := RX11) (T := TX11) (N := 22) hx hb hts in_X11_init_X11 tyX11 tyX11_ok nmX11 hown hK hP hD hS 0 rfl rfl 18 (by decide) (hts _ lk_X11_init_RX11_45) (fun _ h9 => h9) rfl hin rfl (by decide +kernel) rfl rfl (Nat.le_of_ble_eq_true rfl) dX11_init_97 (fun H locs hP hD hS => ?_)
  have hP : va_P (dC, dI) vwCl [(b0, .inr (11, [.ref n1, .ref n2, .ref n3, .ref n4, .int 0, .int 0, .int 0, .int 0, .ref n5, .int 0, .int (-1), .int (-1), .ref n6, .int 0, .ref n7, .ref n8, .int 0, .ref n9, .ref n10, .int 0, .null, .int 0])), (n1, .inl (Y 0, 238, .inl (fun _ => 0))), (n2, .inl (Y 0, 1904, .inl (fun _ => 0))), (n3, .inl (Y 0, 238, .inl (fun _ => 0))), (n4, .inl (Y 0, 238, .inl (fun _ => 0))), (n5, .inl (Y 0, 60, .inl (fun _ => 0))), (n6, .inl (Y 2, 100, .inl (fun _ => 0))), (n7, .inl (Y 0, 6, .inl (fun _ => 0))), (n8, .inl (Y 0, 6, .inl (fun _ => 0))), (n9, .inl (Y 0, 2048, .inl (fun _ => 0))), (n10, .inl (Y 0, 2048, .inl (fun _ => 0)))] H := hP
  have hD : va_D A [(b0, .inr (11, [.ref n1, .ref n2, .ref n3, .ref n4, .int 0, .int 0, .int 0, .int 0, .ref n5, .int 0, .int (-1), .int (-1), .ref n6, .int 0, .ref n7, .ref n8, .int 0, .ref n9, .ref n10, .int 0, .null, .int 0])), (n1, .inl (Y 0, 238, .inl (fun _ => 0))), (n2, .inl (Y 0, 1904, .inl (fun _ => 0))), (n3, .inl (Y 0, 238, .inl (fun _ => 0))), (n4, .inl (Y 0, 238, .inl (fun _ => 0))), (n5, .inl (Y 0, 60, .inl (fun _ => 0))), (n6, .inl (Y 2, 100, .inl (fun _ => 0))), (n7, .inl (Y 0, 6, .inl (fun _ => 0))), (n8, .inl (Y 0, 6, .inl (fun _ => 0))), (n9, .inl (Y 0, 2048, .inl (fun _ => 0))), (n10, .inl (Y 0, 2048, .inl (fun _ => 0)))] := hD
  refine lv_aload_n hx hb dX11_init_100 rfl (lv_at hl 0 rfl) ?_
  refine lv_sipush (v := 155) hx hb dX11_init_101 (by decide) ?_
  refine wk_newi (N := 155) hx hb (hts _ nr_X11_init_int) hK hP hD hS hA (by decide) (by decide) (Nat.le_of_ble_eq_true rfl) (Nat.le_of_ble_eq_true rfl) (Nat.le_of_ble_eq_true rfl) dX11_init_104 (fun n11 H hP hD hS => ?_)
  have hP : va_P (dC, dI) vwCl [(b0, .inr (11, [.ref n1, .ref n2, .ref n3, .ref n4, .int 0, .int 0, .int 0, .int 0, .ref n5, .int 0, .int (-1), .int (-1), .ref n6, .int 0, .ref n7, .ref n8, .int 0, .ref n9, .ref n10, .int 0, .null, .int 0])), (n1, .inl (Y 0, 238, .inl (fun _ => 0))), (n2, .inl (Y 0, 1904, .inl (fun _ => 0))), (n3, .inl (Y 0, 238, .inl (fun _ => 0))), (n4, .inl (Y 0, 238, .inl (fun _ => 0))), (n5, .inl (Y 0, 60, .inl (fun _ => 0))), (n6, .inl (Y 2, 100, .inl (fun _ => 0))), (n7, .inl (Y 0, 6, .inl (fun _ => 0))), (n8, .inl (Y 0, 6, .inl (fun _ => 0))), (n9, .inl (Y 0, 2048, .inl (fun _ => 0))), (n10, .inl (Y 0, 2048, .inl (fun _ => 0))), (n11, .inl (Y 0, 155, .inl (fun _ => 0)))] H := hP
  have hD : va_D A [(b0, .inr (11, [.ref n1, .ref n2, .ref n3, .ref n4, .int 0, .int 0, .int 0, .int 0, .ref n5, .int 0, .int (-1), .int (-1), .ref n6, .int 0, .ref n7, .ref n8, .int 0, .ref n9, .ref n10, .int 0, .null, .int 0])), (n1, .inl (Y 0, 238, .inl (fun _ => 0))), (n2, .inl (Y 0, 1904, .inl (fun _ => 0))), (n3, .inl (Y 0, 238, .inl (fun _ => 0))), (n4, .inl (Y 0, 238, .inl (fun _ => 0))), (n5, .inl (Y 0, 60, .inl (fun _ => 0))), (n6, .inl (Y 2, 100, .inl (fun _ => 0))), (n7, .inl (Y 0, 6, .inl (fun _ => 0))), (n8, .inl (Y 0, 6, .inl (fun _ => 0))), (n9, .inl (Y 0, 2048, .inl (fun _ => 0))), (n10, .inl (Y 0, 2048, .inl (fun _ => 0))), (n11, .inl (Y 0, 155, .inl (fun _ => 0)))] := hD
  refine va_putF (D := (dC, dI)) (ci := 11) (v := .ref n11) (ty := .array .int) (C := RX11) (T := TX11) (N := 22) hx hb hts in_X11_init_X11 tyX11 tyX11_ok nmX11 hown hK hP hD hS 0 rfl rfl 20 (by decide) (hts _ lk_X11_init_RX11_48) (fun _ h9 => h9) rfl hin rfl (by decide +kernel) rfl rfl (Nat.le_of_ble_eq_true rfl) dX11_init_106 (fun H locs hP hD hS => ?_)
  have hP : va_P (dC, dI) vwCl [(b0, .inr (11, [.ref n1, .ref n2, .ref n3, .ref n4, .int 0, .int 0, .int 0, .int 0, .ref n5, .int 0, .int (-1), .int (-1), .ref n6, .int 0, .ref n7, .ref n8, .int 0, .ref n9, .ref n10, .int 0, .ref n11, .int 0])), (n1, .inl (Y 0, 238, .inl (fun _ => 0))), (n2, .inl (Y 0, 1904, .inl (fun _ => 0))), (n3, .inl (Y 0, 238, .inl (fun _ => 0))), (n4, .inl (Y 0, 238, .inl (fun _ => 0))), (n5, .inl (Y 0, 60, .inl (fun _ => 0))), (n6, .inl (Y 2, 100, .inl (fun _ => 0))), (n7, .inl (Y 0, 6, .inl (fun _ => 0))), (n8, .inl (Y 0, 6, .inl (fun _ => 0))), (n9, .inl (Y 0, 2048, .inl (fun _ => 0))), (n10, .inl (Y 0, 2048, .inl (fun _ => 0))), (n11, .inl (Y 0, 155, .inl (fun _ => 0)))] H := hP
  have hD : va_D A [(b0, .inr (11, [.ref n1, .ref n2, .ref n3, .ref n4, .int 0, .int 0, .int 0, .int 0, .ref n5, .int 0, .int (-1), .int (-1), .ref n6, .int 0, .ref n7, .ref n8, .int 0, .ref n9, .ref n10, .int 0, .ref n11, .int 0])), (n1, .inl (Y 0, 238, .inl (fun _ => 0))), (n2, .inl (Y 0, 1904, .inl (fun _ => 0))), (n3, .inl (Y 0, 238, .inl (fun _ => 0))), (n4, .inl (Y 0, 238, .inl (fun _ => 0))), (n5, .inl (Y 0, 60, .inl (fun _ => 0))), (n6, .inl (Y 2, 100, .inl (fun _ => 0))), (n7, .inl (Y 0, 6, .inl (fun _ => 0))), (n8, .inl (Y 0, 6, .inl (fun _ => 0))), (n9, .inl (Y 0, 2048, .inl (fun _ => 0))), (n10, .inl (Y 0, 2048, .inl (fun _ => 0))), (n11, .inl (Y 0, 155, .inl (fun _ => 0)))] := hD
  have hP9 := hP.sub (ws' := (wX11 Y (fun k => [b0, n1, n2, n3, n4, n5, n6, n7, n8, n9, n10, n11].getD k 0) (fun _ => 0) (fun _ => 0) (fun _ => 0) (fun _ => 0) 0 0 0 0 (fun _ => 0) 0 (-1) (-1) (fun _ => 0) 0 (fun _ => 0) (fun _ => 0) 0 (fun _ => 0) (fun _ => 0) 0 (fun _ => 0) 0)) [0, 1, 2, 3, 4, 5, 6, 7, 8, 9, 10, 11] rfl
  have hD9 := hD.sub (ws' := (wX11 Y (fun k => [b0, n1, n2, n3, n4, n5, n6, n7, n8, n9, n10, n11].getD k 0) (fun _ => 0) (fun _ => 0) (fun _ => 0) (fun _ => 0) 0 0 0 0 (fun _ => 0) 0 (-1) (-1) (fun _ => 0) 0 (fun _ => 0) (fun _ => 0) 0 (fun _ => 0) (fun _ => 0) 0 (fun _ => 0) 0)) [0, 1, 2, 3, 4, 5, 6, 7, 8, 9, 10, 11] (by decide) rfl
  refine W.widen (k := 11) (n := 7041) (Nat.le_of_ble_eq_true rfl) (Nat.le_of_ble_eq_true rfl) ?_
  exact W.vret hx hb hr (fun t ht hW => ⟨⟨(fun k => [b0, n1, n2, n3, n4, n5, n6, n7, n8, n9, n10, n11].getD k 0), rfl, rfl, by rw [ht]; exact hP9, va_K.moved hW.alike hK, hD9⟩, hS.F ht⟩) hS.2.2 dX11_init_109
