abbrev wX2 (Y : Nat → ClassId) (a : Nat → Nat) (B_accounts : Int32) (B_balances : Nat → Int32) (B_balancesAtClosing : Nat → Int32) (B_entries : Int32) (B_debited : Nat → Int32) (B_credited : Nat → Int32) (B_amounts : Nat → Int32) : va_W := [(a 0, .inr (4, [.int B_accounts, .ref (a 1), .ref (a 2), .int B_entries, .ref (a 3), .ref (a 4), .ref (a 5)])), (a 1, .inl (Y 0, 11, .inl B_balances)), (a 2, .inl (Y 0, 11, .inl B_balancesAtClosing)), (a 3, .inl (Y 0, 60, .inl B_debited)), (a 4, .inl (Y 0, 60, .inl B_credited)), (a 5, .inl (Y 0, 60, .inl B_amounts))]
theorem lk_X2_copyFrom_RX2_9 : Cond.fieldLink RX2 9 "CircusLedger$Books" "accounts" "I" ∈ wsX2_copyFrom := by decide +kernel
theorem lk_X2_copyFrom_RX2_15 : Cond.fieldLink RX2 15 "CircusLedger$Books" "balances" "[I" ∈ wsX2_copyFrom := by decide +kernel
theorem lk_X2_copyFrom_RX2_19 : Cond.fieldLink RX2 19 "CircusLedger$Books" "balancesAtClosing" "[I" ∈ wsX2_copyFrom := by decide +kernel
theorem lk_X2_copyFrom_RX2_22 : Cond.fieldLink RX2 22 "CircusLedger$Books" "debited" "[I" ∈ wsX2_copyFrom := by decide +kernel
theorem lk_X2_copyFrom_RX2_25 : Cond.fieldLink RX2 25 "CircusLedger$Books" "credited" "[I" ∈ wsX2_copyFrom := by decide +kernel
theorem lk_X2_copyFrom_RX2_28 : Cond.fieldLink RX2 28 "CircusLedger$Books" "amounts" "[I" ∈ wsX2_copyFrom := by decide +kernel
theorem lk_X2_copyFrom_RX2_37 : Cond.fieldLink RX2 37 "CircusLedger$Books" "entries" "I" ∈ wsX2_copyFrom := by decide +kernel
theorem ac_X2_copyFrom_RX2_31 : Cond.methodLink RX2 31 arraycopyName ∈ wsX2_copyFrom ∧ Cond.native arraycopyName ∈ wsX2_copyFrom ∧ Cond.static arraycopyName ∈ wsX2_copyFrom ∧ Cond.initialized "java/lang/System" ∈ wsX2_copyFrom := ⟨by decide +kernel, by decide +kernel, by decide +kernel, by decide +kernel⟩
theorem in_X2_copyFrom_X2 : ∀ w ∈ u_ws RX2 TX2 7, w ∈ wsX2_copyFrom := by decide +kernel
def f_X2_copyFrom (B_accounts : Int32) (B_balances : Nat → Int32) (B_balancesAtClosing : Nat → Int32) (B_entries : Int32) (B_debited : Nat → Int32) (B_credited : Nat → Int32) (B_amounts : Nat → Int32) (OB_accounts : Int32) (OB_balances : Nat → Int32) (OB_balancesAtClosing : Nat → Int32) (OB_entries : Int32) (OB_debited : Nat → Int32) (OB_credited : Nat → Int32) (OB_amounts : Nat → Int32) : Option (Int32 × (Nat → Int32) × (Nat → Int32) × Int32 × (Nat → Int32) × (Nat → Int32) × (Nat → Int32)) :=
  wkl (va_cpy OB_balances B_balances 0 0 11) (fun g1 =>
  wkl (va_cpy OB_balancesAtClosing B_balancesAtClosing 0 0 11) (fun g2 =>
  wkl (va_cpy OB_debited B_debited 0 0 60) (fun g3 =>
  wkl (va_cpy OB_credited B_credited 0 0 60) (fun g4 =>
  wkl (va_cpy OB_amounts B_amounts 0 0 60) (fun g5 =>
  some (OB_accounts, g1, g2, OB_entries, g3, g4, g5))))))
set_option maxHeartbeats 4000000 in
set_option maxRecDepth 100000 in
theorem c_X2_copyFrom (l : Launch) (dC : Nat → ClassId) (dI : Nat → Nat → Nat) (Y : Nat → ClassId) (a : Nat → Nat) (b : Nat → Nat) (B_accounts : Int32) (B_balances : Nat → Int32) (B_balancesAtClosing : Nat → Int32) (B_entries : Int32) (B_debited : Nat → Int32) (B_credited : Nat → Int32) (B_amounts : Nat → Int32) (OB_accounts : Int32) (OB_balances : Nat → Int32) (OB_balancesAtClosing : Nat → Int32) (OB_entries : Int32) (OB_debited : Nat → Int32) (OB_credited : Nat → Int32) (OB_amounts : Nat → Int32)  (sz : Nat) (zB_accounts : Int32) (zB_balances : Nat → Int32) (zB_balancesAtClosing : Nat → Int32) (zB_entries : Int32) (zB_debited : Nat → Int32) (zB_credited : Nat → Int32) (zB_amounts : Nat → Int32) (hf : f_X2_copyFrom B_accounts B_balances B_balancesAtClosing B_entries B_debited B_credited B_amounts OB_accounts OB_balances OB_balancesAtClosing OB_entries OB_debited OB_credited OB_amounts = some (zB_accounts, zB_balances, zB_balancesAtClosing, zB_entries, zB_debited, zB_credited, zB_amounts)) : Met l yX2_copyFrom wsX2_copyFrom ({ frames := 1, cells := 0, slots := 0, locals := 200 } : Room) (va_Pc [.ref (a 0), .ref (b 0)] (wk_E (dC, dI) Y ((wX2 Y a B_accounts B_balances B_balancesAtClosing B_entries B_debited B_credited B_amounts) ++ (wX2 Y b OB_accounts OB_balances OB_balancesAtClosing OB_entries OB_debited OB_credited OB_amounts)) sz)) (va_Qv (fun (_ : Unit) => True) (fun _ t => wk_X (dC, dI) Y ((wX2 Y a zB_accounts zB_balances zB_balancesAtClosing zB_entries zB_debited zB_credited zB_amounts) ++ (wX2 Y b OB_accounts OB_balances OB_balancesAtClosing OB_entries OB_debited OB_credited OB_amounts)) (va_A ((wX2 Y a B_accounts B_balances B_balancesAtClosing B_entries B_debited B_credited B_amounts) ++ (wX2 Y b OB_accounts OB_balances OB_balancesAtClosing OB_entries OB_debited OB_credited OB_amounts)) sz) t) (va_A ((wX2 Y a B_accounts B_balances B_balancesAtClosing B_entries B_debited B_credited B_amounts) ++ (wX2 Y b OB_accounts OB_balances OB_balancesAtClosing OB_entries OB_debited OB_credited OB_amounts)) sz)) 0 0 (va_A ((wX2 Y a B_accounts B_balances B_balancesAtClosing B_entries B_debited B_credited B_amounts) ++ (wX2 Y b OB_accounts OB_balances OB_balancesAtClosing OB_entries OB_debited OB_credited OB_amounts)) sz) := by
  refine Met.ofW (cc := cX2_copyFrom) (maxL := 2) (ret := none) (by decide) rfl ?_
  intro p e s m args below meth c s₁ B hml hv
  obtain ⟨rfl, hsz, hP, hK, hD0⟩ := hv
  have hx := B.exec
  have hb := B.bytes
  have hr := B.returns
  have hts := atoms_spec (ws := wsX2_copyFrom) B.pre
  have hown : s.vm.findClass RX2 = some m.cls := findClass_of_methodNamed B.named
  have hlocks := B.notSynchronized
  have C0 : wk_C p s m _ meth c cX2_copyFrom 2 none wsX2_copyFrom RX2 := ⟨hx, hb, hml, hr, hlocks, hown, hts⟩
  subst hsz
  have hD := hD0.self (sz := s.heap.size)
  generalize hAe : va_A ((wX2 Y a B_accounts B_balances B_balancesAtClosing B_entries B_debited B_credited B_amounts) ++ (wX2 Y b OB_accounts OB_balances OB_balancesAtClosing OB_entries OB_debited OB_credited OB_amounts)) s.heap.size = A at hD ⊢
  have hA : ∀ q : Nat, s.heap.size ≤ q → A q := fun q h => by rw [← hAe]; exact Or.inr h
  have hS : va_S A s.heap s.heap [] := va_S.rf
  obtain ⟨H, hHe⟩ : ∃ H, H = s.heap := ⟨_, rfl⟩
  have hS : va_S A s.heap H [] := by rw [hHe]; exact hS
  have hP : va_P (dC, dI) vwCl [(a 0, .inr (4, [.int B_accounts, .ref (a 1), .ref (a 2), .int B_entries, .ref (a 3), .ref (a 4), .ref (a 5)])), (a 1, .inl (Y 0, 11, .inl B_balances)), (a 2, .inl (Y 0, 11, .inl B_balancesAtClosing)), (a 3, .inl (Y 0, 60, .inl B_debited)), (a 4, .inl (Y 0, 60, .inl B_credited)), (a 5, .inl (Y 0, 60, .inl B_amounts)), (b 0, .inr (4, [.int OB_accounts, .ref (b 1), .ref (b 2), .int OB_entries, .ref (b 3), .ref (b 4), .ref (b 5)])), (b 1, .inl (Y 0, 11, .inl OB_balances)), (b 2, .inl (Y 0, 11, .inl OB_balancesAtClosing)), (b 3, .inl (Y 0, 60, .inl OB_debited)), (b 4, .inl (Y 0, 60, .inl OB_credited)), (b 5, .inl (Y 0, 60, .inl OB_amounts))] H := by rw [hHe]; exact hP
  have hD : va_D A [(a 0, .inr (4, [.int B_accounts, .ref (a 1), .ref (a 2), .int B_entries, .ref (a 3), .ref (a 4), .ref (a 5)])), (a 1, .inl (Y 0, 11, .inl B_balances)), (a 2, .inl (Y 0, 11, .inl B_balancesAtClosing)), (a 3, .inl (Y 0, 60, .inl B_debited)), (a 4, .inl (Y 0, 60, .inl B_credited)), (a 5, .inl (Y 0, 60, .inl B_amounts)), (b 0, .inr (4, [.int OB_accounts, .ref (b 1), .ref (b 2), .int OB_entries, .ref (b 3), .ref (b 4), .ref (b 5)])), (b 1, .inl (Y 0, 11, .inl OB_balances)), (b 2, .inl (Y 0, 11, .inl OB_balancesAtClosing)), (b 3, .inl (Y 0, 60, .inl OB_debited)), (b 4, .inl (Y 0, 60, .inl OB_credited)), (b 5, .inl (Y 0, 60, .inl OB_amounts))] := hD
  obtain ⟨locs, hlo⟩ : ∃ locs : List Loc, locs = [] := ⟨_, rfl⟩
  have hS : va_S A s.heap H locs := by rw [hlo]; exact hS
  have hl := lv_entry ([.ref (a 0), .ref (b 0)]) (n := 2) (Nat.le_of_ble_eq_true rfl)
  rw [lg_entry_eq]
  generalize (lg_sl ([.ref (a 0), .ref (b 0)]) ++ List.replicate (2 - (lg_sl ([.ref (a 0), .ref (b 0)])).length) Slot.unset).toArray = ls at hl ⊢
  have hl : lv_has ls 2 [(0, .ref (a 0)), (1, .ref (b 0))] := hl
  refine wk_start hHe hlo ?_
  rw [f_X2_copyFrom] at hf
  refine lv_aload_n hx hb dX2_copyFrom_0 rfl (lv_at hl 0 rfl) ?_
  refine lv_aload_n hx hb dX2_copyFrom_1 rfl (lv_at hl 1 rfl) ?_
  refine va_get (D := (dC, dI)) (ci := 4) (v := .int OB_accounts) (C := RX2) (T := TX2) (N := 7) hx hb hts in_X2_copyFrom_X2 hown hK hP 6 rfl rfl 0 (by decide) (hts _ lk_X2_copyFrom_RX2_9) (fun _ h9 => h9) rfl dX2_copyFrom_2 ?_
  refine va_put (D := (dC, dI)) (ci := 4) (v := .int OB_accounts) (ty := .int) (C := RX2) (T := TX2) (N := 7) hx hb hts in_X2_copyFrom_X2 tyX2 tyX2_ok nmX2 hown hK hP hD hS 0 rfl rfl 0 (by decide) (hts _ lk_X2_copyFrom_RX2_9) (fun _ h9 => h9) rfl (by decide +kernel) rfl rfl (Nat.le_of_ble_eq_true rfl) dX2_copyFrom_5 (fun H locs hP hD hS => ?_)
  have hP : va_P (dC, dI) vwCl [(a 0, .inr (4, [.int OB_accounts, .ref (a 1), .ref (a 2), .int B_entries, .ref (a 3), .ref (a 4), .ref (a 5)])), (a 1, .inl (Y 0, 11, .inl B_balances)), (a 2, .inl (Y 0, 11, .inl B_balancesAtClosing)), (a 3, .inl (Y 0, 60, .inl B_debited)), (a 4, .inl (Y 0, 60, .inl B_credited)), (a 5, .inl (Y 0, 60, .inl B_amounts)), (b 0, .inr (4, [.int OB_accounts, .ref (b 1), .ref (b 2), .int OB_entries, .ref (b 3), .ref (b 4), .ref (b 5)])), (b 1, .inl (Y 0, 11, .inl OB_balances)), (b 2, .inl (Y 0, 11, .inl OB_balancesAtClosing)), (b 3, .inl (Y 0, 60, .inl OB_debited)), (b 4, .inl (Y 0, 60, .inl OB_credited)), (b 5, .inl (Y 0, 60, .inl OB_amounts))] H := hP
  have hD : va_D A [(a 0, .inr (4, [.int OB_accounts, .ref (a 1), .ref (a 2), .int B_entries, .ref (a 3), .ref (a 4), .ref (a 5)])), (a 1, .inl (Y 0, 11, .inl B_balances)), (a 2, .inl (Y 0, 11, .inl B_balancesAtClosing)), (a 3, .inl (Y 0, 60, .inl B_debited)), (a 4, .inl (Y 0, 60, .inl B_credited)), (a 5, .inl (Y 0, 60, .inl B_amounts)), (b 0, .inr (4, [.int OB_accounts, .ref (b 1), .ref (b 2), .int OB_entries, .ref (b 3), .ref (b 4), .ref (b 5)])), (b 1, .inl (Y 0, 11, .inl OB_balances)), (b 2, .inl (Y 0, 11, .inl OB_balancesAtClosing)), (b 3, .inl (Y 0, 60, .inl OB_debited)), (b 4, .inl (Y 0, 60, .inl OB_credited)), (b 5, .inl (Y 0, 60, .inl OB_amounts))] := hD
  refine lv_aload_n hx hb dX2_copyFrom_8 rfl (lv_at hl 1 rfl) ?_
  refine va_get (D := (dC, dI)) (ci := 4) (v := .ref (b 1)) (C := RX2) (T := TX2) (N := 7) hx hb hts in_X2_copyFrom_X2 hown hK hP 6 rfl rfl 1 (by decide) (hts _ lk_X2_copyFrom_RX2_15) (fun _ h9 => h9) rfl dX2_copyFrom_9 ?_
  refine lv_iconst (v := 0) hx hb dX2_copyFrom_12 (by decide) ?_
  refine lv_aload_n hx hb dX2_copyFrom_13 rfl (lv_at hl 0 rfl) ?_
  refine va_get (D := (dC, dI)) (ci := 4) (v := .ref (a 1)) (C := RX2) (T := TX2) (N := 7) hx hb hts in_X2_copyFrom_X2 hown hK hP 0 rfl rfl 1 (by decide) (hts _ lk_X2_copyFrom_RX2_15) (fun _ h9 => h9) rfl dX2_copyFrom_14 ?_
  refine lv_iconst (v := 0) hx hb dX2_copyFrom_17 (by decide) ?_
  refine lv_bipush (v := 11) hx hb dX2_copyFrom_18 (by decide) ?_
  refine wk_acopy (s1 := 0) (d1 := 0) (k1 := 11) (rest := []) hx hb (hml.trans hl.1.symm) hown (hts _ ac_X2_copyFrom_RX2_31.1) (hts _ ac_X2_copyFrom_RX2_31.2.1) (hts _ ac_X2_copyFrom_RX2_31.2.2.1) (hts _ ac_X2_copyFrom_RX2_31.2.2.2) hK hP hD hS 7 1 rfl rfl (by decide) (by decide) (by decide) (by decide) (by decide) (Nat.le_of_ble_eq_true rfl) (Nat.le_of_ble_eq_true rfl) dX2_copyFrom_20 (fun g1 H locs eg1 hP hD hS => ?_)
  have hP : va_P (dC, dI) vwCl [(a 0, .inr (4, [.int OB_accounts, .ref (a 1), .ref (a 2), .int B_entries, .ref (a 3), .ref (a 4), .ref (a 5)])), (a 1, .inl (Y 0, 11, .inl g1)), (a 2, .inl (Y 0, 11, .inl B_balancesAtClosing)), (a 3, .inl (Y 0, 60, .inl B_debited)), (a 4, .inl (Y 0, 60, .inl B_credited)), (a 5, .inl (Y 0, 60, .inl B_amounts)), (b 0, .inr (4, [.int OB_accounts, .ref (b 1), .ref (b 2), .int OB_entries, .ref (b 3), .ref (b 4), .ref (b 5)])), (b 1, .inl (Y 0, 11, .inl OB_balances)), (b 2, .inl (Y 0, 11, .inl OB_balancesAtClosing)), (b 3, .inl (Y 0, 60, .inl OB_debited)), (b 4, .inl (Y 0, 60, .inl OB_credited)), (b 5, .inl (Y 0, 60, .inl OB_amounts))] H := hP
  have hD : va_D A [(a 0, .inr (4, [.int OB_accounts, .ref (a 1), .ref (a 2), .int B_entries, .ref (a 3), .ref (a 4), .ref (a 5)])), (a 1, .inl (Y 0, 11, .inl g1)), (a 2, .inl (Y 0, 11, .inl B_balancesAtClosing)), (a 3, .inl (Y 0, 60, .inl B_debited)), (a 4, .inl (Y 0, 60, .inl B_credited)), (a 5, .inl (Y 0, 60, .inl B_amounts)), (b 0, .inr (4, [.int OB_accounts, .ref (b 1), .ref (b 2), .int OB_entries, .ref (b 3), .ref (b 4), .ref (b 5)])), (b 1, .inl (Y 0, 11, .inl OB_balances)), (b 2, .inl (Y 0, 11, .inl OB_balancesAtClosing)), (b 3, .inl (Y 0, 60, .inl OB_debited)), (b 4, .inl (Y 0, 60, .inl OB_credited)), (b 5, .inl (Y 0, 60, .inl OB_amounts))] := hD
  have hf := wkl_s hf eg1
  refine lv_aload_n hx hb dX2_copyFrom_23 rfl (lv_at hl 1 rfl) ?_
  refine va_get (D := (dC, dI)) (ci := 4) (v := .ref (b 2)) (C := RX2) (T := TX2) (N := 7) hx hb hts in_X2_copyFrom_X2 hown hK hP 6 rfl rfl 2 (by decide) (hts _ lk_X2_copyFrom_RX2_19) (fun _ h9 => h9) rfl dX2_copyFrom_24 ?_
  refine lv_iconst (v := 0) hx hb dX2_copyFrom_27 (by decide) ?_
  refine lv_aload_n hx hb dX2_copyFrom_28 rfl (lv_at hl 0 rfl) ?_
  refine va_get (D := (dC, dI)) (ci := 4) (v := .ref (a 2)) (C := RX2) (T := TX2) (N := 7) hx hb hts in_X2_copyFrom_X2 hown hK hP 0 rfl rfl 2 (by decide) (hts _ lk_X2_copyFrom_RX2_19) (fun _ h9 => h9) rfl dX2_copyFrom_29 ?_
  refine lv_iconst (v := 0) hx hb dX2_copyFrom_32 (by decide) ?_
  refine lv_bipush (v := 11) hx hb dX2_copyFrom_33 (by decide) ?_
  refine wk_acopy (s1 := 0) (d1 := 0) (k1 := 11) (rest := []) hx hb (hml.trans hl.1.symm) hown (hts _ ac_X2_copyFrom_RX2_31.1) (hts _ ac_X2_copyFrom_RX2_31.2.1) (hts _ ac_X2_copyFrom_RX2_31.2.2.1) (hts _ ac_X2_copyFrom_RX2_31.2.2.2) hK hP hD hS 8 2 rfl rfl (by decide) (by decide) (by decide) (by decide) (by decide) (Nat.le_of_ble_eq_true rfl) (Nat.le_of_ble_eq_true rfl) dX2_copyFrom_35 (fun g2 H locs eg2 hP hD hS => ?_)
  have hP : va_P (dC, dI) vwCl [(a 0, .inr (4, [.int OB_accounts, .ref (a 1), .ref (a 2), .int B_entries, .ref (a 3), .ref (a 4), .ref (a 5)])), (a 1, .inl (Y 0, 11, .inl g1)), (a 2, .inl (Y 0, 11, .inl g2)), (a 3, .inl (Y 0, 60, .inl B_debited)), (a 4, .inl (Y 0, 60, .inl B_credited)), (a 5, .inl (Y 0, 60, .inl B_amounts)), (b 0, .inr (4, [.int OB_accounts, .ref (b 1), .ref (b 2), .int OB_entries, .ref (b 3), .ref (b 4), .ref (b 5)])), (b 1, .inl (Y 0, 11, .inl OB_balances)), (b 2, .inl (Y 0, 11, .inl OB_balancesAtClosing)), (b 3, .inl (Y 0, 60, .inl OB_debited)), (b 4, .inl (Y 0, 60, .inl OB_credited)), (b 5, .inl (Y 0, 60, .inl OB_amounts))] H := hP
  have hD : va_D A [(a 0, .inr (4, [.int OB_accounts, .ref (a 1), .ref (a 2), .int B_entries, .ref (a 3), .ref (a 4), .ref (a 5)])), (a 1, .inl (Y 0, 11, .inl g1)), (a 2, .inl (Y 0, 11, .inl g2)), (a 3, .inl (Y 0, 60, .inl B_debited)), (a 4, .inl (Y 0, 60, .inl B_credited)), (a 5, .inl (Y 0, 60, .inl B_amounts)), (b 0, .inr (4, [.int OB_accounts, .ref (b 1), .ref (b 2), .int OB_entries, .ref (b 3), .ref (b 4), .ref (b 5)])), (b 1, .inl (Y 0, 11, .inl OB_balances)), (b 2, .inl (Y 0, 11, .inl OB_balancesAtClosing)), (b 3, .inl (Y 0, 60, .inl OB_debited)), (b 4, .inl (Y 0, 60, .inl OB_credited)), (b 5, .inl (Y 0, 60, .inl OB_amounts))] := hD
  have hf := wkl_s hf eg2
  refine lv_aload_n hx hb dX2_copyFrom_38 rfl (lv_at hl 0 rfl) ?_
  refine lv_aload_n hx hb dX2_copyFrom_39 rfl (lv_at hl 1 rfl) ?_
  refine va_get (D := (dC, dI)) (ci := 4) (v := .int OB_entries) (C := RX2) (T := TX2) (N := 7) hx hb hts in_X2_copyFrom_X2 hown hK hP 6 rfl rfl 3 (by decide) (hts _ lk_X2_copyFrom_RX2_37) (fun _ h9 => h9) rfl dX2_copyFrom_40 ?_
  refine va_put (D := (dC, dI)) (ci := 4) (v := .int OB_entries) (ty := .int) (C := RX2) (T := TX2) (N := 7) hx hb hts in_X2_copyFrom_X2 tyX2 tyX2_ok nmX2 hown hK hP hD hS 0 rfl rfl 3 (by decide) (hts _ lk_X2_copyFrom_RX2_37) (fun _ h9 => h9) rfl (by decide +kernel) rfl rfl (Nat.le_of_ble_eq_true rfl) dX2_copyFrom_43 (fun H locs hP hD hS => ?_)
  have hP : va_P (dC, dI) vwCl [(a 0, .inr (4, [.int OB_accounts, .ref (a 1), .ref (a 2), .int OB_entries, .ref (a 3), .ref (a 4), .ref (a 5)])), (a 1, .inl (Y 0, 11, .inl g1)), (a 2, .inl (Y 0, 11, .inl g2)), (a 3, .inl (Y 0, 60, .inl B_debited)), (a 4, .inl (Y 0, 60, .inl B_credited)), (a 5, .inl (Y 0, 60, .inl B_amounts)), (b 0, .inr (4, [.int OB_accounts, .ref (b 1), .ref (b 2), .int OB_entries, .ref (b 3), .ref (b 4), .ref (b 5)])), (b 1, .inl (Y 0, 11, .inl OB_balances)), (b 2, .inl (Y 0, 11, .inl OB_balancesAtClosing)), (b 3, .inl (Y 0, 60, .inl OB_debited)), (b 4, .inl (Y 0, 60, .inl OB_credited)), (b 5, .inl (Y 0, 60, .inl OB_amounts))] H := hP
  have hD : va_D A [(a 0, .inr (4, [.int OB_accounts, .ref (a 1), .ref (a 2), .int OB_entries, .ref (a 3), .ref (a 4), .ref (a 5)])), (a 1, .inl (Y 0, 11, .inl g1)), (a 2, .inl (Y 0, 11, .inl g2)), (a 3, .inl (Y 0, 60, .inl B_debited)), (a 4, .inl (Y 0, 60, .inl B_credited)), (a 5, .inl (Y 0, 60, .inl B_amounts)), (b 0, .inr (4, [.int OB_accounts, .ref (b 1), .ref (b 2), .int OB_entries, .ref (b 3), .ref (b 4), .ref (b 5)])), (b 1, .inl (Y 0, 11, .inl OB_balances)), (b 2, .inl (Y 0, 11, .inl OB_balancesAtClosing)), (b 3, .inl (Y 0, 60, .inl OB_debited)), (b 4, .inl (Y 0, 60, .inl OB_credited)), (b 5, .inl (Y 0, 60, .inl OB_amounts))] := hD
  refine lv_aload_n hx hb dX2_copyFrom_46 rfl (lv_at hl 1 rfl) ?_
  refine va_get (D := (dC, dI)) (ci := 4) (v := .ref (b 3)) (C := RX2) (T := TX2) (N := 7) hx hb hts in_X2_copyFrom_X2 hown hK hP 6 rfl rfl 4 (by decide) (hts _ lk_X2_copyFrom_RX2_22) (fun _ h9 => h9) rfl dX2_copyFrom_47 ?_
  refine lv_iconst (v := 0) hx hb dX2_copyFrom_50 (by decide) ?_
  refine lv_aload_n hx hb dX2_copyFrom_51 rfl (lv_at hl 0 rfl) ?_
  refine va_get (D := (dC, dI)) (ci := 4) (v := .ref (a 3)) (C := RX2) (T := TX2) (N := 7) hx hb hts in_X2_copyFrom_X2 hown hK hP 0 rfl rfl 4 (by decide) (hts _ lk_X2_copyFrom_RX2_22) (fun _ h9 => h9) rfl dX2_copyFrom_52 ?_
  refine lv_iconst (v := 0) hx hb dX2_copyFrom_55 (by decide) ?_
  refine lv_bipush (v := 60) hx hb dX2_copyFrom_56 (by decide) ?_
  refine wk_acopy (s1 := 0) (d1 := 0) (k1 := 60) (rest := []) hx hb (hml.trans hl.1.symm) hown (hts _ ac_X2_copyFrom_RX2_31.1) (hts _ ac_X2_copyFrom_RX2_31.2.1) (hts _ ac_X2_copyFrom_RX2_31.2.2.1) (hts _ ac_X2_copyFrom_RX2_31.2.2.2) hK hP hD hS 9 3 rfl rfl (by decide) (by decide) (by decide) (by decide) (by decide) (Nat.le_of_ble_eq_true rfl) (Nat.le_of_ble_eq_true rfl) dX2_copyFrom_58 (fun g3 H locs eg3 hP hD hS => ?_)
  have hP : va_P (dC, dI) vwCl [(a 0, .inr (4, [.int OB_accounts, .ref (a 1), .ref (a 2), .int OB_entries, .ref (a 3), .ref (a 4), .ref (a 5)])), (a 1, .inl (Y 0, 11, .inl g1)), (a 2, .inl (Y 0, 11, .inl g2)), (a 3, .inl (Y 0, 60, .inl g3)), (a 4, .inl (Y 0, 60, .inl B_credited)), (a 5, .inl (Y 0, 60, .inl B_amounts)), (b 0, .inr (4, [.int OB_accounts, .ref (b 1), .ref (b 2), .int OB_entries, .ref (b 3), .ref (b 4), .ref (b 5)])), (b 1, .inl (Y 0, 11, .inl OB_balances)), (b 2, .inl (Y 0, 11, .inl OB_balancesAtClosing)), (b 3, .inl (Y 0, 60, .inl OB_debited)), (b 4, .inl (Y 0, 60, .inl OB_credited)), (b 5, .inl (Y 0, 60, .inl OB_amounts))] H := hP
  have hD : va_D A [(a 0, .inr (4, [.int OB_accounts, .ref (a 1), .ref (a 2), .int OB_entries, .ref (a 3), .ref (a 4), .ref (a 5)])), (a 1, .inl (Y 0, 11, .inl g1)), (a 2, .inl (Y 0, 11, .inl g2)), (a 3, .inl (Y 0, 60, .inl g3)), (a 4, .inl (Y 0, 60, .inl B_credited)), (a 5, .inl (Y 0, 60, .inl B_amounts)), (b 0, .inr (4, [.int OB_accounts, .ref (b 1), .ref (b 2), .int OB_entries, .ref (b 3), .ref (b 4), .ref (b 5)])), (b 1, .inl (Y 0, 11, .inl OB_balances)), (b 2, .inl (Y 0, 11, .inl OB_balancesAtClosing)), (b 3, .inl (Y 0, 60, .inl OB_debited)), (b 4, .inl (Y 0, 60, .inl OB_credited)), (b 5, .inl (Y 0, 60, .inl OB_amounts))] := hD
  have hf := wkl_s hf eg3
  refine lv_aload_n hx hb dX2_copyFrom_61 rfl (lv_at hl 1 rfl) ?_
  refine va_get (D := (dC, dI)) (ci := 4) (v := .ref (b 4)) (C := RX2) (T := TX2) (N := 7) hx hb hts in_X2_copyFrom_X2 hown hK hP 6 rfl rfl 5 (by decide) (hts _ lk_X2_copyFrom_RX2_25) (fun _ h9 => h9) rfl dX2_copyFrom_62 ?_
  refine lv_iconst (v := 0) hx hb dX2_copyFrom_65 (by decide) ?_
  refine lv_aload_n hx hb dX2_copyFrom_66 rfl (lv_at hl 0 rfl) ?_
  refine va_get (D := (dC, dI)) (ci := 4) (v := .ref (a 4)) (C := RX2) (T := TX2) (N := 7) hx hb hts in_X2_copyFrom_X2 hown hK hP 0 rfl rfl 5 (by decide) (hts _ lk_X2_copyFrom_RX2_25) (fun _ h9 => h9) rfl dX2_copyFrom_67 ?_
  refine lv_iconst (v := 0) hx hb dX2_copyFrom_70 (by decide) ?_
  refine lv_bipush (v := 60) hx hb dX2_copyFrom_71 (by decide) ?_
  refine wk_acopy (s1 := 0) (d1 := 0) (k1 := 60) (rest := []) hx hb (hml.trans hl.1.symm) hown (hts _ ac_X2_copyFrom_RX2_31.1) (hts _ ac_X2_copyFrom_RX2_31.2.1) (hts _ ac_X2_copyFrom_RX2_31.2.2.1) (hts _ ac_X2_copyFrom_RX2_31.2.2.2) hK hP hD hS 10 4 rfl rfl (by decide) (by decide) (by decide) (by decide) (by decide) (Nat.le_of_ble_eq_true rfl) (Nat.le_of_ble_eq_true rfl) dX2_copyFrom_73 (fun g4 H locs eg4 hP hD hS => ?_)
  have hP : va_P (dC, dI) vwCl [(a 0, .inr (4, [.int OB_accounts, .ref (a 1), .ref (a 2), .int OB_entries, .ref (a 3), .ref (a 4), .ref (a 5)])), (a 1, .inl (Y 0, 11, .inl g1)), (a 2, .inl (Y 0, 11, .inl g2)), (a 3, .inl (Y 0, 60, .inl g3)), (a 4, .inl (Y 0, 60, .inl g4)), (a 5, .inl (Y 0, 60, .inl B_amounts)), (b 0, .inr (4, [.int OB_accounts, .ref (b 1), .ref (b 2), .int OB_entries, .ref (b 3), .ref (b 4), .ref (b 5)])), (b 1, .inl (Y 0, 11, .inl OB_balances)), (b 2, .inl (Y 0, 11, .inl OB_balancesAtClosing)), (b 3, .inl (Y 0, 60, .inl OB_debited)), (b 4, .inl (Y 0, 60, .inl OB_credited)), (b 5, .inl (Y 0, 60, .inl OB_amounts))] H := hP
  have hD : va_D A [(a 0, .inr (4, [.int OB_accounts, .ref (a 1), .ref (a 2), .int OB_entries, .ref (a 3), .ref (a 4), .ref (a 5)])), (a 1, .inl (Y 0, 11, .inl g1)), (a 2, .inl (Y 0, 11, .inl g2)), (a 3, .inl (Y 0, 60, .inl g3)), (a 4, .inl (Y 0, 60, .inl g4)), (a 5, .inl (Y 0, 60, .inl B_amounts)), (b 0, .inr (4, [.int OB_accounts, .ref (b 1), .ref (b 2), .int OB_entries, .ref (b 3), .ref (b 4), .ref (b 5)])), (b 1, .inl (Y 0, 11, .inl OB_balances)), (b 2, .inl (Y 0, 11, .inl OB_balancesAtClosing)), (b 3, .inl (Y 0, 60, .inl OB_debited)), (b 4, .inl (Y 0, 60, .inl OB_credited)), (b 5, .inl (Y 0, 60, .inl OB_amounts))] := hD
  have hf := wkl_s hf eg4
  refine lv_aload_n hx hb dX2_copyFrom_76 rfl (lv_at hl 1 rfl) ?_
  refine va_get (D := (dC, dI)) (ci := 4) (v := .ref (b 5)) (C := RX2) (T := TX2) (N := 7) hx hb hts in_X2_copyFrom_X2 hown hK hP 6 rfl rfl 6 (by decide) (hts _ lk_X2_copyFrom_RX2_28) (fun _ h9 => h9) rfl dX2_copyFrom_77 ?_
  refine lv_iconst (v := 0) hx hb dX2_copyFrom_80 (by decide) ?_
  refine lv_aload_n hx hb dX2_copyFrom_81 rfl (lv_at hl 0 rfl) ?_
  refine va_get (D := (dC, dI)) (ci := 4) (v := .ref (a 5)) (C := RX2) (T := TX2) (N := 7) hx hb hts in_X2_copyFrom_X2 hown hK hP 0 rfl rfl 6 (by decide) (hts _ lk_X2_copyFrom_RX2_28) (fun _ h9 => h9) rfl dX2_copyFrom_82 ?_
  refine lv_iconst (v := 0) hx hb dX2_copyFrom_85 (by decide) ?_
  refine lv_bipush (v := 60) hx hb dX2_copyFrom_86 (by decide) ?_
  refine wk_acopy (s1 := 0) (d1 := 0) (k1 := 60) (rest := []) hx hb (hml.trans hl.1.symm) hown (hts _ ac_X2_copyFrom_RX2_31.1) (hts _ ac_X2_copyFrom_RX2_31.2.1) (hts _ ac_X2_copyFrom_RX2_31.2.2.1) (hts _ ac_X2_copyFrom_RX2_31.2.2.2) hK hP hD hS 11 5 rfl rfl (by decide) (by decide) (by decide) (by decide) (by decide) (Nat.le_of_ble_eq_true rfl) (Nat.le_of_ble_eq_true rfl) dX2_copyFrom_88 (fun g5 H locs eg5 hP hD hS => ?_)
  have hP : va_P (dC, dI) vwCl [(a 0, .inr (4, [.int OB_accounts, .ref (a 1), .ref (a 2), .int OB_entries, .ref (a 3), .ref (a 4), .ref (a 5)])), (a 1, .inl (Y 0, 11, .inl g1)), (a 2, .inl (Y 0, 11, .inl g2)), (a 3, .inl (Y 0, 60, .inl g3)), (a 4, .inl (Y 0, 60, .inl g4)), (a 5, .inl (Y 0, 60, .inl g5)), (b 0, .inr (4, [.int OB_accounts, .ref (b 1), .ref (b 2), .int OB_entries, .ref (b 3), .ref (b 4), .ref (b 5)])), (b 1, .inl (Y 0, 11, .inl OB_balances)), (b 2, .inl (Y 0, 11, .inl OB_balancesAtClosing)), (b 3, .inl (Y 0, 60, .inl OB_debited)), (b 4, .inl (Y 0, 60, .inl OB_credited)), (b 5, .inl (Y 0, 60, .inl OB_amounts))] H := hP
  have hD : va_D A [(a 0, .inr (4, [.int OB_accounts, .ref (a 1), .ref (a 2), .int OB_entries, .ref (a 3), .ref (a 4), .ref (a 5)])), (a 1, .inl (Y 0, 11, .inl g1)), (a 2, .inl (Y 0, 11, .inl g2)), (a 3, .inl (Y 0, 60, .inl g3)), (a 4, .inl (Y 0, 60, .inl g4)), (a 5, .inl (Y 0, 60, .inl g5)), (b 0, .inr (4, [.int OB_accounts, .ref (b 1), .ref (b 2), .int OB_entries, .ref (b 3), .ref (b 4), .ref (b 5)])), (b 1, .inl (Y 0, 11, .inl OB_balances)), (b 2, .inl (Y 0, 11, .inl OB_balancesAtClosing)), (b 3, .inl (Y 0, 60, .inl OB_debited)), (b 4, .inl (Y 0, 60, .inl OB_credited)), (b 5, .inl (Y 0, 60, .inl OB_amounts))] := hD
  have hf := wkl_s hf eg5
  obtain ⟨e0, e1, e2, e3, e4, e5, e6⟩ := wke7 hf
  subst e0
  subst e1
  subst e2
  subst e3
  subst e4
  subst e5
  subst e6
  have hP9 := hP.sub (ws' := ((wX2 Y a OB_accounts g1 g2 OB_entries g3 g4 g5) ++ (wX2 Y b OB_accounts OB_balances OB_balancesAtClosing OB_entries OB_debited OB_credited OB_amounts))) [0, 1, 2, 3, 4, 5, 6, 7, 8, 9, 10, 11] rfl
  have hD9 := hD.sub (ws' := ((wX2 Y a OB_accounts g1 g2 OB_entries g3 g4 g5) ++ (wX2 Y b OB_accounts OB_balances OB_balancesAtClosing OB_entries OB_debited OB_credited OB_amounts))) [0, 1, 2, 3, 4, 5, 6, 7, 8, 9, 10, 11] (by decide) rfl
  exact W.vret hx hb hr (fun t ht hW => ⟨⟨(), rfl, trivial, by rw [ht]; exact hP9, va_K.moved hW.alike hK, hD9⟩, hS.F ht⟩) hS.2.2 dX2_copyFrom_91
theorem lk_X2_openAccount_RX2_9 : Cond.fieldLink RX2 9 "CircusLedger$Books" "accounts" "I" ∈ wsX2_openAccount := by decide +kernel
theorem in_X2_openAccount_X2 : ∀ w ∈ u_ws RX2 TX2 7, w ∈ wsX2_openAccount := by decide +kernel
def f_X2_openAccount (B_accounts : Int32) : Option (Int32) :=
  wkl ((B_accounts + 1)) (fun v1 =>
  some (v1))
set_option maxHeartbeats 4000000 in
set_option maxRecDepth 100000 in
theorem c_X2_openAccount (l : Launch) (dC : Nat → ClassId) (dI : Nat → Nat → Nat) (Y : Nat → ClassId) (a : Nat → Nat) (B_accounts : Int32) (B_balances : Nat → Int32) (B_balancesAtClosing : Nat → Int32) (B_entries : Int32) (B_debited : Nat → Int32) (B_credited : Nat → Int32) (B_amounts : Nat → Int32)  (sz : Nat) (zB_accounts : Int32) (hf : f_X2_openAccount B_accounts = some (zB_accounts)) : Met l yX2_openAccount wsX2_openAccount ({ frames := 0, cells := 0, slots := 0, locals := 0 } : Room) (va_Pc [.ref (a 0)] (wk_E (dC, dI) Y (wX2 Y a B_accounts B_balances B_balancesAtClosing B_entries B_debited B_credited B_amounts) sz)) (va_Qv (fun (_ : Unit) => True) (fun _ t => wk_X (dC, dI) Y (wX2 Y a zB_accounts B_balances B_balancesAtClosing B_entries B_debited B_credited B_amounts) (va_A (wX2 Y a B_accounts B_balances B_balancesAtClosing B_entries B_debited B_credited B_amounts) sz) t) (va_A (wX2 Y a B_accounts B_balances B_balancesAtClosing B_entries B_debited B_credited B_amounts) sz)) 0 0 (va_A (wX2 Y a B_accounts B_balances B_balancesAtClosing B_entries B_debited B_credited B_amounts) sz) := by
  refine Met.ofW (cc := cX2_openAccount) (maxL := 1) (ret := none) (by decide) rfl ?_
  intro p e s m args below meth c s₁ B hml hv
  obtain ⟨rfl, hsz, hP, hK, hD0⟩ := hv
  have hx := B.exec
  have hb := B.bytes
  have hr := B.returns
  have hts := atoms_spec (ws := wsX2_openAccount) B.pre
  have hown : s.vm.findClass RX2 = some m.cls := findClass_of_methodNamed B.named
  have hlocks := B.notSynchronized
  have C0 : wk_C p s m _ meth c cX2_openAccount 1 none wsX2_openAccount RX2 := ⟨hx, hb, hml, hr, hlocks, hown, hts⟩
  subst hsz
  have hD := hD0.self (sz := s.heap.size)
  generalize hAe : va_A (wX2 Y a B_accounts B_balances B_balancesAtClosing B_entries B_debited B_credited B_amounts) s.heap.size = A at hD ⊢
  have hA : ∀ q : Nat, s.heap.size ≤ q → A q := fun q h => by rw [← hAe]; exact Or.inr h
  have hS : va_S A s.heap s.heap [] := va_S.rf
  obtain ⟨H, hHe⟩ : ∃ H, H = s.heap := ⟨_, rfl⟩
  have hS : va_S A s.heap H [] := by rw [hHe]; exact hS
  have hP : va_P (dC, dI) vwCl [(a 0, .inr (4, [.int B_accounts, .ref (a 1), .ref (a 2), .int B_entries, .ref (a 3), .ref (a 4), .ref (a 5)])), (a 1, .inl (Y 0, 11, .inl B_balances)), (a 2, .inl (Y 0, 11, .inl B_balancesAtClosing)), (a 3, .inl (Y 0, 60, .inl B_debited)), (a 4, .inl (Y 0, 60, .inl B_credited)), (a 5, .inl (Y 0, 60, .inl B_amounts))] H := by rw [hHe]; exact hP
  have hD : va_D A [(a 0, .inr (4, [.int B_accounts, .ref (a 1), .ref (a 2), .int B_entries, .ref (a 3), .ref (a 4), .ref (a 5)])), (a 1, .inl (Y 0, 11, .inl B_balances)), (a 2, .inl (Y 0, 11, .inl B_balancesAtClosing)), (a 3, .inl (Y 0, 60, .inl B_debited)), (a 4, .inl (Y 0, 60, .inl B_credited)), (a 5, .inl (Y 0, 60, .inl B_amounts))] := hD
  obtain ⟨locs, hlo⟩ : ∃ locs : List Loc, locs = [] := ⟨_, rfl⟩
  have hS : va_S A s.heap H locs := by rw [hlo]; exact hS
  have hl := lv_entry ([.ref (a 0)]) (n := 1) (Nat.le_of_ble_eq_true rfl)
  rw [lg_entry_eq]
  generalize (lg_sl ([.ref (a 0)]) ++ List.replicate (1 - (lg_sl ([.ref (a 0)])).length) Slot.unset).toArray = ls at hl ⊢
  have hl : lv_has ls 1 [(0, .ref (a 0))] := hl
  refine wk_start hHe hlo ?_
  rw [f_X2_openAccount] at hf
  refine lv_aload_n hx hb dX2_openAccount_0 rfl (lv_at hl 0 rfl) ?_
  refine lv_dup hx hb dX2_openAccount_1 rfl ?_
  refine va_get (D := (dC, dI)) (ci := 4) (v := .int B_accounts) (C := RX2) (T := TX2) (N := 7) hx hb hts in_X2_openAccount_X2 hown hK hP 0 rfl rfl 0 (by decide) (hts _ lk_X2_openAccount_RX2_9) (fun _ h9 => h9) rfl dX2_openAccount_2 ?_
  refine lv_iconst (v := 1) hx hb dX2_openAccount_5 (by decide) ?_
  refine lv_iadd hx hb dX2_openAccount_6 ?_
  refine lv_topi (fun v1 ev1 => ?_)
  have hf := wkl_s hf ev1
  refine va_put (D := (dC, dI)) (ci := 4) (v := .int v1) (ty := .int) (C := RX2) (T := TX2) (N := 7) hx hb hts in_X2_openAccount_X2 tyX2 tyX2_ok nmX2 hown hK hP hD hS 0 rfl rfl 0 (by decide) (hts _ lk_X2_openAccount_RX2_9) (fun _ h9 => h9) rfl (by decide +kernel) rfl rfl (Nat.le_of_ble_eq_true rfl) dX2_openAccount_7 (fun H locs hP hD hS => ?_)
  have hP : va_P (dC, dI) vwCl [(a 0, .inr (4, [.int v1, .ref (a 1), .ref (a 2), .int B_entries, .ref (a 3), .ref (a 4), .ref (a 5)])), (a 1, .inl (Y 0, 11, .inl B_balances)), (a 2, .inl (Y 0, 11, .inl B_balancesAtClosing)), (a 3, .inl (Y 0, 60, .inl B_debited)), (a 4, .inl (Y 0, 60, .inl B_credited)), (a 5, .inl (Y 0, 60, .inl B_amounts))] H := hP
  have hD : va_D A [(a 0, .inr (4, [.int v1, .ref (a 1), .ref (a 2), .int B_entries, .ref (a 3), .ref (a 4), .ref (a 5)])), (a 1, .inl (Y 0, 11, .inl B_balances)), (a 2, .inl (Y 0, 11, .inl B_balancesAtClosing)), (a 3, .inl (Y 0, 60, .inl B_debited)), (a 4, .inl (Y 0, 60, .inl B_credited)), (a 5, .inl (Y 0, 60, .inl B_amounts))] := hD
  have e0 := wke1 hf
  subst e0
  have hP9 := hP.sub (ws' := (wX2 Y a v1 B_balances B_balancesAtClosing B_entries B_debited B_credited B_amounts)) [0, 1, 2, 3, 4, 5] rfl
  have hD9 := hD.sub (ws' := (wX2 Y a v1 B_balances B_balancesAtClosing B_entries B_debited B_credited B_amounts)) [0, 1, 2, 3, 4, 5] (by decide) rfl
  exact W.vret hx hb hr (fun t ht hW => ⟨⟨(), rfl, trivial, by rw [ht]; exact hP9, va_K.moved hW.alike hK, hD9⟩, hS.F ht⟩) hS.2.2 dX2_openAccount_10
theorem lk_X2_has_RX2_9 : Cond.fieldLink RX2 9 "CircusLedger$Books" "accounts" "I" ∈ wsX2_has := by decide +kernel
theorem in_X2_has_X2 : ∀ w ∈ u_ws RX2 TX2 7, w ∈ wsX2_has := by decide +kernel
def f_X2_has (B_accounts : Int32) (x1 : Int32) : Option (Int32) :=
  if x1 < 0 then
    (some (0))
  else
    (if B_accounts ≤ x1 then
      (some (0))
    else
      (some (1)))
set_option maxHeartbeats 4000000 in
set_option maxRecDepth 100000 in
theorem c_X2_has (l : Launch) (dC : Nat → ClassId) (dI : Nat → Nat → Nat) (Y : Nat → ClassId) (a : Nat → Nat) (B_accounts : Int32) (B_balances : Nat → Int32) (B_balancesAtClosing : Nat → Int32) (B_entries : Int32) (B_debited : Nat → Int32) (B_credited : Nat → Int32) (B_amounts : Nat → Int32) (x1 : Int32) (r : Int32) (hf : f_X2_has B_accounts x1 = some (r)) : Met l yX2_has wsX2_has ({ frames := 0, cells := 0, slots := 0, locals := 0 } : Room) (va_Pc [.ref (a 0), .int x1] (wk_B (dC, dI) Y (wX2 Y a B_accounts B_balances B_balancesAtClosing B_entries B_debited B_credited B_amounts))) (vp_Si (fun r2 => r2 = r)) 0 0 (fun _ => False) := by
  refine Met.ofW (cc := cX2_has) (maxL := 2) (ret := (some .boolean)) (by decide) rfl ?_
  intro p e s m args below meth c s₁ B hml hv
  obtain ⟨rfl, hP, hK⟩ := hv
  have hx := B.exec
  have hb := B.bytes
  have hr := B.returns
  have hts := atoms_spec (ws := wsX2_has) B.pre
  have hown : s.vm.findClass RX2 = some m.cls := findClass_of_methodNamed B.named
  have hlocks := B.notSynchronized
  have C0 : wk_C p s m _ meth c cX2_has 2 (some .boolean) wsX2_has RX2 := ⟨hx, hb, hml, hr, hlocks, hown, hts⟩
  have hP : va_P (dC, dI) vwCl [(a 0, .inr (4, [.int B_accounts, .ref (a 1), .ref (a 2), .int B_entries, .ref (a 3), .ref (a 4), .ref (a 5)])), (a 1, .inl (Y 0, 11, .inl B_balances)), (a 2, .inl (Y 0, 11, .inl B_balancesAtClosing)), (a 3, .inl (Y 0, 60, .inl B_debited)), (a 4, .inl (Y 0, 60, .inl B_credited)), (a 5, .inl (Y 0, 60, .inl B_amounts))] s.heap := hP
  have hl := lv_entry ([.ref (a 0), .int x1]) (n := 2) (Nat.le_of_ble_eq_true rfl)
  rw [lg_entry_eq]
  generalize (lg_sl ([.ref (a 0), .int x1]) ++ List.replicate (2 - (lg_sl ([.ref (a 0), .int x1])).length) Slot.unset).toArray = ls at hl ⊢
  have hl : lv_has ls 2 [(0, .ref (a 0)), (1, .int x1)] := hl
  rw [f_X2_has] at hf
  refine lv_iload_n hx hb dX2_has_0 rfl (lv_at hl 1 rfl) ?_
  refine lv_if_lt (tgt := 16) hx hb dX2_has_1 (by decide) (fun q1 => ?_) (fun q1 => ?_)
  · have hf := wk_t hf q1
    refine lv_iconst (v := 0) hx hb dX2_has_16 (by decide) ?_
    have e0 := wke1 hf
    subst e0
    exact W.zret (v := 0) (ty := .boolean) hx hb hr rfl (fun t ht hW => ⟨0, rfl, rfl, ht⟩) (fun q h => absurd h List.not_mem_nil) dX2_has_17
  · have hf := wk_f hf q1
    refine lv_iload_n hx hb dX2_has_4 rfl (lv_at hl 1 rfl) ?_
    refine lv_aload_n hx hb dX2_has_5 rfl (lv_at hl 0 rfl) ?_
    refine va_get (D := (dC, dI)) (ci := 4) (v := .int B_accounts) (C := RX2) (T := TX2) (N := 7) hx hb hts in_X2_has_X2 hown hK hP 0 rfl rfl 0 (by decide) (hts _ lk_X2_has_RX2_9) (fun _ h9 => h9) rfl dX2_has_6 ?_
    refine lv_icmp_ge (tgt := 16) hx hb dX2_has_9 (by decide) (fun q2 => ?_) (fun q2 => ?_)
    · have hf := wk_t hf q2
      refine lv_iconst (v := 0) hx hb dX2_has_16 (by decide) ?_
      have e0 := wke1 hf
      subst e0
      exact W.zret (v := 0) (ty := .boolean) hx hb hr rfl (fun t ht hW => ⟨0, rfl, rfl, ht⟩) (fun q h => absurd h List.not_mem_nil) dX2_has_17
    · have hf := wk_f hf q2
      refine lv_iconst (v := 1) hx hb dX2_has_12 (by decide) ?_
      refine lv_goto (tgt := 17) hx hb dX2_has_13 (by decide) ?_
      have e0 := wke1 hf
      subst e0
      exact W.zret (v := 1) (ty := .boolean) hx hb hr rfl (fun t ht hW => ⟨1, rfl, rfl, ht⟩) (fun q h => absurd h List.not_mem_nil) dX2_has_17
theorem lk_X2_hasRoomFor_RX2_37 : Cond.fieldLink RX2 37 "CircusLedger$Books" "entries" "I" ∈ wsX2_hasRoomFor := by decide +kernel
theorem in_X2_hasRoomFor_X2 : ∀ w ∈ u_ws RX2 TX2 7, w ∈ wsX2_hasRoomFor := by decide +kernel
def f_X2_hasRoomFor (B_entries : Int32) (x1 : Int32) : Option (Int32) :=
  if (60 : Int32) < (B_entries + x1) then
    (some (0))
  else
    (some (1))
set_option maxHeartbeats 4000000 in
set_option maxRecDepth 100000 in
theorem c_X2_hasRoomFor (l : Launch) (dC : Nat → ClassId) (dI : Nat → Nat → Nat) (Y : Nat → ClassId) (a : Nat → Nat) (B_accounts : Int32) (B_balances : Nat → Int32) (B_balancesAtClosing : Nat → Int32) (B_entries : Int32) (B_debited : Nat → Int32) (B_credited : Nat → Int32) (B_amounts : Nat → Int32) (x1 : Int32) (r : Int32) (hf : f_X2_hasRoomFor B_entries x1 = some (r)) : Met l yX2_hasRoomFor wsX2_hasRoomFor ({ frames := 0, cells := 0, slots := 0, locals := 0 } : Room) (va_Pc [.ref (a 0), .int x1] (wk_B (dC, dI) Y (wX2 Y a B_accounts B_balances B_balancesAtClosing B_entries B_debited B_credited B_amounts))) (vp_Si (fun r2 => r2 = r)) 0 0 (fun _ => False) := by
  refine Met.ofW (cc := cX2_hasRoomFor) (maxL := 2) (ret := (some .boolean)) (by decide) rfl ?_
  intro p e s m args below meth c s₁ B hml hv
  obtain ⟨rfl, hP, hK⟩ := hv
  have hx := B.exec
  have hb := B.bytes
  have hr := B.returns
  have hts := atoms_spec (ws := wsX2_hasRoomFor) B.pre
  have hown : s.vm.findClass RX2 = some m.cls := findClass_of_methodNamed B.named
  have hlocks := B.notSynchronized
  have C0 : wk_C p s m _ meth c cX2_hasRoomFor 2 (some .boolean) wsX2_hasRoomFor RX2 := ⟨hx, hb, hml, hr, hlocks, hown, hts⟩
  have hP : va_P (dC, dI) vwCl [(a 0, .inr (4, [.int B_accounts, .ref (a 1), .ref (a 2), .int B_entries, .ref (a 3), .ref (a 4), .ref (a 5)])), (a 1, .inl (Y 0, 11, .inl B_balances)), (a 2, .inl (Y 0, 11, .inl B_balancesAtClosing)), (a 3, .inl (Y 0, 60, .inl B_debited)), (a 4, .inl (Y 0, 60, .inl B_credited)), (a 5, .inl (Y 0, 60, .inl B_amounts))] s.heap := hP
  have hl := lv_entry ([.ref (a 0), .int x1]) (n := 2) (Nat.le_of_ble_eq_true rfl)
  rw [lg_entry_eq]
  generalize (lg_sl ([.ref (a 0), .int x1]) ++ List.replicate (2 - (lg_sl ([.ref (a 0), .int x1])).length) Slot.unset).toArray = ls at hl ⊢
  have hl : lv_has ls 2 [(0, .ref (a 0)), (1, .int x1)] := hl
  rw [f_X2_hasRoomFor] at hf
  refine lv_aload_n hx hb dX2_hasRoomFor_0 rfl (lv_at hl 0 rfl) ?_
  refine va_get (D := (dC, dI)) (ci := 4) (v := .int B_entries) (C := RX2) (T := TX2) (N := 7) hx hb hts in_X2_hasRoomFor_X2 hown hK hP 0 rfl rfl 3 (by decide) (hts _ lk_X2_hasRoomFor_RX2_37) (fun _ h9 => h9) rfl dX2_hasRoomFor_1 ?_
  refine lv_iload_n hx hb dX2_hasRoomFor_4 rfl (lv_at hl 1 rfl) ?_
  refine lv_iadd hx hb dX2_hasRoomFor_5 ?_
  refine lv_bipush (v := 60) hx hb dX2_hasRoomFor_6 (by decide) ?_
  refine lv_icmp_gt (tgt := 15) hx hb dX2_hasRoomFor_8 (by decide) (fun q1 => ?_) (fun q1 => ?_)
  · have hf := wk_t hf q1
    refine lv_iconst (v := 0) hx hb dX2_hasRoomFor_15 (by decide) ?_
    have e0 := wke1 hf
    subst e0
    exact W.zret (v := 0) (ty := .boolean) hx hb hr rfl (fun t ht hW => ⟨0, rfl, rfl, ht⟩) (fun q h => absurd h List.not_mem_nil) dX2_hasRoomFor_16
  · have hf := wk_f hf q1
    refine lv_iconst (v := 1) hx hb dX2_hasRoomFor_11 (by decide) ?_
    refine lv_goto (tgt := 16) hx hb dX2_hasRoomFor_12 (by decide) ?_
    have e0 := wke1 hf
    subst e0
    exact W.zret (v := 1) (ty := .boolean) hx hb hr rfl (fun t ht hW => ⟨1, rfl, rfl, ht⟩) (fun q h => absurd h List.not_mem_nil) dX2_hasRoomFor_16
theorem lk_X2_overdraws_RX2_15 : Cond.fieldLink RX2 15 "CircusLedger$Books" "balances" "[I" ∈ wsX2_overdraws := by decide +kernel
theorem in_X2_overdraws_X2 : ∀ w ∈ u_ws RX2 TX2 7, w ∈ wsX2_overdraws := by decide +kernel
def f_X2_overdraws (B_balances : Nat → Int32) (x1 : Int32) (x2 : Int32) : Option (Int32) :=
  if x1 = 0 then
    (gin x1 11 (if x2 ≤ (B_balances x1.toNatClampNeg) then
      (some (0))
    else
      (some (1))))
  else
    (if x1 = 1 then
      (gin x1 11 (if x2 ≤ (B_balances x1.toNatClampNeg) then
        (some (0))
      else
        (some (1))))
    else
      (some (0)))
set_option maxHeartbeats 4000000 in
set_option maxRecDepth 100000 in
theorem c_X2_overdraws (l : Launch) (dC : Nat → ClassId) (dI : Nat → Nat → Nat) (Y : Nat → ClassId) (a : Nat → Nat) (B_accounts : Int32) (B_balances : Nat → Int32) (B_balancesAtClosing : Nat → Int32) (B_entries : Int32) (B_debited : Nat → Int32) (B_credited : Nat → Int32) (B_amounts : Nat → Int32) (x1 : Int32) (x2 : Int32) (r : Int32) (hf : f_X2_overdraws B_balances x1 x2 = some (r)) : Met l yX2_overdraws wsX2_overdraws ({ frames := 0, cells := 0, slots := 0, locals := 0 } : Room) (va_Pc [.ref (a 0), .int x1, .int x2] (wk_B (dC, dI) Y (wX2 Y a B_accounts B_balances B_balancesAtClosing B_entries B_debited B_credited B_amounts))) (vp_Si (fun r2 => r2 = r)) 0 0 (fun _ => False) := by
  refine Met.ofW (cc := cX2_overdraws) (maxL := 3) (ret := (some .boolean)) (by decide) rfl ?_
  intro p e s m args below meth c s₁ B hml hv
  obtain ⟨rfl, hP, hK⟩ := hv
  have hx := B.exec
  have hb := B.bytes
  have hr := B.returns
  have hts := atoms_spec (ws := wsX2_overdraws) B.pre
  have hown : s.vm.findClass RX2 = some m.cls := findClass_of_methodNamed B.named
  have hlocks := B.notSynchronized
  have C0 : wk_C p s m _ meth c cX2_overdraws 3 (some .boolean) wsX2_overdraws RX2 := ⟨hx, hb, hml, hr, hlocks, hown, hts⟩
  have hP : va_P (dC, dI) vwCl [(a 0, .inr (4, [.int B_accounts, .ref (a 1), .ref (a 2), .int B_entries, .ref (a 3), .ref (a 4), .ref (a 5)])), (a 1, .inl (Y 0, 11, .inl B_balances)), (a 2, .inl (Y 0, 11, .inl B_balancesAtClosing)), (a 3, .inl (Y 0, 60, .inl B_debited)), (a 4, .inl (Y 0, 60, .inl B_credited)), (a 5, .inl (Y 0, 60, .inl B_amounts))] s.heap := hP
  have hl := lv_entry ([.ref (a 0), .int x1, .int x2]) (n := 3) (Nat.le_of_ble_eq_true rfl)
  rw [lg_entry_eq]
  generalize (lg_sl ([.ref (a 0), .int x1, .int x2]) ++ List.replicate (3 - (lg_sl ([.ref (a 0), .int x1, .int x2])).length) Slot.unset).toArray = ls at hl ⊢
  have hl : lv_has ls 3 [(0, .ref (a 0)), (1, .int x1), (2, .int x2)] := hl
  rw [f_X2_overdraws] at hf
  refine lv_iload_n hx hb dX2_overdraws_0 rfl (lv_at hl 1 rfl) ?_
  refine lv_if_eq (tgt := 9) hx hb dX2_overdraws_1 (by decide) (fun q1 => ?_) (fun q1 => ?_)
  · have hf := wk_t hf q1
    refine lv_aload_n hx hb dX2_overdraws_9 rfl (lv_at hl 0 rfl) ?_
    refine va_get (D := (dC, dI)) (ci := 4) (v := .ref (a 1)) (C := RX2) (T := TX2) (N := 7) hx hb hts in_X2_overdraws_X2 hown hK hP 0 rfl rfl 1 (by decide) (hts _ lk_X2_overdraws_RX2_15) (fun _ h9 => h9) rfl dX2_overdraws_10 ?_
    refine lv_iload_n hx hb dX2_overdraws_13 rfl (lv_at hl 1 rfl) ?_
    obtain ⟨h2, hf⟩ := gin_s hf
    refine wk_iald hx hb hK hP 1 0 rfl rfl h2 rfl dX2_overdraws_14 ?_
    refine lv_iload_n hx hb dX2_overdraws_15 rfl (lv_at hl 2 rfl) ?_
    refine lv_icmp_ge (tgt := 23) hx hb dX2_overdraws_16 (by decide) (fun q3 => ?_) (fun q3 => ?_)
    · have hf := wk_t hf q3
      refine lv_iconst (v := 0) hx hb dX2_overdraws_23 (by decide) ?_
      have e0 := wke1 hf
      subst e0
      exact W.zret (v := 0) (ty := .boolean) hx hb hr rfl (fun t ht hW => ⟨0, rfl, rfl, ht⟩) (fun q h => absurd h List.not_mem_nil) dX2_overdraws_24
    · have hf := wk_f hf q3
      refine lv_iconst (v := 1) hx hb dX2_overdraws_19 (by decide) ?_
      refine lv_goto (tgt := 24) hx hb dX2_overdraws_20 (by decide) ?_
      have e0 := wke1 hf
      subst e0
      exact W.zret (v := 1) (ty := .boolean) hx hb hr rfl (fun t ht hW => ⟨1, rfl, rfl, ht⟩) (fun q h => absurd h List.not_mem_nil) dX2_overdraws_24
  · have hf := wk_f hf q1
    refine lv_iload_n hx hb dX2_overdraws_4 rfl (lv_at hl 1 rfl) ?_
    refine lv_iconst (v := 1) hx hb dX2_overdraws_5 (by decide) ?_
    refine lv_icmp_ne (tgt := 23) hx hb dX2_overdraws_6 (by decide) (fun q4 => ?_) (fun q4 => ?_)
    · have hf := wk_f hf q4
      refine lv_iconst (v := 0) hx hb dX2_overdraws_23 (by decide) ?_
      have e0 := wke1 hf
      subst e0
      exact W.zret (v := 0) (ty := .boolean) hx hb hr rfl (fun t ht hW => ⟨0, rfl, rfl, ht⟩) (fun q h => absurd h List.not_mem_nil) dX2_overdraws_24
    · have hf := wk_t hf q4
      refine lv_aload_n hx hb dX2_overdraws_9 rfl (lv_at hl 0 rfl) ?_
      refine va_get (D := (dC, dI)) (ci := 4) (v := .ref (a 1)) (C := RX2) (T := TX2) (N := 7) hx hb hts in_X2_overdraws_X2 hown hK hP 0 rfl rfl 1 (by decide) (hts _ lk_X2_overdraws_RX2_15) (fun _ h9 => h9) rfl dX2_overdraws_10 ?_
      refine lv_iload_n hx hb dX2_overdraws_13 rfl (lv_at hl 1 rfl) ?_
      obtain ⟨h5, hf⟩ := gin_s hf
      refine wk_iald hx hb hK hP 1 0 rfl rfl h5 rfl dX2_overdraws_14 ?_
      refine lv_iload_n hx hb dX2_overdraws_15 rfl (lv_at hl 2 rfl) ?_
      refine lv_icmp_ge (tgt := 23) hx hb dX2_overdraws_16 (by decide) (fun q6 => ?_) (fun q6 => ?_)
      · have hf := wk_t hf q6
        refine lv_iconst (v := 0) hx hb dX2_overdraws_23 (by decide) ?_
        have e0 := wke1 hf
        subst e0
        exact W.zret (v := 0) (ty := .boolean) hx hb hr rfl (fun t ht hW => ⟨0, rfl, rfl, ht⟩) (fun q h => absurd h List.not_mem_nil) dX2_overdraws_24
      · have hf := wk_f hf q6
        refine lv_iconst (v := 1) hx hb dX2_overdraws_19 (by decide) ?_
        refine lv_goto (tgt := 24) hx hb dX2_overdraws_20 (by decide) ?_
        have e0 := wke1 hf
        subst e0
        exact W.zret (v := 1) (ty := .boolean) hx hb hr rfl (fun t ht hW => ⟨1, rfl, rfl, ht⟩) (fun q h => absurd h List.not_mem_nil) dX2_overdraws_24
theorem lk_X2_book_RX2_15 : Cond.fieldLink RX2 15 "CircusLedger$Books" "balances" "[I" ∈ wsX2_book := by decide +kernel
theorem lk_X2_book_RX2_22 : Cond.fieldLink RX2 22 "CircusLedger$Books" "debited" "[I" ∈ wsX2_book := by decide +kernel
theorem lk_X2_book_RX2_25 : Cond.fieldLink RX2 25 "CircusLedger$Books" "credited" "[I" ∈ wsX2_book := by decide +kernel
theorem lk_X2_book_RX2_28 : Cond.fieldLink RX2 28 "CircusLedger$Books" "amounts" "[I" ∈ wsX2_book := by decide +kernel
theorem lk_X2_book_RX2_37 : Cond.fieldLink RX2 37 "CircusLedger$Books" "entries" "I" ∈ wsX2_book := by decide +kernel
theorem in_X2_book_X2 : ∀ w ∈ u_ws RX2 TX2 7, w ∈ wsX2_book := by decide +kernel
def f_X2_book (B_balances : Nat → Int32) (B_entries : Int32) (B_debited : Nat → Int32) (B_credited : Nat → Int32) (B_amounts : Nat → Int32) (x1 : Int32) (x2 : Int32) (x3 : Int32) : Option (Int32 × (Nat → Int32) × Int32 × (Nat → Int32) × (Nat → Int32) × (Nat → Int32)) :=
  gin B_entries 60 (wkl (upd B_debited B_entries.toNatClampNeg x1) (fun g1 =>
  gin B_entries 60 (wkl (upd B_credited B_entries.toNatClampNeg x2) (fun g3 =>
  gin B_entries 60 (wkl (upd B_amounts B_entries.toNatClampNeg x3) (fun g5 =>
  wkl ((B_entries + 1)) (fun v7 =>
  gin x1 11 (gin x1 11 (wkl (upd B_balances x1.toNatClampNeg ((B_balances x1.toNatClampNeg) + x3)) (fun g9 =>
  gin x2 11 (gin x2 11 (wkl (upd g9 x2.toNatClampNeg ((g9 x2.toNatClampNeg) - x3)) (fun g12 =>
  some (B_entries, g12, v7, g1, g3, g5))))))))))))))
set_option maxHeartbeats 4000000 in
set_option maxRecDepth 100000 in
theorem c_X2_book (l : Launch) (dC : Nat → ClassId) (dI : Nat → Nat → Nat) (Y : Nat → ClassId) (a : Nat → Nat) (B_accounts : Int32) (B_balances : Nat → Int32) (B_balancesAtClosing : Nat → Int32) (B_entries : Int32) (B_debited : Nat → Int32) (B_credited : Nat → Int32) (B_amounts : Nat → Int32) (x1 : Int32) (x2 : Int32) (x3 : Int32) (sz : Nat) (r : Int32) (zB_balances : Nat → Int32) (zB_entries : Int32) (zB_debited : Nat → Int32) (zB_credited : Nat → Int32) (zB_amounts : Nat → Int32) (hf : f_X2_book B_balances B_entries B_debited B_credited B_amounts x1 x2 x3 = some (r, zB_balances, zB_entries, zB_debited, zB_credited, zB_amounts)) : Met l yX2_book wsX2_book ({ frames := 0, cells := 0, slots := 0, locals := 0 } : Room) (va_Pc [.ref (a 0), .int x1, .int x2, .int x3] (wk_E (dC, dI) Y (wX2 Y a B_accounts B_balances B_balancesAtClosing B_entries B_debited B_credited B_amounts) sz)) (va_Qi (fun r2 (_ : Unit) => r2 = r) (fun _ t => wk_X (dC, dI) Y (wX2 Y a B_accounts zB_balances B_balancesAtClosing zB_entries zB_debited zB_credited zB_amounts) (va_A (wX2 Y a B_accounts B_balances B_balancesAtClosing B_entries B_debited B_credited B_amounts) sz) t) (va_A (wX2 Y a B_accounts B_balances B_balancesAtClosing B_entries B_debited B_credited B_amounts) sz)) 0 0 (va_A (wX2 Y a B_accounts B_balances B_balancesAtClosing B_entries B_debited B_credited B_amounts) sz) := by
  refine Met.ofW (cc := cX2_book) (maxL := 5) (ret := (some .int)) (by decide) rfl ?_
  intro p e s m args below meth c s₁ B hml hv
  obtain ⟨rfl, hsz, hP, hK, hD0⟩ := hv
  have hx := B.exec
  have hb := B.bytes
  have hr := B.returns
  have hts := atoms_spec (ws := wsX2_book) B.pre
  have hown : s.vm.findClass RX2 = some m.cls := findClass_of_methodNamed B.named
  have hlocks := B.notSynchronized
  have C0 : wk_C p s m _ meth c cX2_book 5 (some .int) wsX2_book RX2 := ⟨hx, hb, hml, hr, hlocks, hown, hts⟩
  subst hsz
  have hD := hD0.self (sz := s.heap.size)
  generalize hAe : va_A (wX2 Y a B_accounts B_balances B_balancesAtClosing B_entries B_debited B_credited B_amounts) s.heap.size = A at hD ⊢
  have hA : ∀ q : Nat, s.heap.size ≤ q → A q := fun q h => by rw [← hAe]; exact Or.inr h
  have hS : va_S A s.heap s.heap [] := va_S.rf
  obtain ⟨H, hHe⟩ : ∃ H, H = s.heap := ⟨_, rfl⟩
  have hS : va_S A s.heap H [] := by rw [hHe]; exact hS
  have hP : va_P (dC, dI) vwCl [(a 0, .inr (4, [.int B_accounts, .ref (a 1), .ref (a 2), .int B_entries, .ref (a 3), .ref (a 4), .ref (a 5)])), (a 1, .inl (Y 0, 11, .inl B_balances)), (a 2, .inl (Y 0, 11, .inl B_balancesAtClosing)), (a 3, .inl (Y 0, 60, .inl B_debited)), (a 4, .inl (Y 0, 60, .inl B_credited)), (a 5, .inl (Y 0, 60, .inl B_amounts))] H := by rw [hHe]; exact hP
  have hD : va_D A [(a 0, .inr (4, [.int B_accounts, .ref (a 1), .ref (a 2), .int B_entries, .ref (a 3), .ref (a 4), .ref (a 5)])), (a 1, .inl (Y 0, 11, .inl B_balances)), (a 2, .inl (Y 0, 11, .inl B_balancesAtClosing)), (a 3, .inl (Y 0, 60, .inl B_debited)), (a 4, .inl (Y 0, 60, .inl B_credited)), (a 5, .inl (Y 0, 60, .inl B_amounts))] := hD
  obtain ⟨locs, hlo⟩ : ∃ locs : List Loc, locs = [] := ⟨_, rfl⟩
  have hS : va_S A s.heap H locs := by rw [hlo]; exact hS
  have hl := lv_entry ([.ref (a 0), .int x1, .int x2, .int x3]) (n := 5) (Nat.le_of_ble_eq_true rfl)
  rw [lg_entry_eq]
  generalize (lg_sl ([.ref (a 0), .int x1, .int x2, .int x3]) ++ List.replicate (5 - (lg_sl ([.ref (a 0), .int x1, .int x2, .int x3])).length) Slot.unset).toArray = ls at hl ⊢
  have hl : lv_has ls 5 [(0, .ref (a 0)), (1, .int x1), (2, .int x2), (3, .int x3)] := hl
  refine wk_start hHe hlo ?_
  rw [f_X2_book] at hf
  refine lv_aload_n hx hb dX2_book_0 rfl (lv_at hl 0 rfl) ?_
  refine va_get (D := (dC, dI)) (ci := 4) (v := .int B_entries) (C := RX2) (T := TX2) (N := 7) hx hb hts in_X2_book_X2 hown hK hP 0 rfl rfl 3 (by decide) (hts _ lk_X2_book_RX2_37) (fun _ h9 => h9) rfl dX2_book_1 ?_
  refine lv_istore (lv' := [(4, .int B_entries), (0, .ref (a 0)), (1, .int x1), (2, .int x2), (3, .int x3)]) hx hb dX2_book_4 hl (by decide) rfl (fun ls hl => ?_)
  refine lv_aload_n hx hb dX2_book_6 rfl (lv_at hl 1 rfl) ?_
  refine va_get (D := (dC, dI)) (ci := 4) (v := .ref (a 3)) (C := RX2) (T := TX2) (N := 7) hx hb hts in_X2_book_X2 hown hK hP 0 rfl rfl 4 (by decide) (hts _ lk_X2_book_RX2_22) (fun _ h9 => h9) rfl dX2_book_7 ?_
  refine lv_iload hx hb dX2_book_10 (lv_at hl 0 rfl) ?_
  refine lv_iload_n hx hb dX2_book_12 rfl (lv_at hl 2 rfl) ?_
  obtain ⟨h2, hf⟩ := gin_s hf
  refine wk_iast hx hb hK hP hD hS 3 0 (k := B_entries.toNatClampNeg) rfl rfl h2 rfl dX2_book_13 (fun g1 H locs eg1 hP hD hS => ?_)
  have hP : va_P (dC, dI) vwCl [(a 0, .inr (4, [.int B_accounts, .ref (a 1), .ref (a 2), .int B_entries, .ref (a 3), .ref (a 4), .ref (a 5)])), (a 1, .inl (Y 0, 11, .inl B_balances)), (a 2, .inl (Y 0, 11, .inl B_balancesAtClosing)), (a 3, .inl (Y 0, 60, .inl g1)), (a 4, .inl (Y 0, 60, .inl B_credited)), (a 5, .inl (Y 0, 60, .inl B_amounts))] H := hP
  have hD : va_D A [(a 0, .inr (4, [.int B_accounts, .ref (a 1), .ref (a 2), .int B_entries, .ref (a 3), .ref (a 4), .ref (a 5)])), (a 1, .inl (Y 0, 11, .inl B_balances)), (a 2, .inl (Y 0, 11, .inl B_balancesAtClosing)), (a 3, .inl (Y 0, 60, .inl g1)), (a 4, .inl (Y 0, 60, .inl B_credited)), (a 5, .inl (Y 0, 60, .inl B_amounts))] := hD
  have hf := wkl_s hf eg1
  refine lv_aload_n hx hb dX2_book_14 rfl (lv_at hl 1 rfl) ?_
  refine va_get (D := (dC, dI)) (ci := 4) (v := .ref (a 4)) (C := RX2) (T := TX2) (N := 7) hx hb hts in_X2_book_X2 hown hK hP 0 rfl rfl 5 (by decide) (hts _ lk_X2_book_RX2_25) (fun _ h9 => h9) rfl dX2_book_15 ?_
  refine lv_iload hx hb dX2_book_18 (lv_at hl 0 rfl) ?_
  refine lv_iload_n hx hb dX2_book_20 rfl (lv_at hl 3 rfl) ?_
  obtain ⟨h4, hf⟩ := gin_s hf
  refine wk_iast hx hb hK hP hD hS 4 0 (k := B_entries.toNatClampNeg) rfl rfl h4 rfl dX2_book_21 (fun g3 H locs eg3 hP hD hS => ?_)
  have hP : va_P (dC, dI) vwCl [(a 0, .inr (4, [.int B_accounts, .ref (a 1), .ref (a 2), .int B_entries, .ref (a 3), .ref (a 4), .ref (a 5)])), (a 1, .inl (Y 0, 11, .inl B_balances)), (a 2, .inl (Y 0, 11, .inl B_balancesAtClosing)), (a 3, .inl (Y 0, 60, .inl g1)), (a 4, .inl (Y 0, 60, .inl g3)), (a 5, .inl (Y 0, 60, .inl B_amounts))] H := hP
  have hD : va_D A [(a 0, .inr (4, [.int B_accounts, .ref (a 1), .ref (a 2), .int B_entries, .ref (a 3), .ref (a 4), .ref (a 5)])), (a 1, .inl (Y 0, 11, .inl B_balances)), (a 2, .inl (Y 0, 11, .inl B_balancesAtClosing)), (a 3, .inl (Y 0, 60, .inl g1)), (a 4, .inl (Y 0, 60, .inl g3)), (a 5, .inl (Y 0, 60, .inl B_amounts))] := hD
  have hf := wkl_s hf eg3
  refine lv_aload_n hx hb dX2_book_22 rfl (lv_at hl 1 rfl) ?_
  refine va_get (D := (dC, dI)) (ci := 4) (v := .ref (a 5)) (C := RX2) (T := TX2) (N := 7) hx hb hts in_X2_book_X2 hown hK hP 0 rfl rfl 6 (by decide) (hts _ lk_X2_book_RX2_28) (fun _ h9 => h9) rfl dX2_book_23 ?_
  refine lv_iload hx hb dX2_book_26 (lv_at hl 0 rfl) ?_
  refine lv_iload_n hx hb dX2_book_28 rfl (lv_at hl 4 rfl) ?_
  obtain ⟨h6, hf⟩ := gin_s hf
  refine wk_iast hx hb hK hP hD hS 5 0 (k := B_entries.toNatClampNeg) rfl rfl h6 rfl dX2_book_29 (fun g5 H locs eg5 hP hD hS => ?_)
  have hP : va_P (dC, dI) vwCl [(a 0, .inr (4, [.int B_accounts, .ref (a 1), .ref (a 2), .int B_entries, .ref (a 3), .ref (a 4), .ref (a 5)])), (a 1, .inl (Y 0, 11, .inl B_balances)), (a 2, .inl (Y 0, 11, .inl B_balancesAtClosing)), (a 3, .inl (Y 0, 60, .inl g1)), (a 4, .inl (Y 0, 60, .inl g3)), (a 5, .inl (Y 0, 60, .inl g5))] H := hP
  have hD : va_D A [(a 0, .inr (4, [.int B_accounts, .ref (a 1), .ref (a 2), .int B_entries, .ref (a 3), .ref (a 4), .ref (a 5)])), (a 1, .inl (Y 0, 11, .inl B_balances)), (a 2, .inl (Y 0, 11, .inl B_balancesAtClosing)), (a 3, .inl (Y 0, 60, .inl g1)), (a 4, .inl (Y 0, 60, .inl g3)), (a 5, .inl (Y 0, 60, .inl g5))] := hD
  have hf := wkl_s hf eg5
  refine lv_aload_n hx hb dX2_book_30 rfl (lv_at hl 1 rfl) ?_
  refine lv_dup hx hb dX2_book_31 rfl ?_
  refine va_get (D := (dC, dI)) (ci := 4) (v := .int B_entries) (C := RX2) (T := TX2) (N := 7) hx hb hts in_X2_book_X2 hown hK hP 0 rfl rfl 3 (by decide) (hts _ lk_X2_book_RX2_37) (fun _ h9 => h9) rfl dX2_book_32 ?_
  refine lv_iconst (v := 1) hx hb dX2_book_35 (by decide) ?_
  refine lv_iadd hx hb dX2_book_36 ?_
  refine lv_topi (fun v7 ev7 => ?_)
  have hf := wkl_s hf ev7
  refine va_put (D := (dC, dI)) (ci := 4) (v := .int v7) (ty := .int) (C := RX2) (T := TX2) (N := 7) hx hb hts in_X2_book_X2 tyX2 tyX2_ok nmX2 hown hK hP hD hS 0 rfl rfl 3 (by decide) (hts _ lk_X2_book_RX2_37) (fun _ h9 => h9) rfl (by decide +kernel) rfl rfl (Nat.le_of_ble_eq_true rfl) dX2_book_37 (fun H locs hP hD hS => ?_)
  have hP : va_P (dC, dI) vwCl [(a 0, .inr (4, [.int B_accounts, .ref (a 1), .ref (a 2), .int v7, .ref (a 3), .ref (a 4), .ref (a 5)])), (a 1, .inl (Y 0, 11, .inl B_balances)), (a 2, .inl (Y 0, 11, .inl B_balancesAtClosing)), (a 3, .inl (Y 0, 60, .inl g1)), (a 4, .inl (Y 0, 60, .inl g3)), (a 5, .inl (Y 0, 60, .inl g5))] H := hP
  have hD : va_D A [(a 0, .inr (4, [.int B_accounts, .ref (a 1), .ref (a 2), .int v7, .ref (a 3), .ref (a 4), .ref (a 5)])), (a 1, .inl (Y 0, 11, .inl B_balances)), (a 2, .inl (Y 0, 11, .inl B_balancesAtClosing)), (a 3, .inl (Y 0, 60, .inl g1)), (a 4, .inl (Y 0, 60, .inl g3)), (a 5, .inl (Y 0, 60, .inl g5))] := hD
  refine lv_aload_n hx hb dX2_book_40 rfl (lv_at hl 1 rfl) ?_
  refine va_get (D := (dC, dI)) (ci := 4) (v := .ref (a 1)) (C := RX2) (T := TX2) (N := 7) hx hb hts in_X2_book_X2 hown hK hP 0 rfl rfl 1 (by decide) (hts _ lk_X2_book_RX2_15) (fun _ h9 => h9) rfl dX2_book_41 ?_
  refine lv_iload_n hx hb dX2_book_44 rfl (lv_at hl 2 rfl) ?_
  refine lv_dup2_11 hx hb dX2_book_45 rfl rfl ?_
  obtain ⟨h8, hf⟩ := gin_s hf
  refine wk_iald hx hb hK hP 1 0 rfl rfl h8 rfl dX2_book_46 ?_
  refine lv_iload_n hx hb dX2_book_47 rfl (lv_at hl 4 rfl) ?_
  refine lv_iadd hx hb dX2_book_48 ?_
  obtain ⟨h10, hf⟩ := gin_s hf
  refine wk_iast hx hb hK hP hD hS 1 0 (k := x1.toNatClampNeg) rfl rfl h10 rfl dX2_book_49 (fun g9 H locs eg9 hP hD hS => ?_)
  have hP : va_P (dC, dI) vwCl [(a 0, .inr (4, [.int B_accounts, .ref (a 1), .ref (a 2), .int v7, .ref (a 3), .ref (a 4), .ref (a 5)])), (a 1, .inl (Y 0, 11, .inl g9)), (a 2, .inl (Y 0, 11, .inl B_balancesAtClosing)), (a 3, .inl (Y 0, 60, .inl g1)), (a 4, .inl (Y 0, 60, .inl g3)), (a 5, .inl (Y 0, 60, .inl g5))] H := hP
  have hD : va_D A [(a 0, .inr (4, [.int B_accounts, .ref (a 1), .ref (a 2), .int v7, .ref (a 3), .ref (a 4), .ref (a 5)])), (a 1, .inl (Y 0, 11, .inl g9)), (a 2, .inl (Y 0, 11, .inl B_balancesAtClosing)), (a 3, .inl (Y 0, 60, .inl g1)), (a 4, .inl (Y 0, 60, .inl g3)), (a 5, .inl (Y 0, 60, .inl g5))] := hD
  have hf := wkl_s hf eg9
  refine lv_aload_n hx hb dX2_book_50 rfl (lv_at hl 1 rfl) ?_
  refine va_get (D := (dC, dI)) (ci := 4) (v := .ref (a 1)) (C := RX2) (T := TX2) (N := 7) hx hb hts in_X2_book_X2 hown hK hP 0 rfl rfl 1 (by decide) (hts _ lk_X2_book_RX2_15) (fun _ h9 => h9) rfl dX2_book_51 ?_
  refine lv_iload_n hx hb dX2_book_54 rfl (lv_at hl 3 rfl) ?_
  refine lv_dup2_11 hx hb dX2_book_55 rfl rfl ?_
  obtain ⟨h11, hf⟩ := gin_s hf
  refine wk_iald hx hb hK hP 1 0 rfl rfl h11 rfl dX2_book_56 ?_
  refine lv_iload_n hx hb dX2_book_57 rfl (lv_at hl 4 rfl) ?_
  refine lv_isub hx hb dX2_book_58 ?_
  obtain ⟨h13, hf⟩ := gin_s hf
  refine wk_iast hx hb hK hP hD hS 1 0 (k := x2.toNatClampNeg) rfl rfl h13 rfl dX2_book_59 (fun g12 H locs eg12 hP hD hS => ?_)
  have hP : va_P (dC, dI) vwCl [(a 0, .inr (4, [.int B_accounts, .ref (a 1), .ref (a 2), .int v7, .ref (a 3), .ref (a 4), .ref (a 5)])), (a 1, .inl (Y 0, 11, .inl g12)), (a 2, .inl (Y 0, 11, .inl B_balancesAtClosing)), (a 3, .inl (Y 0, 60, .inl g1)), (a 4, .inl (Y 0, 60, .inl g3)), (a 5, .inl (Y 0, 60, .inl g5))] H := hP
  have hD : va_D A [(a 0, .inr (4, [.int B_accounts, .ref (a 1), .ref (a 2), .int v7, .ref (a 3), .ref (a 4), .ref (a 5)])), (a 1, .inl (Y 0, 11, .inl g12)), (a 2, .inl (Y 0, 11, .inl B_balancesAtClosing)), (a 3, .inl (Y 0, 60, .inl g1)), (a 4, .inl (Y 0, 60, .inl g3)), (a 5, .inl (Y 0, 60, .inl g5))] := hD
  have hf := wkl_s hf eg12
  refine lv_iload hx hb dX2_book_60 (lv_at hl 0 rfl) ?_
  obtain ⟨e0, e1, e2, e3, e4, e5⟩ := wke6 hf
  subst e0
  subst e1
  subst e2
  subst e3
  subst e4
  subst e5
  have hP9 := hP.sub (ws' := (wX2 Y a B_accounts g12 B_balancesAtClosing v7 g1 g3 g5)) [0, 1, 2, 3, 4, 5] rfl
  have hD9 := hD.sub (ws' := (wX2 Y a B_accounts g12 B_balancesAtClosing v7 g1 g3 g5)) [0, 1, 2, 3, 4, 5] (by decide) rfl
  exact W.iret (v := B_entries) hx hb hr (fun t ht hW => ⟨⟨B_entries, (), rfl, rfl, by rw [ht]; exact hP9, va_K.moved hW.alike hK, hD9⟩, hS.F ht⟩) hS.2.2 dX2_book_62
theorem lk_X2_close_RX2_15 : Cond.fieldLink RX2 15 "CircusLedger$Books" "balances" "[I" ∈ wsX2_close := by decide +kernel
theorem lk_X2_close_RX2_19 : Cond.fieldLink RX2 19 "CircusLedger$Books" "balancesAtClosing" "[I" ∈ wsX2_close := by decide +kernel
theorem lk_X2_close_RX2_37 : Cond.fieldLink RX2 37 "CircusLedger$Books" "entries" "I" ∈ wsX2_close := by decide +kernel
theorem ac_X2_close_RX2_31 : Cond.methodLink RX2 31 arraycopyName ∈ wsX2_close ∧ Cond.native arraycopyName ∈ wsX2_close ∧ Cond.static arraycopyName ∈ wsX2_close ∧ Cond.initialized "java/lang/System" ∈ wsX2_close := ⟨by decide +kernel, by decide +kernel, by decide +kernel, by decide +kernel⟩
theorem in_X2_close_X2 : ∀ w ∈ u_ws RX2 TX2 7, w ∈ wsX2_close := by decide +kernel
def f_X2_close (B_balances : Nat → Int32) (B_balancesAtClosing : Nat → Int32) (B_entries : Int32) : Option (Int32 × (Nat → Int32) × Int32) :=
  wkl (va_cpy B_balances B_balancesAtClosing 0 0 11) (fun g1 =>
  some (B_entries, g1, 0))
set_option maxHeartbeats 4000000 in
set_option maxRecDepth 100000 in
theorem c_X2_close (l : Launch) (dC : Nat → ClassId) (dI : Nat → Nat → Nat) (Y : Nat → ClassId) (a : Nat → Nat) (B_accounts : Int32) (B_balances : Nat → Int32) (B_balancesAtClosing : Nat → Int32) (B_entries : Int32) (B_debited : Nat → Int32) (B_credited : Nat → Int32) (B_amounts : Nat → Int32)  (sz : Nat) (r : Int32) (zB_balancesAtClosing : Nat → Int32) (zB_entries : Int32) (hf : f_X2_close B_balances B_balancesAtClosing B_entries = some (r, zB_balancesAtClosing, zB_entries)) : Met l yX2_close wsX2_close ({ frames := 1, cells := 0, slots := 0, locals := 200 } : Room) (va_Pc [.ref (a 0)] (wk_E (dC, dI) Y (wX2 Y a B_accounts B_balances B_balancesAtClosing B_entries B_debited B_credited B_amounts) sz)) (va_Qi (fun r2 (_ : Unit) => r2 = r) (fun _ t => wk_X (dC, dI) Y (wX2 Y a B_accounts B_balances zB_balancesAtClosing zB_entries B_debited B_credited B_amounts) (va_A (wX2 Y a B_accounts B_balances B_balancesAtClosing B_entries B_debited B_credited B_amounts) sz) t) (va_A (wX2 Y a B_accounts B_balances B_balancesAtClosing B_entries B_debited B_credited B_amounts) sz)) 0 0 (va_A (wX2 Y a B_accounts B_balances B_balancesAtClosing B_entries B_debited B_credited B_amounts) sz) := by
  refine Met.ofW (cc := cX2_close) (maxL := 2) (ret := (some .int)) (by decide) rfl ?_
  intro p e s m args below meth c s₁ B hml hv
  obtain ⟨rfl, hsz, hP, hK, hD0⟩ := hv
  have hx := B.exec
  have hb := B.bytes
  have hr := B.returns
  have hts := atoms_spec (ws := wsX2_close) B.pre
  have hown : s.vm.findClass RX2 = some m.cls := findClass_of_methodNamed B.named
  have hlocks := B.notSynchronized
  have C0 : wk_C p s m _ meth c cX2_close 2 (some .int) wsX2_close RX2 := ⟨hx, hb, hml, hr, hlocks, hown, hts⟩
  subst hsz
  have hD := hD0.self (sz := s.heap.size)
  generalize hAe : va_A (wX2 Y a B_accounts B_balances B_balancesAtClosing B_entries B_debited B_credited B_amounts) s.heap.size = A at hD ⊢
  have hA : ∀ q : Nat, s.heap.size ≤ q → A q := fun q h => by rw [← hAe]; exact Or.inr h
  have hS : va_S A s.heap s.heap [] := va_S.rf
  obtain ⟨H, hHe⟩ : ∃ H, H = s.heap := ⟨_, rfl⟩
  have hS : va_S A s.heap H [] := by rw [hHe]; exact hS
  have hP : va_P (dC, dI) vwCl [(a 0, .inr (4, [.int B_accounts, .ref (a 1), .ref (a 2), .int B_entries, .ref (a 3), .ref (a 4), .ref (a 5)])), (a 1, .inl (Y 0, 11, .inl B_balances)), (a 2, .inl (Y 0, 11, .inl B_balancesAtClosing)), (a 3, .inl (Y 0, 60, .inl B_debited)), (a 4, .inl (Y 0, 60, .inl B_credited)), (a 5, .inl (Y 0, 60, .inl B_amounts))] H := by rw [hHe]; exact hP
  have hD : va_D A [(a 0, .inr (4, [.int B_accounts, .ref (a 1), .ref (a 2), .int B_entries, .ref (a 3), .ref (a 4), .ref (a 5)])), (a 1, .inl (Y 0, 11, .inl B_balances)), (a 2, .inl (Y 0, 11, .inl B_balancesAtClosing)), (a 3, .inl (Y 0, 60, .inl B_debited)), (a 4, .inl (Y 0, 60, .inl B_credited)), (a 5, .inl (Y 0, 60, .inl B_amounts))] := hD
  obtain ⟨locs, hlo⟩ : ∃ locs : List Loc, locs = [] := ⟨_, rfl⟩
  have hS : va_S A s.heap H locs := by rw [hlo]; exact hS
  have hl := lv_entry ([.ref (a 0)]) (n := 2) (Nat.le_of_ble_eq_true rfl)
  rw [lg_entry_eq]
  generalize (lg_sl ([.ref (a 0)]) ++ List.replicate (2 - (lg_sl ([.ref (a 0)])).length) Slot.unset).toArray = ls at hl ⊢
  have hl : lv_has ls 2 [(0, .ref (a 0))] := hl
  refine wk_start hHe hlo ?_
  rw [f_X2_close] at hf
  refine lv_aload_n hx hb dX2_close_0 rfl (lv_at hl 0 rfl) ?_
  refine va_get (D := (dC, dI)) (ci := 4) (v := .int B_entries) (C := RX2) (T := TX2) (N := 7) hx hb hts in_X2_close_X2 hown hK hP 0 rfl rfl 3 (by decide) (hts _ lk_X2_close_RX2_37) (fun _ h9 => h9) rfl dX2_close_1 ?_
  refine lv_istore_n (lv' := [(1, .int B_entries), (0, .ref (a 0))]) hx hb dX2_close_4 rfl hl (by decide) rfl (fun ls hl => ?_)
  refine lv_aload_n hx hb dX2_close_5 rfl (lv_at hl 1 rfl) ?_
  refine lv_iconst (v := 0) hx hb dX2_close_6 (by decide) ?_
  refine va_put (D := (dC, dI)) (ci := 4) (v := .int 0) (ty := .int) (C := RX2) (T := TX2) (N := 7) hx hb hts in_X2_close_X2 tyX2 tyX2_ok nmX2 hown hK hP hD hS 0 rfl rfl 3 (by decide) (hts _ lk_X2_close_RX2_37) (fun _ h9 => h9) rfl (by decide +kernel) rfl rfl (Nat.le_of_ble_eq_true rfl) dX2_close_7 (fun H locs hP hD hS => ?_)
  have hP : va_P (dC, dI) vwCl [(a 0, .inr (4, [.int B_accounts, .ref (a 1), .ref (a 2), .int 0, .ref (a 3), .ref (a 4), .ref (a 5)])), (a 1, .inl (Y 0, 11, .inl B_balances)), (a 2, .inl (Y 0, 11, .inl B_balancesAtClosing)), (a 3, .inl (Y 0, 60, .inl B_debited)), (a 4, .inl (Y 0, 60, .inl B_credited)), (a 5, .inl (Y 0, 60, .inl B_amounts))] H := hP
  have hD : va_D A [(a 0, .inr (4, [.int B_accounts, .ref (a 1), .ref (a 2), .int 0, .ref (a 3), .ref (a 4), .ref (a 5)])), (a 1, .inl (Y 0, 11, .inl B_balances)), (a 2, .inl (Y 0, 11, .inl B_balancesAtClosing)), (a 3, .inl (Y 0, 60, .inl B_debited)), (a 4, .inl (Y 0, 60, .inl B_credited)), (a 5, .inl (Y 0, 60, .inl B_amounts))] := hD
  refine lv_aload_n hx hb dX2_close_10 rfl (lv_at hl 1 rfl) ?_
  refine va_get (D := (dC, dI)) (ci := 4) (v := .ref (a 1)) (C := RX2) (T := TX2) (N := 7) hx hb hts in_X2_close_X2 hown hK hP 0 rfl rfl 1 (by decide) (hts _ lk_X2_close_RX2_15) (fun _ h9 => h9) rfl dX2_close_11 ?_
  refine lv_iconst (v := 0) hx hb dX2_close_14 (by decide) ?_
  refine lv_aload_n hx hb dX2_close_15 rfl (lv_at hl 1 rfl) ?_
  refine va_get (D := (dC, dI)) (ci := 4) (v := .ref (a 2)) (C := RX2) (T := TX2) (N := 7) hx hb hts in_X2_close_X2 hown hK hP 0 rfl rfl 2 (by decide) (hts _ lk_X2_close_RX2_19) (fun _ h9 => h9) rfl dX2_close_16 ?_
  refine lv_iconst (v := 0) hx hb dX2_close_19 (by decide) ?_
  refine lv_bipush (v := 11) hx hb dX2_close_20 (by decide) ?_
  refine wk_acopy (s1 := 0) (d1 := 0) (k1 := 11) (rest := []) hx hb (hml.trans hl.1.symm) hown (hts _ ac_X2_close_RX2_31.1) (hts _ ac_X2_close_RX2_31.2.1) (hts _ ac_X2_close_RX2_31.2.2.1) (hts _ ac_X2_close_RX2_31.2.2.2) hK hP hD hS 1 2 rfl rfl (by decide) (by decide) (by decide) (by decide) (by decide) (Nat.le_of_ble_eq_true rfl) (Nat.le_of_ble_eq_true rfl) dX2_close_22 (fun g1 H locs eg1 hP hD hS => ?_)
  have hP : va_P (dC, dI) vwCl [(a 0, .inr (4, [.int B_accounts, .ref (a 1), .ref (a 2), .int 0, .ref (a 3), .ref (a 4), .ref (a 5)])), (a 1, .inl (Y 0, 11, .inl B_balances)), (a 2, .inl (Y 0, 11, .inl g1)), (a 3, .inl (Y 0, 60, .inl B_debited)), (a 4, .inl (Y 0, 60, .inl B_credited)), (a 5, .inl (Y 0, 60, .inl B_amounts))] H := hP
  have hD : va_D A [(a 0, .inr (4, [.int B_accounts, .ref (a 1), .ref (a 2), .int 0, .ref (a 3), .ref (a 4), .ref (a 5)])), (a 1, .inl (Y 0, 11, .inl B_balances)), (a 2, .inl (Y 0, 11, .inl g1)), (a 3, .inl (Y 0, 60, .inl B_debited)), (a 4, .inl (Y 0, 60, .inl B_credited)), (a 5, .inl (Y 0, 60, .inl B_amounts))] := hD
  have hf := wkl_s hf eg1
  refine lv_iload_n hx hb dX2_close_25 rfl (lv_at hl 0 rfl) ?_
  obtain ⟨e0, e1, e2⟩ := wke3 hf
  subst e0
  subst e1
  subst e2
  have hP9 := hP.sub (ws' := (wX2 Y a B_accounts B_balances g1 0 B_debited B_credited B_amounts)) [0, 1, 2, 3, 4, 5] rfl
  have hD9 := hD.sub (ws' := (wX2 Y a B_accounts B_balances g1 0 B_debited B_credited B_amounts)) [0, 1, 2, 3, 4, 5] (by decide) rfl
  exact W.iret (v := B_entries) hx hb hr (fun t ht hW => ⟨⟨B_entries, (), rfl, rfl, by rw [ht]; exact hP9, va_K.moved hW.alike hK, hD9⟩, hS.F ht⟩) hS.2.2 dX2_close_26
theorem lk_X2_areOpposed_RX2_15 : Cond.fieldLink RX2 15 "CircusLedger$Books" "balances" "[I" ∈ wsX2_areOpposed := by decide +kernel
theorem mx_X2_areOpposed_RX2_40 : Cond.methodLink RX2 40 Lib.Math.min.name ∈ wsX2_areOpposed ∧ Cond.static Lib.Math.min.name ∈ wsX2_areOpposed ∧ Cond.initialized "java/lang/Math" ∈ wsX2_areOpposed ∧ Cond.code Lib.Math.min.name Lib.Math.min.code 2 (some .int) ∈ wsX2_areOpposed := ⟨by decide +kernel, by decide +kernel, by decide +kernel, by decide +kernel⟩
theorem mx_X2_areOpposed_RX2_46 : Cond.methodLink RX2 46 Lib.Math.max.name ∈ wsX2_areOpposed ∧ Cond.static Lib.Math.max.name ∈ wsX2_areOpposed ∧ Cond.initialized "java/lang/Math" ∈ wsX2_areOpposed ∧ Cond.code Lib.Math.max.name Lib.Math.max.code 2 (some .int) ∈ wsX2_areOpposed := ⟨by decide +kernel, by decide +kernel, by decide +kernel, by decide +kernel⟩
theorem in_X2_areOpposed_X2 : ∀ w ∈ u_ws RX2 TX2 7, w ∈ wsX2_areOpposed := by decide +kernel
def f_X2_areOpposed (B_balances : Nat → Int32) (x1 : Int32) (x2 : Int32) : Option (Int32) :=
  gin x1 11 (gin x2 11 (if (0 : Int32) ≤ (if (B_balances x2.toNatClampNeg) < (B_balances x1.toNatClampNeg) then (B_balances x2.toNatClampNeg) else (B_balances x1.toNatClampNeg)) then
    (some (0))
  else
    (gin x1 11 (gin x2 11 (if (if (B_balances x1.toNatClampNeg) < (B_balances x2.toNatClampNeg) then (B_balances x2.toNatClampNeg) else (B_balances x1.toNatClampNeg)) ≤ 0 then
      (some (0))
    else
      (some (1)))))))
set_option maxHeartbeats 4000000 in
set_option maxRecDepth 100000 in
theorem c_X2_areOpposed (l : Launch) (dC : Nat → ClassId) (dI : Nat → Nat → Nat) (Y : Nat → ClassId) (a : Nat → Nat) (B_accounts : Int32) (B_balances : Nat → Int32) (B_balancesAtClosing : Nat → Int32) (B_entries : Int32) (B_debited : Nat → Int32) (B_credited : Nat → Int32) (B_amounts : Nat → Int32) (x1 : Int32) (x2 : Int32) (r : Int32) (hf : f_X2_areOpposed B_balances x1 x2 = some (r)) : Met l yX2_areOpposed wsX2_areOpposed ({ frames := 1, cells := 0, slots := 0, locals := 21 } : Room) (va_Pc [.ref (a 0), .int x1, .int x2] (wk_B (dC, dI) Y (wX2 Y a B_accounts B_balances B_balancesAtClosing B_entries B_debited B_credited B_amounts))) (vp_Si (fun r2 => r2 = r)) 0 0 (fun _ => False) := by
  refine Met.ofW (cc := cX2_areOpposed) (maxL := 3) (ret := (some .boolean)) (by decide) rfl ?_
  intro p e s m args below meth c s₁ B hml hv
  obtain ⟨rfl, hP, hK⟩ := hv
  have hx := B.exec
  have hb := B.bytes
  have hr := B.returns
  have hts := atoms_spec (ws := wsX2_areOpposed) B.pre
  have hown : s.vm.findClass RX2 = some m.cls := findClass_of_methodNamed B.named
  have hlocks := B.notSynchronized
  have C0 : wk_C p s m _ meth c cX2_areOpposed 3 (some .boolean) wsX2_areOpposed RX2 := ⟨hx, hb, hml, hr, hlocks, hown, hts⟩
  have hP : va_P (dC, dI) vwCl [(a 0, .inr (4, [.int B_accounts, .ref (a 1), .ref (a 2), .int B_entries, .ref (a 3), .ref (a 4), .ref (a 5)])), (a 1, .inl (Y 0, 11, .inl B_balances)), (a 2, .inl (Y 0, 11, .inl B_balancesAtClosing)), (a 3, .inl (Y 0, 60, .inl B_debited)), (a 4, .inl (Y 0, 60, .inl B_credited)), (a 5, .inl (Y 0, 60, .inl B_amounts))] s.heap := hP
  have hl := lv_entry ([.ref (a 0), .int x1, .int x2]) (n := 3) (Nat.le_of_ble_eq_true rfl)
  rw [lg_entry_eq]
  generalize (lg_sl ([.ref (a 0), .int x1, .int x2]) ++ List.replicate (3 - (lg_sl ([.ref (a 0), .int x1, .int x2])).length) Slot.unset).toArray = ls at hl ⊢
  have hl : lv_has ls 3 [(0, .ref (a 0)), (1, .int x1), (2, .int x2)] := hl
  rw [f_X2_areOpposed] at hf
  refine lv_aload_n hx hb dX2_areOpposed_0 rfl (lv_at hl 0 rfl) ?_
  refine va_get (D := (dC, dI)) (ci := 4) (v := .ref (a 1)) (C := RX2) (T := TX2) (N := 7) hx hb hts in_X2_areOpposed_X2 hown hK hP 0 rfl rfl 1 (by decide) (hts _ lk_X2_areOpposed_RX2_15) (fun _ h9 => h9) rfl dX2_areOpposed_1 ?_
  refine lv_iload_n hx hb dX2_areOpposed_4 rfl (lv_at hl 1 rfl) ?_
  obtain ⟨h1, hf⟩ := gin_s hf
  refine wk_iald hx hb hK hP 1 0 rfl rfl h1 rfl dX2_areOpposed_5 ?_
  refine lv_aload_n hx hb dX2_areOpposed_6 rfl (lv_at hl 0 rfl) ?_
  refine va_get (D := (dC, dI)) (ci := 4) (v := .ref (a 1)) (C := RX2) (T := TX2) (N := 7) hx hb hts in_X2_areOpposed_X2 hown hK hP 0 rfl rfl 1 (by decide) (hts _ lk_X2_areOpposed_RX2_15) (fun _ h9 => h9) rfl dX2_areOpposed_7 ?_
  refine lv_iload_n hx hb dX2_areOpposed_10 rfl (lv_at hl 2 rfl) ?_
  obtain ⟨h2, hf⟩ := gin_s hf
  refine wk_iald hx hb hK hP 1 0 rfl rfl h2 rfl dX2_areOpposed_11 ?_
  refine va_mmin hx hb (hml.trans hl.1.symm) hown (hts _ mx_X2_areOpposed_RX2_40.1) (hts _ mx_X2_areOpposed_RX2_40.2.1) (hts _ mx_X2_areOpposed_RX2_40.2.2.1) (hts _ mx_X2_areOpposed_RX2_40.2.2.2) (Nat.le_of_ble_eq_true rfl) (Nat.le_of_ble_eq_true rfl) (Nat.le_of_ble_eq_true rfl) (Nat.le_of_ble_eq_true rfl) dX2_areOpposed_12 ?_
  refine lv_if_ge (tgt := 40) hx hb dX2_areOpposed_15 (by decide) (fun q3 => ?_) (fun q3 => ?_)
  · have hf := wk_t hf q3
    refine lv_iconst (v := 0) hx hb dX2_areOpposed_40 (by decide) ?_
    have e0 := wke1 hf
    subst e0
    exact W.zret (v := 0) (ty := .boolean) hx hb hr rfl (fun t ht hW => ⟨0, rfl, rfl, ht⟩) (fun q h => absurd h List.not_mem_nil) dX2_areOpposed_41
  · have hf := wk_f hf q3
    refine lv_aload_n hx hb dX2_areOpposed_18 rfl (lv_at hl 0 rfl) ?_
    refine va_get (D := (dC, dI)) (ci := 4) (v := .ref (a 1)) (C := RX2) (T := TX2) (N := 7) hx hb hts in_X2_areOpposed_X2 hown hK hP 0 rfl rfl 1 (by decide) (hts _ lk_X2_areOpposed_RX2_15) (fun _ h9 => h9) rfl dX2_areOpposed_19 ?_
    refine lv_iload_n hx hb dX2_areOpposed_22 rfl (lv_at hl 1 rfl) ?_
    obtain ⟨h4, hf⟩ := gin_s hf
    refine wk_iald hx hb hK hP 1 0 rfl rfl h4 rfl dX2_areOpposed_23 ?_
    refine lv_aload_n hx hb dX2_areOpposed_24 rfl (lv_at hl 0 rfl) ?_
    refine va_get (D := (dC, dI)) (ci := 4) (v := .ref (a 1)) (C := RX2) (T := TX2) (N := 7) hx hb hts in_X2_areOpposed_X2 hown hK hP 0 rfl rfl 1 (by decide) (hts _ lk_X2_areOpposed_RX2_15) (fun _ h9 => h9) rfl dX2_areOpposed_25 ?_
    refine lv_iload_n hx hb dX2_areOpposed_28 rfl (lv_at hl 2 rfl) ?_
    obtain ⟨h5, hf⟩ := gin_s hf
    refine wk_iald hx hb hK hP 1 0 rfl rfl h5 rfl dX2_areOpposed_29 ?_
    refine va_mmax hx hb (hml.trans hl.1.symm) hown (hts _ mx_X2_areOpposed_RX2_46.1) (hts _ mx_X2_areOpposed_RX2_46.2.1) (hts _ mx_X2_areOpposed_RX2_46.2.2.1) (hts _ mx_X2_areOpposed_RX2_46.2.2.2) (Nat.le_of_ble_eq_true rfl) (Nat.le_of_ble_eq_true rfl) (Nat.le_of_ble_eq_true rfl) (Nat.le_of_ble_eq_true rfl) dX2_areOpposed_30 ?_
    refine lv_if_le (tgt := 40) hx hb dX2_areOpposed_33 (by decide) (fun q6 => ?_) (fun q6 => ?_)
    · have hf := wk_t hf q6
      refine lv_iconst (v := 0) hx hb dX2_areOpposed_40 (by decide) ?_
      have e0 := wke1 hf
      subst e0
      exact W.zret (v := 0) (ty := .boolean) hx hb hr rfl (fun t ht hW => ⟨0, rfl, rfl, ht⟩) (fun q h => absurd h List.not_mem_nil) dX2_areOpposed_41
    · have hf := wk_f hf q6
      refine lv_iconst (v := 1) hx hb dX2_areOpposed_36 (by decide) ?_
      refine lv_goto (tgt := 41) hx hb dX2_areOpposed_37 (by decide) ?_
      have e0 := wke1 hf
      subst e0
      exact W.zret (v := 1) (ty := .boolean) hx hb hr rfl (fun t ht hW => ⟨1, rfl, rfl, ht⟩) (fun q h => absurd h List.not_mem_nil) dX2_areOpposed_41
theorem lk_X2_offset_RX2_15 : Cond.fieldLink RX2 15 "CircusLedger$Books" "balances" "[I" ∈ wsX2_offset := by decide +kernel
theorem mx_X2_offset_RX2_40 : Cond.methodLink RX2 40 Lib.Math.min.name ∈ wsX2_offset ∧ Cond.static Lib.Math.min.name ∈ wsX2_offset ∧ Cond.initialized "java/lang/Math" ∈ wsX2_offset ∧ Cond.code Lib.Math.min.name Lib.Math.min.code 2 (some .int) ∈ wsX2_offset := ⟨by decide +kernel, by decide +kernel, by decide +kernel, by decide +kernel⟩
theorem in_X2_offset_X2 : ∀ w ∈ u_ws RX2 TX2 7, w ∈ wsX2_offset := by decide +kernel
def f_X2_offset (B_balances : Nat → Int32) (B_entries : Int32) (B_debited : Nat → Int32) (B_credited : Nat → Int32) (B_amounts : Nat → Int32) (x1 : Int32) (x2 : Int32) : Option (Int32 × (Nat → Int32) × Int32 × (Nat → Int32) × (Nat → Int32) × (Nat → Int32)) :=
  gin x1 11 (if (0 : Int32) ≤ (B_balances x1.toNatClampNeg) then
    (gin x1 11 (if (0 : Int32) ≤ (B_balances x1.toNatClampNeg) then
      (gin x2 11 (gin x1 11 (wkl ((if (B_balances x1.toNatClampNeg) < (-(B_balances x2.toNatClampNeg)) then (B_balances x1.toNatClampNeg) else (-(B_balances x2.toNatClampNeg)))) (fun v7 =>
      wkb6 (f_X2_book B_balances B_entries B_debited B_credited B_amounts x2 x1 v7) (fun r8 w9 w10 w11 w12 w13 =>
      some (v7, w9, w10, w11, w12, w13))))))
    else
      (gin x2 11 (gin x2 11 (wkl ((if (B_balances x2.toNatClampNeg) < (-(B_balances x2.toNatClampNeg)) then (B_balances x2.toNatClampNeg) else (-(B_balances x2.toNatClampNeg)))) (fun v17 =>
      wkb6 (f_X2_book B_balances B_entries B_debited B_credited B_amounts x2 x2 v17) (fun r18 w19 w20 w21 w22 w23 =>
      some (v17, w19, w20, w21, w22, w23))))))))
  else
    (gin x1 11 (if (0 : Int32) ≤ (B_balances x1.toNatClampNeg) then
      (gin x1 11 (gin x1 11 (wkl ((if (B_balances x1.toNatClampNeg) < (-(B_balances x1.toNatClampNeg)) then (B_balances x1.toNatClampNeg) else (-(B_balances x1.toNatClampNeg)))) (fun v29 =>
      wkb6 (f_X2_book B_balances B_entries B_debited B_credited B_amounts x1 x1 v29) (fun r30 w31 w32 w33 w34 w35 =>
      some (v29, w31, w32, w33, w34, w35))))))
    else
      (gin x1 11 (gin x2 11 (wkl ((if (B_balances x2.toNatClampNeg) < (-(B_balances x1.toNatClampNeg)) then (B_balances x2.toNatClampNeg) else (-(B_balances x1.toNatClampNeg)))) (fun v39 =>
      wkb6 (f_X2_book B_balances B_entries B_debited B_credited B_amounts x1 x2 v39) (fun r40 w41 w42 w43 w44 w45 =>
      some (v39, w41, w42, w43, w44, w45)))))))))
set_option maxHeartbeats 4000000 in
set_option maxRecDepth 100000 in
theorem c_X2_offset (l : Launch) (dC : Nat → ClassId) (dI : Nat → Nat → Nat) (Y : Nat → ClassId) (a : Nat → Nat) (B_accounts : Int32) (B_balances : Nat → Int32) (B_balancesAtClosing : Nat → Int32) (B_entries : Int32) (B_debited : Nat → Int32) (B_credited : Nat → Int32) (B_amounts : Nat → Int32) (x1 : Int32) (x2 : Int32) (sz : Nat) (r : Int32) (zB_balances : Nat → Int32) (zB_entries : Int32) (zB_debited : Nat → Int32) (zB_credited : Nat → Int32) (zB_amounts : Nat → Int32) (hf : f_X2_offset B_balances B_entries B_debited B_credited B_amounts x1 x2 = some (r, zB_balances, zB_entries, zB_debited, zB_credited, zB_amounts)) : Met l yX2_offset wsX2_offset ({ frames := 1, cells := 0, slots := 0, locals := 24 } : Room) (va_Pc [.ref (a 0), .int x1, .int x2] (wk_E (dC, dI) Y (wX2 Y a B_accounts B_balances B_balancesAtClosing B_entries B_debited B_credited B_amounts) sz)) (va_Qi (fun r2 (_ : Unit) => r2 = r) (fun _ t => wk_X (dC, dI) Y (wX2 Y a B_accounts zB_balances B_balancesAtClosing zB_entries zB_debited zB_credited zB_amounts) (va_A (wX2 Y a B_accounts B_balances B_balancesAtClosing B_entries B_debited B_credited B_amounts) sz) t) (va_A (wX2 Y a B_accounts B_balances B_balancesAtClosing B_entries B_debited B_credited B_amounts) sz)) 0 0 (va_A (wX2 Y a B_accounts B_balances B_balancesAtClosing B_entries B_debited B_credited B_amounts) sz) := by
  refine Met.ofW (cc := cX2_offset) (maxL := 6) (ret := (some .int)) (by decide) rfl ?_
  intro p e s m args below meth c s₁ B hml hv
  obtain ⟨rfl, hsz, hP, hK, hD0⟩ := hv
  have hx := B.exec
  have hb := B.bytes
  have hr := B.returns
  have hts := atoms_spec (ws := wsX2_offset) B.pre
  have hown : s.vm.findClass RX2 = some m.cls := findClass_of_methodNamed B.named
  have hlocks := B.notSynchronized
  have C0 : wk_C p s m _ meth c cX2_offset 6 (some .int) wsX2_offset RX2 := ⟨hx, hb, hml, hr, hlocks, hown, hts⟩
  subst hsz
  have hD := hD0.self (sz := s.heap.size)
  generalize hAe : va_A (wX2 Y a B_accounts B_balances B_balancesAtClosing B_entries B_debited B_credited B_amounts) s.heap.size = A at hD ⊢
  have hA : ∀ q : Nat, s.heap.size ≤ q → A q := fun q h => by rw [← hAe]; exact Or.inr h
  have hS : va_S A s.heap s.heap [] := va_S.rf
  obtain ⟨H, hHe⟩ : ∃ H, H = s.heap := ⟨_, rfl⟩
  have hS : va_S A s.heap H [] := by rw [hHe]; exact hS
  have hP : va_P (dC, dI) vwCl [(a 0, .inr (4, [.int B_accounts, .ref (a 1), .ref (a 2), .int B_entries, .ref (a 3), .ref (a 4), .ref (a 5)])), (a 1, .inl (Y 0, 11, .inl B_balances)), (a 2, .inl (Y 0, 11, .inl B_balancesAtClosing)), (a 3, .inl (Y 0, 60, .inl B_debited)), (a 4, .inl (Y 0, 60, .inl B_credited)), (a 5, .inl (Y 0, 60, .inl B_amounts))] H := by rw [hHe]; exact hP
  have hD : va_D A [(a 0, .inr (4, [.int B_accounts, .ref (a 1), .ref (a 2), .int B_entries, .ref (a 3), .ref (a 4), .ref (a 5)])), (a 1, .inl (Y 0, 11, .inl B_balances)), (a 2, .inl (Y 0, 11, .inl B_balancesAtClosing)), (a 3, .inl (Y 0, 60, .inl B_debited)), (a 4, .inl (Y 0, 60, .inl B_credited)), (a 5, .inl (Y 0, 60, .inl B_amounts))] := hD
  obtain ⟨locs, hlo⟩ : ∃ locs : List Loc, locs = [] := ⟨_, rfl⟩
  have hS : va_S A s.heap H locs := by rw [hlo]; exact hS
  have hl := lv_entry ([.ref (a 0), .int x1, .int x2]) (n := 6) (Nat.le_of_ble_eq_true rfl)
  rw [lg_entry_eq]
  generalize (lg_sl ([.ref (a 0), .int x1, .int x2]) ++ List.replicate (6 - (lg_sl ([.ref (a 0), .int x1, .int x2])).length) Slot.unset).toArray = ls at hl ⊢
  have hl : lv_has ls 6 [(0, .ref (a 0)), (1, .int x1), (2, .int x2)] := hl
  refine wk_start hHe hlo ?_
  rw [f_X2_offset] at hf
  refine lv_aload_n hx hb dX2_offset_0 rfl (lv_at hl 0 rfl) ?_
  refine va_get (D := (dC, dI)) (ci := 4) (v := .ref (a 1)) (C := RX2) (T := TX2) (N := 7) hx hb hts in_X2_offset_X2 hown hK hP 0 rfl rfl 1 (by decide) (hts _ lk_X2_offset_RX2_15) (fun _ h9 => h9) rfl dX2_offset_1 ?_
  refine lv_iload_n hx hb dX2_offset_4 rfl (lv_at hl 1 rfl) ?_
  obtain ⟨h1, hf⟩ := gin_s hf
  refine wk_iald hx hb hK hP 1 0 rfl rfl h1 rfl dX2_offset_5 ?_
  refine lv_if_ge (tgt := 13) hx hb dX2_offset_6 (by decide) (fun q2 => ?_) (fun q2 => ?_)
  · have hf := wk_t hf q2
    refine lv_iload_n hx hb dX2_offset_13 rfl (lv_at hl 2 rfl) ?_
    refine lv_istore_n (lv' := [(3, .int x2), (0, .ref (a 0)), (1, .int x1), (2, .int x2)]) hx hb dX2_offset_14 rfl hl (by decide) rfl (fun ls hl => ?_)
    refine lv_aload_n hx hb dX2_offset_15 rfl (lv_at hl 1 rfl) ?_
    refine va_get (D := (dC, dI)) (ci := 4) (v := .ref (a 1)) (C := RX2) (T := TX2) (N := 7) hx hb hts in_X2_offset_X2 hown hK hP 0 rfl rfl 1 (by decide) (hts _ lk_X2_offset_RX2_15) (fun _ h9 => h9) rfl dX2_offset_16 ?_
    refine lv_iload_n hx hb dX2_offset_19 rfl (lv_at hl 2 rfl) ?_
    obtain ⟨h3, hf⟩ := gin_s hf
    refine wk_iald hx hb hK hP 1 0 rfl rfl h3 rfl dX2_offset_20 ?_
    refine lv_if_ge (tgt := 28) hx hb dX2_offset_21 (by decide) (fun q4 => ?_) (fun q4 => ?_)
    · have hf := wk_t hf q4
      refine lv_iload_n hx hb dX2_offset_28 rfl (lv_at hl 2 rfl) ?_
      refine lv_istore (lv' := [(4, .int x1), (3, .int x2), (0, .ref (a 0)), (1, .int x1), (2, .int x2)]) hx hb dX2_offset_29 hl (by decide) rfl (fun ls hl => ?_)
      refine lv_aload_n hx hb dX2_offset_31 rfl (lv_at hl 2 rfl) ?_
      refine va_get (D := (dC, dI)) (ci := 4) (v := .ref (a 1)) (C := RX2) (T := TX2) (N := 7) hx hb hts in_X2_offset_X2 hown hK hP 0 rfl rfl 1 (by decide) (hts _ lk_X2_offset_RX2_15) (fun _ h9 => h9) rfl dX2_offset_32 ?_
      refine lv_iload_n hx hb dX2_offset_35 rfl (lv_at hl 1 rfl) ?_
      obtain ⟨h5, hf⟩ := gin_s hf
      refine wk_iald hx hb hK hP 1 0 rfl rfl h5 rfl dX2_offset_36 ?_
      refine lv_ineg hx hb dX2_offset_37 ?_
      refine lv_aload_n hx hb dX2_offset_38 rfl (lv_at hl 2 rfl) ?_
      refine va_get (D := (dC, dI)) (ci := 4) (v := .ref (a 1)) (C := RX2) (T := TX2) (N := 7) hx hb hts in_X2_offset_X2 hown hK hP 0 rfl rfl 1 (by decide) (hts _ lk_X2_offset_RX2_15) (fun _ h9 => h9) rfl dX2_offset_39 ?_
      refine lv_iload hx hb dX2_offset_42 (lv_at hl 0 rfl) ?_
      obtain ⟨h6, hf⟩ := gin_s hf
      refine wk_iald hx hb hK hP 1 0 rfl rfl h6 rfl dX2_offset_44 ?_
      refine va_mmin hx hb (hml.trans hl.1.symm) hown (hts _ mx_X2_offset_RX2_40.1) (hts _ mx_X2_offset_RX2_40.2.1) (hts _ mx_X2_offset_RX2_40.2.2.1) (hts _ mx_X2_offset_RX2_40.2.2.2) (Nat.le_of_ble_eq_true rfl) (Nat.le_of_ble_eq_true rfl) (Nat.le_of_ble_eq_true rfl) (Nat.le_of_ble_eq_true rfl) dX2_offset_45 ?_
      refine lv_topi (fun v7 ev7 => ?_)
      have hf := wkl_s hf ev7
      refine lv_istore (lv' := [(5, .int v7), (4, .int x1), (3, .int x2), (0, .ref (a 0)), (1, .int x1), (2, .int x2)]) hx hb dX2_offset_48 hl (by decide) rfl (fun ls hl => ?_)
      refine lv_aload_n hx hb dX2_offset_50 rfl (lv_at hl 3 rfl) ?_
      refine lv_iload_n hx hb dX2_offset_51 rfl (lv_at hl 2 rfl) ?_
      refine lv_iload hx hb dX2_offset_52 (lv_at hl 1 rfl) ?_
      refine lv_iload hx hb dX2_offset_54 (lv_at hl 0 rfl) ?_
      obtain ⟨r8, w9, w10, w11, w12, w13, hr14, hf⟩ := wkb6_s hf
      refine wk_evi (As := [.int x2, .int x1, .int v7]) (rest := []) (wc := (wX2 Y a B_accounts B_balances B_balancesAtClosing B_entries B_debited B_credited B_amounts)) (w1 := (wX2 Y a B_accounts w9 B_balancesAtClosing w10 w11 w12 w13)) (wr := []) ⟨hx, hb, hml, hown, hts⟩ (c_X2_book l dC dI Y a B_accounts B_balances B_balancesAtClosing B_entries B_debited B_credited B_amounts x2 x1 v7 H.size r8 w9 w10 w11 w12 w13 hr14) (cwV 3 hts gX2_offset_X2_book rfl rfl rfl (by decide +kernel) ⟨Nat.le_of_ble_eq_true rfl, Nat.le_of_ble_eq_true rfl⟩) hK hP hD hS hA [0, 1, 2, 3, 4, 5] [] rfl rfl (by decide) (by decide) (by decide) (va_recv hK hP (ci := 4) (q0 := 0) rfl rfl) rfl hl.1 rfl (Nat.le_of_ble_eq_true rfl) dX2_offset_56 ⟨Nat.le_of_ble_eq_true rfl, Nat.le_of_ble_eq_true rfl⟩ (fun H locs hP hD hS => ?_)
      have hP : va_P (dC, dI) vwCl [(a 0, .inr (4, [.int B_accounts, .ref (a 1), .ref (a 2), .int w10, .ref (a 3), .ref (a 4), .ref (a 5)])), (a 1, .inl (Y 0, 11, .inl w9)), (a 2, .inl (Y 0, 11, .inl B_balancesAtClosing)), (a 3, .inl (Y 0, 60, .inl w11)), (a 4, .inl (Y 0, 60, .inl w12)), (a 5, .inl (Y 0, 60, .inl w13))] H := hP
      have hD : va_D A [(a 0, .inr (4, [.int B_accounts, .ref (a 1), .ref (a 2), .int w10, .ref (a 3), .ref (a 4), .ref (a 5)])), (a 1, .inl (Y 0, 11, .inl w9)), (a 2, .inl (Y 0, 11, .inl B_balancesAtClosing)), (a 3, .inl (Y 0, 60, .inl w11)), (a 4, .inl (Y 0, 60, .inl w12)), (a 5, .inl (Y 0, 60, .inl w13))] := hD
      refine lv_pop hx hb dX2_offset_59 rfl ?_
      refine lv_iload hx hb dX2_offset_60 (lv_at hl 0 rfl) ?_
      obtain ⟨e0, e1, e2, e3, e4, e5⟩ := wke6 hf
      subst e0
      subst e1
      subst e2
      subst e3
      subst e4
      subst e5
      have hP9 := hP.sub (ws' := (wX2 Y a B_accounts w9 B_balancesAtClosing w10 w11 w12 w13)) [0, 1, 2, 3, 4, 5] rfl
      have hD9 := hD.sub (ws' := (wX2 Y a B_accounts w9 B_balancesAtClosing w10 w11 w12 w13)) [0, 1, 2, 3, 4, 5] (by decide) rfl
      exact W.iret (v := v7) hx hb hr (fun t ht hW => ⟨⟨v7, (), rfl, rfl, by rw [ht]; exact hP9, va_K.moved hW.alike hK, hD9⟩, hS.F ht⟩) hS.2.2 dX2_offset_62
    · have hf := wk_f hf q4
      refine lv_iload_n hx hb dX2_offset_24 rfl (lv_at hl 3 rfl) ?_
      refine lv_goto (tgt := 29) hx hb dX2_offset_25 (by decide) ?_
      refine lv_istore (lv' := [(4, .int x2), (3, .int x2), (0, .ref (a 0)), (1, .int x1), (2, .int x2)]) hx hb dX2_offset_29 hl (by decide) rfl (fun ls hl => ?_)
      refine lv_aload_n hx hb dX2_offset_31 rfl (lv_at hl 2 rfl) ?_
      refine va_get (D := (dC, dI)) (ci := 4) (v := .ref (a 1)) (C := RX2) (T := TX2) (N := 7) hx hb hts in_X2_offset_X2 hown hK hP 0 rfl rfl 1 (by decide) (hts _ lk_X2_offset_RX2_15) (fun _ h9 => h9) rfl dX2_offset_32 ?_
      refine lv_iload_n hx hb dX2_offset_35 rfl (lv_at hl 1 rfl) ?_
      obtain ⟨h15, hf⟩ := gin_s hf
      refine wk_iald hx hb hK hP 1 0 rfl rfl h15 rfl dX2_offset_36 ?_
      refine lv_ineg hx hb dX2_offset_37 ?_
      refine lv_aload_n hx hb dX2_offset_38 rfl (lv_at hl 2 rfl) ?_
      refine va_get (D := (dC, dI)) (ci := 4) (v := .ref (a 1)) (C := RX2) (T := TX2) (N := 7) hx hb hts in_X2_offset_X2 hown hK hP 0 rfl rfl 1 (by decide) (hts _ lk_X2_offset_RX2_15) (fun _ h9 => h9) rfl dX2_offset_39 ?_
      refine lv_iload hx hb dX2_offset_42 (lv_at hl 0 rfl) ?_
      obtain ⟨h16, hf⟩ := gin_s hf
      refine wk_iald hx hb hK hP 1 0 rfl rfl h16 rfl dX2_offset_44 ?_
      refine va_mmin hx hb (hml.trans hl.1.symm) hown (hts _ mx_X2_offset_RX2_40.1) (hts _ mx_X2_offset_RX2_40.2.1) (hts _ mx_X2_offset_RX2_40.2.2.1) (hts _ mx_X2_offset_RX2_40.2.2.2) (Nat.le_of_ble_eq_true rfl) (Nat.le_of_ble_eq_true rfl) (Nat.le_of_ble_eq_true rfl) (Nat.le_of_ble_eq_true rfl) dX2_offset_45 ?_
      refine lv_topi (fun v17 ev17 => ?_)
      have hf := wkl_s hf ev17
      refine lv_istore (lv' := [(5, .int v17), (4, .int x2), (3, .int x2), (0, .ref (a 0)), (1, .int x1), (2, .int x2)]) hx hb dX2_offset_48 hl (by decide) rfl (fun ls hl => ?_)
      refine lv_aload_n hx hb dX2_offset_50 rfl (lv_at hl 3 rfl) ?_
      refine lv_iload_n hx hb dX2_offset_51 rfl (lv_at hl 2 rfl) ?_
      refine lv_iload hx hb dX2_offset_52 (lv_at hl 1 rfl) ?_
      refine lv_iload hx hb dX2_offset_54 (lv_at hl 0 rfl) ?_
      obtain ⟨r18, w19, w20, w21, w22, w23, hr24, hf⟩ := wkb6_s hf
      refine wk_evi (As := [.int x2, .int x2, .int v17]) (rest := []) (wc := (wX2 Y a B_accounts B_balances B_balancesAtClosing B_entries B_debited B_credited B_amounts)) (w1 := (wX2 Y a B_accounts w19 B_balancesAtClosing w20 w21 w22 w23)) (wr := []) ⟨hx, hb, hml, hown, hts⟩ (c_X2_book l dC dI Y a B_accounts B_balances B_balancesAtClosing B_entries B_debited B_credited B_amounts x2 x2 v17 H.size r18 w19 w20 w21 w22 w23 hr24) (cwV 3 hts gX2_offset_X2_book rfl rfl rfl (by decide +kernel) ⟨Nat.le_of_ble_eq_true rfl, Nat.le_of_ble_eq_true rfl⟩) hK hP hD hS hA [0, 1, 2, 3, 4, 5] [] rfl rfl (by decide) (by decide) (by decide) (va_recv hK hP (ci := 4) (q0 := 0) rfl rfl) rfl hl.1 rfl (Nat.le_of_ble_eq_true rfl) dX2_offset_56 ⟨Nat.le_of_ble_eq_true rfl, Nat.le_of_ble_eq_true rfl⟩ (fun H locs hP hD hS => ?_)
      have hP : va_P (dC, dI) vwCl [(a 0, .inr (4, [.int B_accounts, .ref (a 1), .ref (a 2), .int w20, .ref (a 3), .ref (a 4), .ref (a 5)])), (a 1, .inl (Y 0, 11, .inl w19)), (a 2, .inl (Y 0, 11, .inl B_balancesAtClosing)), (a 3, .inl (Y 0, 60, .inl w21)), (a 4, .inl (Y 0, 60, .inl w22)), (a 5, .inl (Y 0, 60, .inl w23))] H := hP
      have hD : va_D A [(a 0, .inr (4, [.int B_accounts, .ref (a 1), .ref (a 2), .int w20, .ref (a 3), .ref (a 4), .ref (a 5)])), (a 1, .inl (Y 0, 11, .inl w19)), (a 2, .inl (Y 0, 11, .inl B_balancesAtClosing)), (a 3, .inl (Y 0, 60, .inl w21)), (a 4, .inl (Y 0, 60, .inl w22)), (a 5, .inl (Y 0, 60, .inl w23))] := hD
      refine lv_pop hx hb dX2_offset_59 rfl ?_
      refine lv_iload hx hb dX2_offset_60 (lv_at hl 0 rfl) ?_
      obtain ⟨e0, e1, e2, e3, e4, e5⟩ := wke6 hf
      subst e0
      subst e1
      subst e2
      subst e3
      subst e4
      subst e5
      have hP9 := hP.sub (ws' := (wX2 Y a B_accounts w19 B_balancesAtClosing w20 w21 w22 w23)) [0, 1, 2, 3, 4, 5] rfl
      have hD9 := hD.sub (ws' := (wX2 Y a B_accounts w19 B_balancesAtClosing w20 w21 w22 w23)) [0, 1, 2, 3, 4, 5] (by decide) rfl
      exact W.iret (v := v17) hx hb hr (fun t ht hW => ⟨⟨v17, (), rfl, rfl, by rw [ht]; exact hP9, va_K.moved hW.alike hK, hD9⟩, hS.F ht⟩) hS.2.2 dX2_offset_62
  · have hf := wk_f hf q2
    refine lv_iload_n hx hb dX2_offset_9 rfl (lv_at hl 1 rfl) ?_
    refine lv_goto (tgt := 14) hx hb dX2_offset_10 (by decide) ?_
    refine lv_istore_n (lv' := [(3, .int x1), (0, .ref (a 0)), (1, .int x1), (2, .int x2)]) hx hb dX2_offset_14 rfl hl (by decide) rfl (fun ls hl => ?_)
    refine lv_aload_n hx hb dX2_offset_15 rfl (lv_at hl 1 rfl) ?_
    refine va_get (D := (dC, dI)) (ci := 4) (v := .ref (a 1)) (C := RX2) (T := TX2) (N := 7) hx hb hts in_X2_offset_X2 hown hK hP 0 rfl rfl 1 (by decide) (hts _ lk_X2_offset_RX2_15) (fun _ h9 => h9) rfl dX2_offset_16 ?_
    refine lv_iload_n hx hb dX2_offset_19 rfl (lv_at hl 2 rfl) ?_
    obtain ⟨h25, hf⟩ := gin_s hf
    refine wk_iald hx hb hK hP 1 0 rfl rfl h25 rfl dX2_offset_20 ?_
    refine lv_if_ge (tgt := 28) hx hb dX2_offset_21 (by decide) (fun q26 => ?_) (fun q26 => ?_)
    · have hf := wk_t hf q26
      refine lv_iload_n hx hb dX2_offset_28 rfl (lv_at hl 2 rfl) ?_
      refine lv_istore (lv' := [(4, .int x1), (3, .int x1), (0, .ref (a 0)), (1, .int x1), (2, .int x2)]) hx hb dX2_offset_29 hl (by decide) rfl (fun ls hl => ?_)
      refine lv_aload_n hx hb dX2_offset_31 rfl (lv_at hl 2 rfl) ?_
      refine va_get (D := (dC, dI)) (ci := 4) (v := .ref (a 1)) (C := RX2) (T := TX2) (N := 7) hx hb hts in_X2_offset_X2 hown hK hP 0 rfl rfl 1 (by decide) (hts _ lk_X2_offset_RX2_15) (fun _ h9 => h9) rfl dX2_offset_32 ?_
      refine lv_iload_n hx hb dX2_offset_35 rfl (lv_at hl 1 rfl) ?_
      obtain ⟨h27, hf⟩ := gin_s hf
      refine wk_iald hx hb hK hP 1 0 rfl rfl h27 rfl dX2_offset_36 ?_
      refine lv_ineg hx hb dX2_offset_37 ?_
      refine lv_aload_n hx hb dX2_offset_38 rfl (lv_at hl 2 rfl) ?_
      refine va_get (D := (dC, dI)) (ci := 4) (v := .ref (a 1)) (C := RX2) (T := TX2) (N := 7) hx hb hts in_X2_offset_X2 hown hK hP 0 rfl rfl 1 (by decide) (hts _ lk_X2_offset_RX2_15) (fun _ h9 => h9) rfl dX2_offset_39 ?_
      refine lv_iload hx hb dX2_offset_42 (lv_at hl 0 rfl) ?_
      obtain ⟨h28, hf⟩ := gin_s hf
      refine wk_iald hx hb hK hP 1 0 rfl rfl h28 rfl dX2_offset_44 ?_
      refine va_mmin hx hb (hml.trans hl.1.symm) hown (hts _ mx_X2_offset_RX2_40.1) (hts _ mx_X2_offset_RX2_40.2.1) (hts _ mx_X2_offset_RX2_40.2.2.1) (hts _ mx_X2_offset_RX2_40.2.2.2) (Nat.le_of_ble_eq_true rfl) (Nat.le_of_ble_eq_true rfl) (Nat.le_of_ble_eq_true rfl) (Nat.le_of_ble_eq_true rfl) dX2_offset_45 ?_
      refine lv_topi (fun v29 ev29 => ?_)
      have hf := wkl_s hf ev29
      refine lv_istore (lv' := [(5, .int v29), (4, .int x1), (3, .int x1), (0, .ref (a 0)), (1, .int x1), (2, .int x2)]) hx hb dX2_offset_48 hl (by decide) rfl (fun ls hl => ?_)
      refine lv_aload_n hx hb dX2_offset_50 rfl (lv_at hl 3 rfl) ?_
      refine lv_iload_n hx hb dX2_offset_51 rfl (lv_at hl 2 rfl) ?_
      refine lv_iload hx hb dX2_offset_52 (lv_at hl 1 rfl) ?_
      refine lv_iload hx hb dX2_offset_54 (lv_at hl 0 rfl) ?_
      obtain ⟨r30, w31, w32, w33, w34, w35, hr36, hf⟩ := wkb6_s hf
      refine wk_evi (As := [.int x1, .int x1, .int v29]) (rest := []) (wc := (wX2 Y a B_accounts B_balances B_balancesAtClosing B_entries B_debited B_credited B_amounts)) (w1 := (wX2 Y a B_accounts w31 B_balancesAtClosing w32 w33 w34 w35)) (wr := []) ⟨hx, hb, hml, hown, hts⟩ (c_X2_book l dC dI Y a B_accounts B_balances B_balancesAtClosing B_entries B_debited B_credited B_amounts x1 x1 v29 H.size r30 w31 w32 w33 w34 w35 hr36) (cwV 3 hts gX2_offset_X2_book rfl rfl rfl (by decide +kernel) ⟨Nat.le_of_ble_eq_true rfl, Nat.le_of_ble_eq_true rfl⟩) hK hP hD hS hA [0, 1, 2, 3, 4, 5] [] rfl rfl (by decide) (by decide) (by decide) (va_recv hK hP (ci := 4) (q0 := 0) rfl rfl) rfl hl.1 rfl (Nat.le_of_ble_eq_true rfl) dX2_offset_56 ⟨Nat.le_of_ble_eq_true rfl, Nat.le_of_ble_eq_true rfl⟩ (fun H locs hP hD hS => ?_)
      have hP : va_P (dC, dI) vwCl [(a 0, .inr (4, [.int B_accounts, .ref (a 1), .ref (a 2), .int w32, .ref (a 3), .ref (a 4), .ref (a 5)])), (a 1, .inl (Y 0, 11, .inl w31)), (a 2, .inl (Y 0, 11, .inl B_balancesAtClosing)), (a 3, .inl (Y 0, 60, .inl w33)), (a 4, .inl (Y 0, 60, .inl w34)), (a 5, .inl (Y 0, 60, .inl w35))] H := hP
      have hD : va_D A [(a 0, .inr (4, [.int B_accounts, .ref (a 1), .ref (a 2), .int w32, .ref (a 3), .ref (a 4), .ref (a 5)])), (a 1, .inl (Y 0, 11, .inl w31)), (a 2, .inl (Y 0, 11, .inl B_balancesAtClosing)), (a 3, .inl (Y 0, 60, .inl w33)), (a 4, .inl (Y 0, 60, .inl w34)), (a 5, .inl (Y 0, 60, .inl w35))] := hD
      refine lv_pop hx hb dX2_offset_59 rfl ?_
      refine lv_iload hx hb dX2_offset_60 (lv_at hl 0 rfl) ?_
      obtain ⟨e0, e1, e2, e3, e4, e5⟩ := wke6 hf
      subst e0
      subst e1
      subst e2
      subst e3
      subst e4
      subst e5
      have hP9 := hP.sub (ws' := (wX2 Y a B_accounts w31 B_balancesAtClosing w32 w33 w34 w35)) [0, 1, 2, 3, 4, 5] rfl
      have hD9 := hD.sub (ws' := (wX2 Y a B_accounts w31 B_balancesAtClosing w32 w33 w34 w35)) [0, 1, 2, 3, 4, 5] (by decide) rfl
      exact W.iret (v := v29) hx hb hr (fun t ht hW => ⟨⟨v29, (), rfl, rfl, by rw [ht]; exact hP9, va_K.moved hW.alike hK, hD9⟩, hS.F ht⟩) hS.2.2 dX2_offset_62
    · have hf := wk_f hf q26
      refine lv_iload_n hx hb dX2_offset_24 rfl (lv_at hl 3 rfl) ?_
      refine lv_goto (tgt := 29) hx hb dX2_offset_25 (by decide) ?_
      refine lv_istore (lv' := [(4, .int x2), (3, .int x1), (0, .ref (a 0)), (1, .int x1), (2, .int x2)]) hx hb dX2_offset_29 hl (by decide) rfl (fun ls hl => ?_)
      refine lv_aload_n hx hb dX2_offset_31 rfl (lv_at hl 2 rfl) ?_
      refine va_get (D := (dC, dI)) (ci := 4) (v := .ref (a 1)) (C := RX2) (T := TX2) (N := 7) hx hb hts in_X2_offset_X2 hown hK hP 0 rfl rfl 1 (by decide) (hts _ lk_X2_offset_RX2_15) (fun _ h9 => h9) rfl dX2_offset_32 ?_
      refine lv_iload_n hx hb dX2_offset_35 rfl (lv_at hl 1 rfl) ?_
      obtain ⟨h37, hf⟩ := gin_s hf
      refine wk_iald hx hb hK hP 1 0 rfl rfl h37 rfl dX2_offset_36 ?_
      refine lv_ineg hx hb dX2_offset_37 ?_
      refine lv_aload_n hx hb dX2_offset_38 rfl (lv_at hl 2 rfl) ?_
      refine va_get (D := (dC, dI)) (ci := 4) (v := .ref (a 1)) (C := RX2) (T := TX2) (N := 7) hx hb hts in_X2_offset_X2 hown hK hP 0 rfl rfl 1 (by decide) (hts _ lk_X2_offset_RX2_15) (fun _ h9 => h9) rfl dX2_offset_39 ?_
      refine lv_iload hx hb dX2_offset_42 (lv_at hl 0 rfl) ?_
      obtain ⟨h38, hf⟩ := gin_s hf
      refine wk_iald hx hb hK hP 1 0 rfl rfl h38 rfl dX2_offset_44 ?_
      refine va_mmin hx hb (hml.trans hl.1.symm) hown (hts _ mx_X2_offset_RX2_40.1) (hts _ mx_X2_offset_RX2_40.2.1) (hts _ mx_X2_offset_RX2_40.2.2.1) (hts _ mx_X2_offset_RX2_40.2.2.2) (Nat.le_of_ble_eq_true rfl) (Nat.le_of_ble_eq_true rfl) (Nat.le_of_ble_eq_true rfl) (Nat.le_of_ble_eq_true rfl) dX2_offset_45 ?_
      refine lv_topi (fun v39 ev39 => ?_)
      have hf := wkl_s hf ev39
      refine lv_istore (lv' := [(5, .int v39), (4, .int x2), (3, .int x1), (0, .ref (a 0)), (1, .int x1), (2, .int x2)]) hx hb dX2_offset_48 hl (by decide) rfl (fun ls hl => ?_)
      refine lv_aload_n hx hb dX2_offset_50 rfl (lv_at hl 3 rfl) ?_
      refine lv_iload_n hx hb dX2_offset_51 rfl (lv_at hl 2 rfl) ?_
      refine lv_iload hx hb dX2_offset_52 (lv_at hl 1 rfl) ?_
      refine lv_iload hx hb dX2_offset_54 (lv_at hl 0 rfl) ?_
      obtain ⟨r40, w41, w42, w43, w44, w45, hr46, hf⟩ := wkb6_s hf
      refine wk_evi (As := [.int x1, .int x2, .int v39]) (rest := []) (wc := (wX2 Y a B_accounts B_balances B_balancesAtClosing B_entries B_debited B_credited B_amounts)) (w1 := (wX2 Y a B_accounts w41 B_balancesAtClosing w42 w43 w44 w45)) (wr := []) ⟨hx, hb, hml, hown, hts⟩ (c_X2_book l dC dI Y a B_accounts B_balances B_balancesAtClosing B_entries B_debited B_credited B_amounts x1 x2 v39 H.size r40 w41 w42 w43 w44 w45 hr46) (cwV 3 hts gX2_offset_X2_book rfl rfl rfl (by decide +kernel) ⟨Nat.le_of_ble_eq_true rfl, Nat.le_of_ble_eq_true rfl⟩) hK hP hD hS hA [0, 1, 2, 3, 4, 5] [] rfl rfl (by decide) (by decide) (by decide) (va_recv hK hP (ci := 4) (q0 := 0) rfl rfl) rfl hl.1 rfl (Nat.le_of_ble_eq_true rfl) dX2_offset_56 ⟨Nat.le_of_ble_eq_true rfl, Nat.le_of_ble_eq_true rfl⟩ (fun H locs hP hD hS => ?_)
      have hP : va_P (dC, dI) vwCl [(a 0, .inr (4, [.int B_accounts, .ref (a 1), .ref (a 2), .int w42, .ref (a 3), .ref (a 4), .ref (a 5)])), (a 1, .inl (Y 0, 11, .inl w41)), (a 2, .inl (Y 0, 11, .inl B_balancesAtClosing)), (a 3, .inl (Y 0, 60, .inl w43)), (a 4, .inl (Y 0, 60, .inl w44)), (a 5, .inl (Y 0, 60, .inl w45))] H := hP
      have hD : va_D A [(a 0, .inr (4, [.int B_accounts, .ref (a 1), .ref (a 2), .int w42, .ref (a 3), .ref (a 4), .ref (a 5)])), (a 1, .inl (Y 0, 11, .inl w41)), (a 2, .inl (Y 0, 11, .inl B_balancesAtClosing)), (a 3, .inl (Y 0, 60, .inl w43)), (a 4, .inl (Y 0, 60, .inl w44)), (a 5, .inl (Y 0, 60, .inl w45))] := hD
      refine lv_pop hx hb dX2_offset_59 rfl ?_
      refine lv_iload hx hb dX2_offset_60 (lv_at hl 0 rfl) ?_
      obtain ⟨e0, e1, e2, e3, e4, e5⟩ := wke6 hf
      subst e0
      subst e1
      subst e2
      subst e3
      subst e4
      subst e5
      have hP9 := hP.sub (ws' := (wX2 Y a B_accounts w41 B_balancesAtClosing w42 w43 w44 w45)) [0, 1, 2, 3, 4, 5] rfl
      have hD9 := hD.sub (ws' := (wX2 Y a B_accounts w41 B_balancesAtClosing w42 w43 w44 w45)) [0, 1, 2, 3, 4, 5] (by decide) rfl
      exact W.iret (v := v39) hx hb hr (fun t ht hW => ⟨⟨v39, (), rfl, rfl, by rw [ht]; exact hP9, va_K.moved hW.alike hK, hD9⟩, hS.F ht⟩) hS.2.2 dX2_offset_62
theorem lk_X2_sumOfAmounts_debited_RX2_28 : Cond.fieldLink RX2 28 "CircusLedger$Books" "amounts" "[I" ∈ wsX2_sumOfAmounts := by decide +kernel
theorem lk_X2_sumOfAmounts_debited_RX2_37 : Cond.fieldLink RX2 37 "CircusLedger$Books" "entries" "I" ∈ wsX2_sumOfAmounts := by decide +kernel
theorem in_X2_sumOfAmounts_debited_X2 : ∀ w ∈ u_ws RX2 TX2 7, w ∈ wsX2_sumOfAmounts := by decide +kernel
def f_X2_sumOfAmounts_debited_L5 (B_entries : Int32) (B_debited : Nat → Int32) (B_amounts : Nat → Int32) (x2 : Int32) : Nat → Int32 → Int32 → Option (Int32)
  | 0, _, _ => none
  | nn + 1, x3, x4 =>
    if B_entries ≤ x4 then
      (some (x3))
    else
      (gin x4 60 (if (B_debited x4.toNatClampNeg) = x2 then
        (gin x4 60 (f_X2_sumOfAmounts_debited_L5 B_entries B_debited B_amounts x2 nn (x3 + (B_amounts x4.toNatClampNeg)) (x4 + 1)))
      else
        (f_X2_sumOfAmounts_debited_L5 B_entries B_debited B_amounts x2 nn x3 (x4 + 1))))
def f_X2_sumOfAmounts_debited (B_entries : Int32) (B_debited : Nat → Int32) (B_amounts : Nat → Int32) (x2 : Int32) : Option (Int32) :=
  f_X2_sumOfAmounts_debited_L5 B_entries B_debited B_amounts x2 FU 0 0
set_option maxHeartbeats 4000000 in
set_option maxRecDepth 100000 in
theorem wl_X2_sumOfAmounts_debited_L5 {p : Program} {l : Launch} {e : Env} {s : State} {m : MethodId} {args : Array Value} {below : List Frame} {meth : Method} {c : Code} {dC : Nat → ClassId} {dI : Nat → Nat → Nat} {Y : Nat → ClassId} {a : Nat → Nat} {B_accounts : Int32} {B_balances : Nat → Int32} {B_balancesAtClosing : Nat → Int32} {B_entries : Int32} {B_debited : Nat → Int32} {B_credited : Nat → Int32} {B_amounts : Nat → Int32} {x2 : Int32} {r : Int32}  (C0 : wk_C p s m args meth c cX2_sumOfAmounts 5 (some .int) wsX2_sumOfAmounts RX2) (hK : va_K (dC, dI) vwCl (vTy Y) s) (hP : va_P (dC, dI) vwCl (wX2 Y a B_accounts B_balances B_balancesAtClosing B_entries B_debited B_credited B_amounts) s.heap) : ∀ (nn : Nat) (x3 : Int32) (x4 : Int32)  , f_X2_sumOfAmounts_debited_L5 B_entries B_debited B_amounts x2 nn x3 x4 = some (r) → ∀ (ls : Array Slot), lv_has ls 5 [(0, .ref (a 0)), (1, .ref (a 3)), (2, .int x2), (3, .int x3), (4, .int x4)] → W p l e (headSpec wsX2_sumOfAmounts ({ frames := 0, cells := 0, slots := 0, locals := 0 } : Room)).room s m args below meth c s.heap [] 0 0 (MQ below (vp_Si (fun r2 => r2 = r)) args s 0 0 (fun _ => False)) (F0 m 5 ls []) := by
  have C0 := C0
  obtain ⟨hx, hb, hml, hr, hlocks, hown, hts⟩ := id C0
  intro nn
  induction nn with
  | zero =>
    intro x3 x4 hf
    rw [f_X2_sumOfAmounts_debited_L5] at hf
    cases hf
  | succ nn ih =>
    intro x3 x4 hf ls hl
    rw [f_X2_sumOfAmounts_debited_L5] at hf
    have hP : va_P (dC, dI) vwCl [(a 0, .inr (4, [.int B_accounts, .ref (a 1), .ref (a 2), .int B_entries, .ref (a 3), .ref (a 4), .ref (a 5)])), (a 1, .inl (Y 0, 11, .inl B_balances)), (a 2, .inl (Y 0, 11, .inl B_balancesAtClosing)), (a 3, .inl (Y 0, 60, .inl B_debited)), (a 4, .inl (Y 0, 60, .inl B_credited)), (a 5, .inl (Y 0, 60, .inl B_amounts))] s.heap := hP
    refine lv_iload hx hb dX2_sumOfAmounts_5 (lv_at hl 4 rfl) ?_
    refine lv_aload_n hx hb dX2_sumOfAmounts_7 rfl (lv_at hl 0 rfl) ?_
    refine va_get (D := (dC, dI)) (ci := 4) (v := .int B_entries) (C := RX2) (T := TX2) (N := 7) hx hb hts in_X2_sumOfAmounts_debited_X2 hown hK hP 0 rfl rfl 3 (by decide) (hts _ lk_X2_sumOfAmounts_debited_RX2_37) (fun _ h9 => h9) rfl dX2_sumOfAmounts_8 ?_
    refine lv_icmp_ge (tgt := 38) hx hb dX2_sumOfAmounts_11 (by decide) (fun q1 => ?_) (fun q1 => ?_)
    · have hf := wk_t hf q1
      refine lv_iload_n hx hb dX2_sumOfAmounts_38 rfl (lv_at hl 3 rfl) ?_
      have e0 := wke1 hf
      subst e0
      exact W.iret (v := x3) hx hb hr (fun t ht hW => ⟨x3, rfl, rfl, ht⟩) (fun q h => absurd h List.not_mem_nil) dX2_sumOfAmounts_39
    · have hf := wk_f hf q1
      refine lv_aload_n hx hb dX2_sumOfAmounts_14 rfl (lv_at hl 1 rfl) ?_
      refine lv_iload hx hb dX2_sumOfAmounts_15 (lv_at hl 4 rfl) ?_
      obtain ⟨h2, hf⟩ := gin_s hf
      refine wk_iald hx hb hK hP 3 0 rfl rfl h2 rfl dX2_sumOfAmounts_17 ?_
      refine lv_iload_n hx hb dX2_sumOfAmounts_18 rfl (lv_at hl 2 rfl) ?_
      refine lv_icmp_ne (tgt := 32) hx hb dX2_sumOfAmounts_19 (by decide) (fun q3 => ?_) (fun q3 => ?_)
      · have hf := wk_f hf q3
        refine lv_iinc (v := (x4 + 1)) (lv' := [(4, .int (x4 + 1)), (0, .ref (a 0)), (1, .ref (a 3)), (2, .int x2), (3, .int x3)]) hx hb dX2_sumOfAmounts_32 hl (k := 4) rfl rfl (by decide) rfl (fun ls hl => ?_)
        refine lv_goto (tgt := 5) hx hb dX2_sumOfAmounts_35 (by decide) ?_
        exact ih x3 (x4 + 1) hf ls (lv_sub hl [1, 2, 3, 4, 0] rfl)
      · have hf := wk_t hf q3
        refine lv_iload_n hx hb dX2_sumOfAmounts_22 rfl (lv_at hl 3 rfl) ?_
        refine lv_aload_n hx hb dX2_sumOfAmounts_23 rfl (lv_at hl 0 rfl) ?_
        refine va_get (D := (dC, dI)) (ci := 4) (v := .ref (a 5)) (C := RX2) (T := TX2) (N := 7) hx hb hts in_X2_sumOfAmounts_debited_X2 hown hK hP 0 rfl rfl 6 (by decide) (hts _ lk_X2_sumOfAmounts_debited_RX2_28) (fun _ h9 => h9) rfl dX2_sumOfAmounts_24 ?_
        refine lv_iload hx hb dX2_sumOfAmounts_27 (lv_at hl 4 rfl) ?_
        obtain ⟨h4, hf⟩ := gin_s hf
        refine wk_iald hx hb hK hP 5 0 rfl rfl h4 rfl dX2_sumOfAmounts_29 ?_
        refine lv_iadd hx hb dX2_sumOfAmounts_30 ?_
        refine lv_istore_n (lv' := [(3, .int (x3 + (B_amounts x4.toNatClampNeg))), (0, .ref (a 0)), (1, .ref (a 3)), (2, .int x2), (4, .int x4)]) hx hb dX2_sumOfAmounts_31 rfl hl (by decide) rfl (fun ls hl => ?_)
        refine lv_iinc (v := (x4 + 1)) (lv' := [(4, .int (x4 + 1)), (3, .int (x3 + (B_amounts x4.toNatClampNeg))), (0, .ref (a 0)), (1, .ref (a 3)), (2, .int x2)]) hx hb dX2_sumOfAmounts_32 hl (k := 4) rfl rfl (by decide) rfl (fun ls hl => ?_)
        refine lv_goto (tgt := 5) hx hb dX2_sumOfAmounts_35 (by decide) ?_
        exact ih (x3 + (B_amounts x4.toNatClampNeg)) (x4 + 1) hf ls (lv_sub hl [2, 3, 4, 1, 0] rfl)
set_option maxHeartbeats 4000000 in
set_option maxRecDepth 100000 in
theorem c_X2_sumOfAmounts_debited (l : Launch) (dC : Nat → ClassId) (dI : Nat → Nat → Nat) (Y : Nat → ClassId) (a : Nat → Nat) (B_accounts : Int32) (B_balances : Nat → Int32) (B_balancesAtClosing : Nat → Int32) (B_entries : Int32) (B_debited : Nat → Int32) (B_credited : Nat → Int32) (B_amounts : Nat → Int32) (x2 : Int32) (r : Int32) (hf : f_X2_sumOfAmounts_debited B_entries B_debited B_amounts x2 = some (r)) : Met l yX2_sumOfAmounts wsX2_sumOfAmounts ({ frames := 0, cells := 0, slots := 0, locals := 0 } : Room) (va_Pc [.ref (a 0), .ref (a 3), .int x2] (wk_B (dC, dI) Y (wX2 Y a B_accounts B_balances B_balancesAtClosing B_entries B_debited B_credited B_amounts))) (vp_Si (fun r2 => r2 = r)) 0 0 (fun _ => False) := by
  refine Met.ofW (cc := cX2_sumOfAmounts) (maxL := 5) (ret := (some .int)) (by decide) rfl ?_
  intro p e s m args below meth c s₁ B hml hv
  obtain ⟨rfl, hP, hK⟩ := hv
  have hx := B.exec
  have hb := B.bytes
  have hr := B.returns
  have hts := atoms_spec (ws := wsX2_sumOfAmounts) B.pre
  have hown : s.vm.findClass RX2 = some m.cls := findClass_of_methodNamed B.named
  have hlocks := B.notSynchronized
  have C0 : wk_C p s m _ meth c cX2_sumOfAmounts 5 (some .int) wsX2_sumOfAmounts RX2 := ⟨hx, hb, hml, hr, hlocks, hown, hts⟩
  have hP : va_P (dC, dI) vwCl [(a 0, .inr (4, [.int B_accounts, .ref (a 1), .ref (a 2), .int B_entries, .ref (a 3), .ref (a 4), .ref (a 5)])), (a 1, .inl (Y 0, 11, .inl B_balances)), (a 2, .inl (Y 0, 11, .inl B_balancesAtClosing)), (a 3, .inl (Y 0, 60, .inl B_debited)), (a 4, .inl (Y 0, 60, .inl B_credited)), (a 5, .inl (Y 0, 60, .inl B_amounts))] s.heap := hP
  have hl := lv_entry ([.ref (a 0), .ref (a 3), .int x2]) (n := 5) (Nat.le_of_ble_eq_true rfl)
  rw [lg_entry_eq]
  generalize (lg_sl ([.ref (a 0), .ref (a 3), .int x2]) ++ List.replicate (5 - (lg_sl ([.ref (a 0), .ref (a 3), .int x2])).length) Slot.unset).toArray = ls at hl ⊢
  have hl : lv_has ls 5 [(0, .ref (a 0)), (1, .ref (a 3)), (2, .int x2)] := hl
  rw [f_X2_sumOfAmounts_debited] at hf
  refine lv_iconst (v := 0) hx hb dX2_sumOfAmounts_0 (by decide) ?_
  refine lv_istore_n (lv' := [(3, .int 0), (0, .ref (a 0)), (1, .ref (a 3)), (2, .int x2)]) hx hb dX2_sumOfAmounts_1 rfl hl (by decide) rfl (fun ls hl => ?_)
  refine lv_iconst (v := 0) hx hb dX2_sumOfAmounts_2 (by decide) ?_
  refine lv_istore (lv' := [(4, .int 0), (3, .int 0), (0, .ref (a 0)), (1, .ref (a 3)), (2, .int x2)]) hx hb dX2_sumOfAmounts_3 hl (by decide) rfl (fun ls hl => ?_)
  exact wl_X2_sumOfAmounts_debited_L5 C0 hK hP FU 0 0 hf ls (lv_sub hl [2, 3, 4, 1, 0] rfl)
theorem lk_X2_sumOfAmounts_credited_RX2_28 : Cond.fieldLink RX2 28 "CircusLedger$Books" "amounts" "[I" ∈ wsX2_sumOfAmounts := by decide +kernel
theorem lk_X2_sumOfAmounts_credited_RX2_37 : Cond.fieldLink RX2 37 "CircusLedger$Books" "entries" "I" ∈ wsX2_sumOfAmounts := by decide +kernel
theorem in_X2_sumOfAmounts_credited_X2 : ∀ w ∈ u_ws RX2 TX2 7, w ∈ wsX2_sumOfAmounts := by decide +kernel
def f_X2_sumOfAmounts_credited_L5 (B_entries : Int32) (B_credited : Nat → Int32) (B_amounts : Nat → Int32) (x2 : Int32) : Nat → Int32 → Int32 → Option (Int32)
  | 0, _, _ => none
  | nn + 1, x3, x4 =>
    if B_entries ≤ x4 then
      (some (x3))
    else
      (gin x4 60 (if (B_credited x4.toNatClampNeg) = x2 then
        (gin x4 60 (f_X2_sumOfAmounts_credited_L5 B_entries B_credited B_amounts x2 nn (x3 + (B_amounts x4.toNatClampNeg)) (x4 + 1)))
      else
        (f_X2_sumOfAmounts_credited_L5 B_entries B_credited B_amounts x2 nn x3 (x4 + 1))))
def f_X2_sumOfAmounts_credited (B_entries : Int32) (B_credited : Nat → Int32) (B_amounts : Nat → Int32) (x2 : Int32) : Option (Int32) :=
  f_X2_sumOfAmounts_credited_L5 B_entries B_credited B_amounts x2 FU 0 0
set_option maxHeartbeats 4000000 in
set_option maxRecDepth 100000 in
theorem wl_X2_sumOfAmounts_credited_L5 {p : Program} {l : Launch} {e : Env} {s : State} {m : MethodId} {args : Array Value} {below : List Frame} {meth : Method} {c : Code} {dC : Nat → ClassId} {dI : Nat → Nat → Nat} {Y : Nat → ClassId} {a : Nat → Nat} {B_accounts : Int32} {B_balances : Nat → Int32} {B_balancesAtClosing : Nat → Int32} {B_entries : Int32} {B_debited : Nat → Int32} {B_credited : Nat → Int32} {B_amounts : Nat → Int32} {x2 : Int32} {r : Int32}  (C0 : wk_C p s m args meth c cX2_sumOfAmounts 5 (some .int) wsX2_sumOfAmounts RX2) (hK : va_K (dC, dI) vwCl (vTy Y) s) (hP : va_P (dC, dI) vwCl (wX2 Y a B_accounts B_balances B_balancesAtClosing B_entries B_debited B_credited B_amounts) s.heap) : ∀ (nn : Nat) (x3 : Int32) (x4 : Int32)  , f_X2_sumOfAmounts_credited_L5 B_entries B_credited B_amounts x2 nn x3 x4 = some (r) → ∀ (ls : Array Slot), lv_has ls 5 [(0, .ref (a 0)), (1, .ref (a 4)), (2, .int x2), (3, .int x3), (4, .int x4)] → W p l e (headSpec wsX2_sumOfAmounts ({ frames := 0, cells := 0, slots := 0, locals := 0 } : Room)).room s m args below meth c s.heap [] 0 0 (MQ below (vp_Si (fun r2 => r2 = r)) args s 0 0 (fun _ => False)) (F0 m 5 ls []) := by
  have C0 := C0
  obtain ⟨hx, hb, hml, hr, hlocks, hown, hts⟩ := id C0
  intro nn
  induction nn with
  | zero =>
    intro x3 x4 hf
    rw [f_X2_sumOfAmounts_credited_L5] at hf
    cases hf
  | succ nn ih =>
    intro x3 x4 hf ls hl
    rw [f_X2_sumOfAmounts_credited_L5] at hf
    have hP : va_P (dC, dI) vwCl [(a 0, .inr (4, [.int B_accounts, .ref (a 1), .ref (a 2), .int B_entries, .ref (a 3), .ref (a 4), .ref (a 5)])), (a 1, .inl (Y 0, 11, .inl B_balances)), (a 2, .inl (Y 0, 11, .inl B_balancesAtClosing)), (a 3, .inl (Y 0, 60, .inl B_debited)), (a 4, .inl (Y 0, 60, .inl B_credited)), (a 5, .inl (Y 0, 60, .inl B_amounts))] s.heap := hP
    refine lv_iload hx hb dX2_sumOfAmounts_5 (lv_at hl 4 rfl) ?_
    refine lv_aload_n hx hb dX2_sumOfAmounts_7 rfl (lv_at hl 0 rfl) ?_
    refine va_get (D := (dC, dI)) (ci := 4) (v := .int B_entries) (C := RX2) (T := TX2) (N := 7) hx hb hts in_X2_sumOfAmounts_credited_X2 hown hK hP 0 rfl rfl 3 (by decide) (hts _ lk_X2_sumOfAmounts_credited_RX2_37) (fun _ h9 => h9) rfl dX2_sumOfAmounts_8 ?_
    refine lv_icmp_ge (tgt := 38) hx hb dX2_sumOfAmounts_11 (by decide) (fun q1 => ?_) (fun q1 => ?_)
    · have hf := wk_t hf q1
      refine lv_iload_n hx hb dX2_sumOfAmounts_38 rfl (lv_at hl 3 rfl) ?_
      have e0 := wke1 hf
      subst e0
      exact W.iret (v := x3) hx hb hr (fun t ht hW => ⟨x3, rfl, rfl, ht⟩) (fun q h => absurd h List.not_mem_nil) dX2_sumOfAmounts_39
    · have hf := wk_f hf q1
      refine lv_aload_n hx hb dX2_sumOfAmounts_14 rfl (lv_at hl 1 rfl) ?_
      refine lv_iload hx hb dX2_sumOfAmounts_15 (lv_at hl 4 rfl) ?_
      obtain ⟨h2, hf⟩ := gin_s hf
      refine wk_iald hx hb hK hP 4 0 rfl rfl h2 rfl dX2_sumOfAmounts_17 ?_
      refine lv_iload_n hx hb dX2_sumOfAmounts_18 rfl (lv_at hl 2 rfl) ?_
      refine lv_icmp_ne (tgt := 32) hx hb dX2_sumOfAmounts_19 (by decide) (fun q3 => ?_) (fun q3 => ?_)
      · have hf := wk_f hf q3
        refine lv_iinc (v := (x4 + 1)) (lv' := [(4, .int (x4 + 1)), (0, .ref (a 0)), (1, .ref (a 4)), (2, .int x2), (3, .int x3)]) hx hb dX2_sumOfAmounts_32 hl (k := 4) rfl rfl (by decide) rfl (fun ls hl => ?_)
        refine lv_goto (tgt := 5) hx hb dX2_sumOfAmounts_35 (by decide) ?_
        exact ih x3 (x4 + 1) hf ls (lv_sub hl [1, 2, 3, 4, 0] rfl)
      · have hf := wk_t hf q3
        refine lv_iload_n hx hb dX2_sumOfAmounts_22 rfl (lv_at hl 3 rfl) ?_
        refine lv_aload_n hx hb dX2_sumOfAmounts_23 rfl (lv_at hl 0 rfl) ?_
        refine va_get (D := (dC, dI)) (ci := 4) (v := .ref (a 5)) (C := RX2) (T := TX2) (N := 7) hx hb hts in_X2_sumOfAmounts_credited_X2 hown hK hP 0 rfl rfl 6 (by decide) (hts _ lk_X2_sumOfAmounts_credited_RX2_28) (fun _ h9 => h9) rfl dX2_sumOfAmounts_24 ?_
        refine lv_iload hx hb dX2_sumOfAmounts_27 (lv_at hl 4 rfl) ?_
        obtain ⟨h4, hf⟩ := gin_s hf
        refine wk_iald hx hb hK hP 5 0 rfl rfl h4 rfl dX2_sumOfAmounts_29 ?_
        refine lv_iadd hx hb dX2_sumOfAmounts_30 ?_
        refine lv_istore_n (lv' := [(3, .int (x3 + (B_amounts x4.toNatClampNeg))), (0, .ref (a 0)), (1, .ref (a 4)), (2, .int x2), (4, .int x4)]) hx hb dX2_sumOfAmounts_31 rfl hl (by decide) rfl (fun ls hl => ?_)
        refine lv_iinc (v := (x4 + 1)) (lv' := [(4, .int (x4 + 1)), (3, .int (x3 + (B_amounts x4.toNatClampNeg))), (0, .ref (a 0)), (1, .ref (a 4)), (2, .int x2)]) hx hb dX2_sumOfAmounts_32 hl (k := 4) rfl rfl (by decide) rfl (fun ls hl => ?_)
        refine lv_goto (tgt := 5) hx hb dX2_sumOfAmounts_35 (by decide) ?_
        exact ih (x3 + (B_amounts x4.toNatClampNeg)) (x4 + 1) hf ls (lv_sub hl [2, 3, 4, 1, 0] rfl)
set_option maxHeartbeats 4000000 in
set_option maxRecDepth 100000 in
theorem c_X2_sumOfAmounts_credited (l : Launch) (dC : Nat → ClassId) (dI : Nat → Nat → Nat) (Y : Nat → ClassId) (a : Nat → Nat) (B_accounts : Int32) (B_balances : Nat → Int32) (B_balancesAtClosing : Nat → Int32) (B_entries : Int32) (B_debited : Nat → Int32) (B_credited : Nat → Int32) (B_amounts : Nat → Int32) (x2 : Int32) (r : Int32) (hf : f_X2_sumOfAmounts_credited B_entries B_credited B_amounts x2 = some (r)) : Met l yX2_sumOfAmounts wsX2_sumOfAmounts ({ frames := 0, cells := 0, slots := 0, locals := 0 } : Room) (va_Pc [.ref (a 0), .ref (a 4), .int x2] (wk_B (dC, dI) Y (wX2 Y a B_accounts B_balances B_balancesAtClosing B_entries B_debited B_credited B_amounts))) (vp_Si (fun r2 => r2 = r)) 0 0 (fun _ => False) := by
  refine Met.ofW (cc := cX2_sumOfAmounts) (maxL := 5) (ret := (some .int)) (by decide) rfl ?_
  intro p e s m args below meth c s₁ B hml hv
  obtain ⟨rfl, hP, hK⟩ := hv
  have hx := B.exec
  have hb := B.bytes
  have hr := B.returns
  have hts := atoms_spec (ws := wsX2_sumOfAmounts) B.pre
  have hown : s.vm.findClass RX2 = some m.cls := findClass_of_methodNamed B.named
  have hlocks := B.notSynchronized
  have C0 : wk_C p s m _ meth c cX2_sumOfAmounts 5 (some .int) wsX2_sumOfAmounts RX2 := ⟨hx, hb, hml, hr, hlocks, hown, hts⟩
  have hP : va_P (dC, dI) vwCl [(a 0, .inr (4, [.int B_accounts, .ref (a 1), .ref (a 2), .int B_entries, .ref (a 3), .ref (a 4), .ref (a 5)])), (a 1, .inl (Y 0, 11, .inl B_balances)), (a 2, .inl (Y 0, 11, .inl B_balancesAtClosing)), (a 3, .inl (Y 0, 60, .inl B_debited)), (a 4, .inl (Y 0, 60, .inl B_credited)), (a 5, .inl (Y 0, 60, .inl B_amounts))] s.heap := hP
  have hl := lv_entry ([.ref (a 0), .ref (a 4), .int x2]) (n := 5) (Nat.le_of_ble_eq_true rfl)
  rw [lg_entry_eq]
  generalize (lg_sl ([.ref (a 0), .ref (a 4), .int x2]) ++ List.replicate (5 - (lg_sl ([.ref (a 0), .ref (a 4), .int x2])).length) Slot.unset).toArray = ls at hl ⊢
  have hl : lv_has ls 5 [(0, .ref (a 0)), (1, .ref (a 4)), (2, .int x2)] := hl
  rw [f_X2_sumOfAmounts_credited] at hf
  refine lv_iconst (v := 0) hx hb dX2_sumOfAmounts_0 (by decide) ?_
  refine lv_istore_n (lv' := [(3, .int 0), (0, .ref (a 0)), (1, .ref (a 4)), (2, .int x2)]) hx hb dX2_sumOfAmounts_1 rfl hl (by decide) rfl (fun ls hl => ?_)
  refine lv_iconst (v := 0) hx hb dX2_sumOfAmounts_2 (by decide) ?_
  refine lv_istore (lv' := [(4, .int 0), (3, .int 0), (0, .ref (a 0)), (1, .ref (a 4)), (2, .int x2)]) hx hb dX2_sumOfAmounts_3 hl (by decide) rfl (fun ls hl => ?_)
  exact wl_X2_sumOfAmounts_credited_L5 C0 hK hP FU 0 0 hf ls (lv_sub hl [2, 3, 4, 1, 0] rfl)
theorem lk_X2_debitSum_RX2_22 : Cond.fieldLink RX2 22 "CircusLedger$Books" "debited" "[I" ∈ wsX2_debitSum := by decide +kernel
theorem in_X2_debitSum_X2 : ∀ w ∈ u_ws RX2 TX2 7, w ∈ wsX2_debitSum := by decide +kernel
def f_X2_debitSum (B_entries : Int32) (B_debited : Nat → Int32) (B_amounts : Nat → Int32) (x1 : Int32) : Option (Int32) :=
  wkb1 (f_X2_sumOfAmounts_debited B_entries B_debited B_amounts x1) (fun r1 =>
  some (r1))
set_option maxHeartbeats 4000000 in
set_option maxRecDepth 100000 in
theorem c_X2_debitSum (l : Launch) (dC : Nat → ClassId) (dI : Nat → Nat → Nat) (Y : Nat → ClassId) (a : Nat → Nat) (B_accounts : Int32) (B_balances : Nat → Int32) (B_balancesAtClosing : Nat → Int32) (B_entries : Int32) (B_debited : Nat → Int32) (B_credited : Nat → Int32) (B_amounts : Nat → Int32) (x1 : Int32) (r : Int32) (hf : f_X2_debitSum B_entries B_debited B_amounts x1 = some (r)) : Met l yX2_debitSum wsX2_debitSum ({ frames := 1, cells := 0, slots := 0, locals := 24 } : Room) (va_Pc [.ref (a 0), .int x1] (wk_B (dC, dI) Y (wX2 Y a B_accounts B_balances B_balancesAtClosing B_entries B_debited B_credited B_amounts))) (vp_Si (fun r2 => r2 = r)) 0 0 (fun _ => False) := by
  refine Met.ofW (cc := cX2_debitSum) (maxL := 2) (ret := (some .int)) (by decide) rfl ?_
  intro p e s m args below meth c s₁ B hml hv
  obtain ⟨rfl, hP, hK⟩ := hv
  have hx := B.exec
  have hb := B.bytes
  have hr := B.returns
  have hts := atoms_spec (ws := wsX2_debitSum) B.pre
  have hown : s.vm.findClass RX2 = some m.cls := findClass_of_methodNamed B.named
  have hlocks := B.notSynchronized
  have C0 : wk_C p s m _ meth c cX2_debitSum 2 (some .int) wsX2_debitSum RX2 := ⟨hx, hb, hml, hr, hlocks, hown, hts⟩
  have hP : va_P (dC, dI) vwCl [(a 0, .inr (4, [.int B_accounts, .ref (a 1), .ref (a 2), .int B_entries, .ref (a 3), .ref (a 4), .ref (a 5)])), (a 1, .inl (Y 0, 11, .inl B_balances)), (a 2, .inl (Y 0, 11, .inl B_balancesAtClosing)), (a 3, .inl (Y 0, 60, .inl B_debited)), (a 4, .inl (Y 0, 60, .inl B_credited)), (a 5, .inl (Y 0, 60, .inl B_amounts))] s.heap := hP
  have hl := lv_entry ([.ref (a 0), .int x1]) (n := 2) (Nat.le_of_ble_eq_true rfl)
  rw [lg_entry_eq]
  generalize (lg_sl ([.ref (a 0), .int x1]) ++ List.replicate (2 - (lg_sl ([.ref (a 0), .int x1])).length) Slot.unset).toArray = ls at hl ⊢
  have hl : lv_has ls 2 [(0, .ref (a 0)), (1, .int x1)] := hl
  rw [f_X2_debitSum] at hf
  refine lv_aload_n hx hb dX2_debitSum_0 rfl (lv_at hl 0 rfl) ?_
  refine lv_aload_n hx hb dX2_debitSum_1 rfl (lv_at hl 0 rfl) ?_
  refine va_get (D := (dC, dI)) (ci := 4) (v := .ref (a 3)) (C := RX2) (T := TX2) (N := 7) hx hb hts in_X2_debitSum_X2 hown hK hP 0 rfl rfl 4 (by decide) (hts _ lk_X2_debitSum_RX2_22) (fun _ h9 => h9) rfl dX2_debitSum_2 ?_
  refine lv_iload_n hx hb dX2_debitSum_5 rfl (lv_at hl 1 rfl) ?_
  obtain ⟨r1, hr2, hf⟩ := wkb1_s hf
  have hPc := hP.sub (ws' := (wX2 Y a B_accounts B_balances B_balancesAtClosing B_entries B_debited B_credited B_amounts)) [0, 1, 2, 3, 4, 5] rfl
  refine wk_vi (As := [.ref (a 3), .int x1]) (rest := []) ⟨hx, hb, hml, hown, hts⟩ (c_X2_sumOfAmounts_debited l dC dI Y a B_accounts B_balances B_balancesAtClosing B_entries B_debited B_credited B_amounts x1 r1 hr2) (cwV 2 hts gX2_debitSum_X2_sumOfAmounts rfl rfl rfl (by decide +kernel) ⟨Nat.le_of_ble_eq_true rfl, Nat.le_of_ble_eq_true rfl⟩) hK hPc (va_recv hK hP (ci := 4) (q0 := 0) rfl rfl) rfl hl.1 rfl (Nat.le_of_ble_eq_true rfl) dX2_debitSum_6 ⟨Nat.le_of_ble_eq_true rfl, Nat.le_of_ble_eq_true rfl⟩ ?_
  have e0 := wke1 hf
  subst e0
  exact W.iret (v := r1) hx hb hr (fun t ht hW => ⟨r1, rfl, rfl, ht⟩) (fun q h => absurd h List.not_mem_nil) dX2_debitSum_9
theorem lk_X2_creditSum_RX2_25 : Cond.fieldLink RX2 25 "CircusLedger$Books" "credited" "[I" ∈ wsX2_creditSum := by decide +kernel
theorem in_X2_creditSum_X2 : ∀ w ∈ u_ws RX2 TX2 7, w ∈ wsX2_creditSum := by decide +kernel
def f_X2_creditSum (B_entries : Int32) (B_credited : Nat → Int32) (B_amounts : Nat → Int32) (x1 : Int32) : Option (Int32) :=
  wkb1 (f_X2_sumOfAmounts_credited B_entries B_credited B_amounts x1) (fun r1 =>
  some (r1))
set_option maxHeartbeats 4000000 in
set_option maxRecDepth 100000 in
theorem c_X2_creditSum (l : Launch) (dC : Nat → ClassId) (dI : Nat → Nat → Nat) (Y : Nat → ClassId) (a : Nat → Nat) (B_accounts : Int32) (B_balances : Nat → Int32) (B_balancesAtClosing : Nat → Int32) (B_entries : Int32) (B_debited : Nat → Int32) (B_credited : Nat → Int32) (B_amounts : Nat → Int32) (x1 : Int32) (r : Int32) (hf : f_X2_creditSum B_entries B_credited B_amounts x1 = some (r)) : Met l yX2_creditSum wsX2_creditSum ({ frames := 1, cells := 0, slots := 0, locals := 24 } : Room) (va_Pc [.ref (a 0), .int x1] (wk_B (dC, dI) Y (wX2 Y a B_accounts B_balances B_balancesAtClosing B_entries B_debited B_credited B_amounts))) (vp_Si (fun r2 => r2 = r)) 0 0 (fun _ => False) := by
  refine Met.ofW (cc := cX2_creditSum) (maxL := 2) (ret := (some .int)) (by decide) rfl ?_
  intro p e s m args below meth c s₁ B hml hv
  obtain ⟨rfl, hP, hK⟩ := hv
  have hx := B.exec
  have hb := B.bytes
  have hr := B.returns
  have hts := atoms_spec (ws := wsX2_creditSum) B.pre
  have hown : s.vm.findClass RX2 = some m.cls := findClass_of_methodNamed B.named
  have hlocks := B.notSynchronized
  have C0 : wk_C p s m _ meth c cX2_creditSum 2 (some .int) wsX2_creditSum RX2 := ⟨hx, hb, hml, hr, hlocks, hown, hts⟩
  have hP : va_P (dC, dI) vwCl [(a 0, .inr (4, [.int B_accounts, .ref (a 1), .ref (a 2), .int B_entries, .ref (a 3), .ref (a 4), .ref (a 5)])), (a 1, .inl (Y 0, 11, .inl B_balances)), (a 2, .inl (Y 0, 11, .inl B_balancesAtClosing)), (a 3, .inl (Y 0, 60, .inl B_debited)), (a 4, .inl (Y 0, 60, .inl B_credited)), (a 5, .inl (Y 0, 60, .inl B_amounts))] s.heap := hP
  have hl := lv_entry ([.ref (a 0), .int x1]) (n := 2) (Nat.le_of_ble_eq_true rfl)
  rw [lg_entry_eq]
  generalize (lg_sl ([.ref (a 0), .int x1]) ++ List.replicate (2 - (lg_sl ([.ref (a 0), .int x1])).length) Slot.unset).toArray = ls at hl ⊢
  have hl : lv_has ls 2 [(0, .ref (a 0)), (1, .int x1)] := hl
  rw [f_X2_creditSum] at hf
  refine lv_aload_n hx hb dX2_creditSum_0 rfl (lv_at hl 0 rfl) ?_
  refine lv_aload_n hx hb dX2_creditSum_1 rfl (lv_at hl 0 rfl) ?_
  refine va_get (D := (dC, dI)) (ci := 4) (v := .ref (a 4)) (C := RX2) (T := TX2) (N := 7) hx hb hts in_X2_creditSum_X2 hown hK hP 0 rfl rfl 5 (by decide) (hts _ lk_X2_creditSum_RX2_25) (fun _ h9 => h9) rfl dX2_creditSum_2 ?_
  refine lv_iload_n hx hb dX2_creditSum_5 rfl (lv_at hl 1 rfl) ?_
  obtain ⟨r1, hr2, hf⟩ := wkb1_s hf
  have hPc := hP.sub (ws' := (wX2 Y a B_accounts B_balances B_balancesAtClosing B_entries B_debited B_credited B_amounts)) [0, 1, 2, 3, 4, 5] rfl
  refine wk_vi (As := [.ref (a 4), .int x1]) (rest := []) ⟨hx, hb, hml, hown, hts⟩ (c_X2_sumOfAmounts_credited l dC dI Y a B_accounts B_balances B_balancesAtClosing B_entries B_debited B_credited B_amounts x1 r1 hr2) (cwV 2 hts gX2_creditSum_X2_sumOfAmounts rfl rfl rfl (by decide +kernel) ⟨Nat.le_of_ble_eq_true rfl, Nat.le_of_ble_eq_true rfl⟩) hK hPc (va_recv hK hP (ci := 4) (q0 := 0) rfl rfl) rfl hl.1 rfl (Nat.le_of_ble_eq_true rfl) dX2_creditSum_6 ⟨Nat.le_of_ble_eq_true rfl, Nat.le_of_ble_eq_true rfl⟩ ?_
  have e0 := wke1 hf
  subst e0
  exact W.iret (v := r1) hx hb hr (fun t ht hW => ⟨r1, rfl, rfl, ht⟩) (fun q h => absurd h List.not_mem_nil) dX2_creditSum_9
theorem lk_X2_balanceFromJournal_RX2_19 : Cond.fieldLink RX2 19 "CircusLedger$Books" "balancesAtClosing" "[I" ∈ wsX2_balanceFromJournal := by decide +kernel
theorem in_X2_balanceFromJournal_X2 : ∀ w ∈ u_ws RX2 TX2 7, w ∈ wsX2_balanceFromJournal := by decide +kernel
def f_X2_balanceFromJournal (B_balancesAtClosing : Nat → Int32) (B_entries : Int32) (B_debited : Nat → Int32) (B_credited : Nat → Int32) (B_amounts : Nat → Int32) (x1 : Int32) : Option (Int32) :=
  gin x1 11 (wkb1 (f_X2_debitSum B_entries B_debited B_amounts x1) (fun r2 =>
  wkb1 (f_X2_creditSum B_entries B_credited B_amounts x1) (fun r4 =>
  some ((((B_balancesAtClosing x1.toNatClampNeg) + r2) - r4)))))
set_option maxHeartbeats 4000000 in
set_option maxRecDepth 100000 in
theorem c_X2_balanceFromJournal (l : Launch) (dC : Nat → ClassId) (dI : Nat → Nat → Nat) (Y : Nat → ClassId) (a : Nat → Nat) (B_accounts : Int32) (B_balances : Nat → Int32) (B_balancesAtClosing : Nat → Int32) (B_entries : Int32) (B_debited : Nat → Int32) (B_credited : Nat → Int32) (B_amounts : Nat → Int32) (x1 : Int32) (r : Int32) (hf : f_X2_balanceFromJournal B_balancesAtClosing B_entries B_debited B_credited B_amounts x1 = some (r)) : Met l yX2_balanceFromJournal wsX2_balanceFromJournal ({ frames := 2, cells := 0, slots := 0, locals := 45 } : Room) (va_Pc [.ref (a 0), .int x1] (wk_B (dC, dI) Y (wX2 Y a B_accounts B_balances B_balancesAtClosing B_entries B_debited B_credited B_amounts))) (vp_Si (fun r2 => r2 = r)) 0 0 (fun _ => False) := by
  refine Met.ofW (cc := cX2_balanceFromJournal) (maxL := 2) (ret := (some .int)) (by decide) rfl ?_
  intro p e s m args below meth c s₁ B hml hv
  obtain ⟨rfl, hP, hK⟩ := hv
  have hx := B.exec
  have hb := B.bytes
  have hr := B.returns
  have hts := atoms_spec (ws := wsX2_balanceFromJournal) B.pre
  have hown : s.vm.findClass RX2 = some m.cls := findClass_of_methodNamed B.named
  have hlocks := B.notSynchronized
  have C0 : wk_C p s m _ meth c cX2_balanceFromJournal 2 (some .int) wsX2_balanceFromJournal RX2 := ⟨hx, hb, hml, hr, hlocks, hown, hts⟩
  have hP : va_P (dC, dI) vwCl [(a 0, .inr (4, [.int B_accounts, .ref (a 1), .ref (a 2), .int B_entries, .ref (a 3), .ref (a 4), .ref (a 5)])), (a 1, .inl (Y 0, 11, .inl B_balances)), (a 2, .inl (Y 0, 11, .inl B_balancesAtClosing)), (a 3, .inl (Y 0, 60, .inl B_debited)), (a 4, .inl (Y 0, 60, .inl B_credited)), (a 5, .inl (Y 0, 60, .inl B_amounts))] s.heap := hP
  have hl := lv_entry ([.ref (a 0), .int x1]) (n := 2) (Nat.le_of_ble_eq_true rfl)
  rw [lg_entry_eq]
  generalize (lg_sl ([.ref (a 0), .int x1]) ++ List.replicate (2 - (lg_sl ([.ref (a 0), .int x1])).length) Slot.unset).toArray = ls at hl ⊢
  have hl : lv_has ls 2 [(0, .ref (a 0)), (1, .int x1)] := hl
  rw [f_X2_balanceFromJournal] at hf
  refine lv_aload_n hx hb dX2_balanceFromJournal_0 rfl (lv_at hl 0 rfl) ?_
  refine va_get (D := (dC, dI)) (ci := 4) (v := .ref (a 2)) (C := RX2) (T := TX2) (N := 7) hx hb hts in_X2_balanceFromJournal_X2 hown hK hP 0 rfl rfl 2 (by decide) (hts _ lk_X2_balanceFromJournal_RX2_19) (fun _ h9 => h9) rfl dX2_balanceFromJournal_1 ?_
  refine lv_iload_n hx hb dX2_balanceFromJournal_4 rfl (lv_at hl 1 rfl) ?_
  obtain ⟨h1, hf⟩ := gin_s hf
  refine wk_iald hx hb hK hP 2 0 rfl rfl h1 rfl dX2_balanceFromJournal_5 ?_
  refine lv_aload_n hx hb dX2_balanceFromJournal_6 rfl (lv_at hl 0 rfl) ?_
  refine lv_iload_n hx hb dX2_balanceFromJournal_7 rfl (lv_at hl 1 rfl) ?_
  obtain ⟨r2, hr3, hf⟩ := wkb1_s hf
  have hPc := hP.sub (ws' := (wX2 Y a B_accounts B_balances B_balancesAtClosing B_entries B_debited B_credited B_amounts)) [0, 1, 2, 3, 4, 5] rfl
  refine wk_vi (As := [.int x1]) (rest := [.int (B_balancesAtClosing x1.toNatClampNeg)]) ⟨hx, hb, hml, hown, hts⟩ (c_X2_debitSum l dC dI Y a B_accounts B_balances B_balancesAtClosing B_entries B_debited B_credited B_amounts x1 r2 hr3) (cwV 1 hts gX2_balanceFromJournal_X2_debitSum rfl rfl rfl (by decide +kernel) ⟨Nat.le_of_ble_eq_true rfl, Nat.le_of_ble_eq_true rfl⟩) hK hPc (va_recv hK hP (ci := 4) (q0 := 0) rfl rfl) rfl hl.1 rfl (Nat.le_of_ble_eq_true rfl) dX2_balanceFromJournal_8 ⟨Nat.le_of_ble_eq_true rfl, Nat.le_of_ble_eq_true rfl⟩ ?_
  refine lv_iadd hx hb dX2_balanceFromJournal_11 ?_
  refine lv_aload_n hx hb dX2_balanceFromJournal_12 rfl (lv_at hl 0 rfl) ?_
  refine lv_iload_n hx hb dX2_balanceFromJournal_13 rfl (lv_at hl 1 rfl) ?_
  obtain ⟨r4, hr5, hf⟩ := wkb1_s hf
  have hPc := hP.sub (ws' := (wX2 Y a B_accounts B_balances B_balancesAtClosing B_entries B_debited B_credited B_amounts)) [0, 1, 2, 3, 4, 5] rfl
  refine wk_vi (As := [.int x1]) (rest := [.int ((B_balancesAtClosing x1.toNatClampNeg) + r2)]) ⟨hx, hb, hml, hown, hts⟩ (c_X2_creditSum l dC dI Y a B_accounts B_balances B_balancesAtClosing B_entries B_debited B_credited B_amounts x1 r4 hr5) (cwV 1 hts gX2_balanceFromJournal_X2_creditSum rfl rfl rfl (by decide +kernel) ⟨Nat.le_of_ble_eq_true rfl, Nat.le_of_ble_eq_true rfl⟩) hK hPc (va_recv hK hP (ci := 4) (q0 := 0) rfl rfl) rfl hl.1 rfl (Nat.le_of_ble_eq_true rfl) dX2_balanceFromJournal_14 ⟨Nat.le_of_ble_eq_true rfl, Nat.le_of_ble_eq_true rfl⟩ ?_
  refine lv_isub hx hb dX2_balanceFromJournal_17 ?_
  have e0 := wke1 hf
  subst e0
  exact W.iret (v := (((B_balancesAtClosing x1.toNatClampNeg) + r2) - r4)) hx hb hr (fun t ht hW => ⟨(((B_balancesAtClosing x1.toNatClampNeg) + r2) - r4), rfl, rfl, ht⟩) (fun q h => absurd h List.not_mem_nil) dX2_balanceFromJournal_18
theorem lk_X2_agreeWithJournal_RX2_9 : Cond.fieldLink RX2 9 "CircusLedger$Books" "accounts" "I" ∈ wsX2_agreeWithJournal := by decide +kernel
theorem lk_X2_agreeWithJournal_RX2_15 : Cond.fieldLink RX2 15 "CircusLedger$Books" "balances" "[I" ∈ wsX2_agreeWithJournal := by decide +kernel
theorem in_X2_agreeWithJournal_X2 : ∀ w ∈ u_ws RX2 TX2 7, w ∈ wsX2_agreeWithJournal := by decide +kernel
def f_X2_agreeWithJournal_L2 (B_accounts : Int32) (B_balances : Nat → Int32) (B_balancesAtClosing : Nat → Int32) (B_entries : Int32) (B_debited : Nat → Int32) (B_credited : Nat → Int32) (B_amounts : Nat → Int32) : Nat → Int32 → Option (Int32)
  | 0, _ => none
  | nn + 1, x1 =>
    if B_accounts ≤ x1 then
      (some (1))
    else
      (gin x1 11 (wkb1 (f_X2_balanceFromJournal B_balancesAtClosing B_entries B_debited B_credited B_amounts x1) (fun r3 =>
      if (B_balances x1.toNatClampNeg) = r3 then
        (f_X2_agreeWithJournal_L2 B_accounts B_balances B_balancesAtClosing B_entries B_debited B_credited B_amounts nn (x1 + 1))
      else
        (some (0)))))
def f_X2_agreeWithJournal (B_accounts : Int32) (B_balances : Nat → Int32) (B_balancesAtClosing : Nat → Int32) (B_entries : Int32) (B_debited : Nat → Int32) (B_credited : Nat → Int32) (B_amounts : Nat → Int32) : Option (Int32) :=
  f_X2_agreeWithJournal_L2 B_accounts B_balances B_balancesAtClosing B_entries B_debited B_credited B_amounts FU 0
set_option maxHeartbeats 4000000 in
set_option maxRecDepth 100000 in
theorem wl_X2_agreeWithJournal_L2 {p : Program} {l : Launch} {e : Env} {s : State} {m : MethodId} {args : Array Value} {below : List Frame} {meth : Method} {c : Code} {dC : Nat → ClassId} {dI : Nat → Nat → Nat} {Y : Nat → ClassId} {a : Nat → Nat} {B_accounts : Int32} {B_balances : Nat → Int32} {B_balancesAtClosing : Nat → Int32} {B_entries : Int32} {B_debited : Nat → Int32} {B_credited : Nat → Int32} {B_amounts : Nat → Int32}  {r : Int32}  (C0 : wk_C p s m args meth c cX2_agreeWithJournal 2 (some .boolean) wsX2_agreeWithJournal RX2) (hK : va_K (dC, dI) vwCl (vTy Y) s) (hP : va_P (dC, dI) vwCl (wX2 Y a B_accounts B_balances B_balancesAtClosing B_entries B_debited B_credited B_amounts) s.heap) : ∀ (nn : Nat) (x1 : Int32)  , f_X2_agreeWithJournal_L2 B_accounts B_balances B_balancesAtClosing B_entries B_debited B_credited B_amounts nn x1 = some (r) → ∀ (ls : Array Slot), lv_has ls 2 [(0, .ref (a 0)), (1, .int x1)] → W p l e (headSpec wsX2_agreeWithJournal ({ frames := 3, cells := 0, slots := 0, locals := 66 } : Room)).room s m args below meth c s.heap [] 0 0 (MQ below (vp_Si (fun r2 => r2 = r)) args s 0 0 (fun _ => False)) (F0 m 2 ls []) := by
  have C0 := C0
  obtain ⟨hx, hb, hml, hr, hlocks, hown, hts⟩ := id C0
  intro nn
  induction nn with
  | zero =>
    intro x1 hf
    rw [f_X2_agreeWithJournal_L2] at hf
    cases hf
  | succ nn ih =>
    intro x1 hf ls hl
    rw [f_X2_agreeWithJournal_L2] at hf
    have hP : va_P (dC, dI) vwCl [(a 0, .inr (4, [.int B_accounts, .ref (a 1), .ref (a 2), .int B_entries, .ref (a 3), .ref (a 4), .ref (a 5)])), (a 1, .inl (Y 0, 11, .inl B_balances)), (a 2, .inl (Y 0, 11, .inl B_balancesAtClosing)), (a 3, .inl (Y 0, 60, .inl B_debited)), (a 4, .inl (Y 0, 60, .inl B_credited)), (a 5, .inl (Y 0, 60, .inl B_amounts))] s.heap := hP
    refine lv_iload_n hx hb dX2_agreeWithJournal_2 rfl (lv_at hl 1 rfl) ?_
    refine lv_aload_n hx hb dX2_agreeWithJournal_3 rfl (lv_at hl 0 rfl) ?_
    refine va_get (D := (dC, dI)) (ci := 4) (v := .int B_accounts) (C := RX2) (T := TX2) (N := 7) hx hb hts in_X2_agreeWithJournal_X2 hown hK hP 0 rfl rfl 0 (by decide) (hts _ lk_X2_agreeWithJournal_RX2_9) (fun _ h9 => h9) rfl dX2_agreeWithJournal_4 ?_
    refine lv_icmp_ge (tgt := 32) hx hb dX2_agreeWithJournal_7 (by decide) (fun q1 => ?_) (fun q1 => ?_)
    · have hf := wk_t hf q1
      refine lv_iconst (v := 1) hx hb dX2_agreeWithJournal_32 (by decide) ?_
      have e0 := wke1 hf
      subst e0
      exact W.zret (v := 1) (ty := .boolean) hx hb hr rfl (fun t ht hW => ⟨1, rfl, rfl, ht⟩) (fun q h => absurd h List.not_mem_nil) dX2_agreeWithJournal_33
    · have hf := wk_f hf q1
      refine lv_aload_n hx hb dX2_agreeWithJournal_10 rfl (lv_at hl 0 rfl) ?_
      refine va_get (D := (dC, dI)) (ci := 4) (v := .ref (a 1)) (C := RX2) (T := TX2) (N := 7) hx hb hts in_X2_agreeWithJournal_X2 hown hK hP 0 rfl rfl 1 (by decide) (hts _ lk_X2_agreeWithJournal_RX2_15) (fun _ h9 => h9) rfl dX2_agreeWithJournal_11 ?_
      refine lv_iload_n hx hb dX2_agreeWithJournal_14 rfl (lv_at hl 1 rfl) ?_
      obtain ⟨h2, hf⟩ := gin_s hf
      refine wk_iald hx hb hK hP 1 0 rfl rfl h2 rfl dX2_agreeWithJournal_15 ?_
      refine lv_aload_n hx hb dX2_agreeWithJournal_16 rfl (lv_at hl 0 rfl) ?_
      refine lv_iload_n hx hb dX2_agreeWithJournal_17 rfl (lv_at hl 1 rfl) ?_
      obtain ⟨r3, hr4, hf⟩ := wkb1_s hf
      have hPc := hP.sub (ws' := (wX2 Y a B_accounts B_balances B_balancesAtClosing B_entries B_debited B_credited B_amounts)) [0, 1, 2, 3, 4, 5] rfl
      refine wk_vi (As := [.int x1]) (rest := [.int (B_balances x1.toNatClampNeg)]) ⟨hx, hb, hml, hown, hts⟩ (c_X2_balanceFromJournal l dC dI Y a B_accounts B_balances B_balancesAtClosing B_entries B_debited B_credited B_amounts x1 r3 hr4) (cwV 1 hts gX2_agreeWithJournal_X2_balanceFromJournal rfl rfl rfl (by decide +kernel) ⟨Nat.le_of_ble_eq_true rfl, Nat.le_of_ble_eq_true rfl⟩) hK hPc (va_recv hK hP (ci := 4) (q0 := 0) rfl rfl) rfl hl.1 rfl (Nat.le_of_ble_eq_true rfl) dX2_agreeWithJournal_18 ⟨Nat.le_of_ble_eq_true rfl, Nat.le_of_ble_eq_true rfl⟩ ?_
      refine lv_icmp_eq (tgt := 26) hx hb dX2_agreeWithJournal_21 (by decide) (fun q5 => ?_) (fun q5 => ?_)
      · have hf := wk_t hf q5
        refine lv_iinc (v := (x1 + 1)) (lv' := [(1, .int (x1 + 1)), (0, .ref (a 0))]) hx hb dX2_agreeWithJournal_26 hl (k := 1) rfl rfl (by decide) rfl (fun ls hl => ?_)
        refine lv_goto (tgt := 2) hx hb dX2_agreeWithJournal_29 (by decide) ?_
        exact ih (x1 + 1) hf ls (lv_sub hl [1, 0] rfl)
      · have hf := wk_f hf q5
        refine lv_iconst (v := 0) hx hb dX2_agreeWithJournal_24 (by decide) ?_
        have e0 := wke1 hf
        subst e0
        exact W.zret (v := 0) (ty := .boolean) hx hb hr rfl (fun t ht hW => ⟨0, rfl, rfl, ht⟩) (fun q h => absurd h List.not_mem_nil) dX2_agreeWithJournal_25
set_option maxHeartbeats 4000000 in
set_option maxRecDepth 100000 in
theorem c_X2_agreeWithJournal (l : Launch) (dC : Nat → ClassId) (dI : Nat → Nat → Nat) (Y : Nat → ClassId) (a : Nat → Nat) (B_accounts : Int32) (B_balances : Nat → Int32) (B_balancesAtClosing : Nat → Int32) (B_entries : Int32) (B_debited : Nat → Int32) (B_credited : Nat → Int32) (B_amounts : Nat → Int32)  (r : Int32) (hf : f_X2_agreeWithJournal B_accounts B_balances B_balancesAtClosing B_entries B_debited B_credited B_amounts = some (r)) : Met l yX2_agreeWithJournal wsX2_agreeWithJournal ({ frames := 3, cells := 0, slots := 0, locals := 66 } : Room) (va_Pc [.ref (a 0)] (wk_B (dC, dI) Y (wX2 Y a B_accounts B_balances B_balancesAtClosing B_entries B_debited B_credited B_amounts))) (vp_Si (fun r2 => r2 = r)) 0 0 (fun _ => False) := by
  refine Met.ofW (cc := cX2_agreeWithJournal) (maxL := 2) (ret := (some .boolean)) (by decide) rfl ?_
  intro p e s m args below meth c s₁ B hml hv
  obtain ⟨rfl, hP, hK⟩ := hv
  have hx := B.exec
  have hb := B.bytes
  have hr := B.returns
  have hts := atoms_spec (ws := wsX2_agreeWithJournal) B.pre
  have hown : s.vm.findClass RX2 = some m.cls := findClass_of_methodNamed B.named
  have hlocks := B.notSynchronized
  have C0 : wk_C p s m _ meth c cX2_agreeWithJournal 2 (some .boolean) wsX2_agreeWithJournal RX2 := ⟨hx, hb, hml, hr, hlocks, hown, hts⟩
  have hP : va_P (dC, dI) vwCl [(a 0, .inr (4, [.int B_accounts, .ref (a 1), .ref (a 2), .int B_entries, .ref (a 3), .ref (a 4), .ref (a 5)])), (a 1, .inl (Y 0, 11, .inl B_balances)), (a 2, .inl (Y 0, 11, .inl B_balancesAtClosing)), (a 3, .inl (Y 0, 60, .inl B_debited)), (a 4, .inl (Y 0, 60, .inl B_credited)), (a 5, .inl (Y 0, 60, .inl B_amounts))] s.heap := hP
  have hl := lv_entry ([.ref (a 0)]) (n := 2) (Nat.le_of_ble_eq_true rfl)
  rw [lg_entry_eq]
  generalize (lg_sl ([.ref (a 0)]) ++ List.replicate (2 - (lg_sl ([.ref (a 0)])).length) Slot.unset).toArray = ls at hl ⊢
  have hl : lv_has ls 2 [(0, .ref (a 0))] := hl
  rw [f_X2_agreeWithJournal] at hf
  refine lv_iconst (v := 0) hx hb dX2_agreeWithJournal_0 (by decide) ?_
  refine lv_istore_n (lv' := [(1, .int 0), (0, .ref (a 0))]) hx hb dX2_agreeWithJournal_1 rfl hl (by decide) rfl (fun ls hl => ?_)
  exact wl_X2_agreeWithJournal_L2 C0 hK hP FU 0 hf ls (lv_sub hl [1, 0] rfl)
theorem lk_X2_sumOfBalances_RX2_9 : Cond.fieldLink RX2 9 "CircusLedger$Books" "accounts" "I" ∈ wsX2_sumOfBalances := by decide +kernel
theorem lk_X2_sumOfBalances_RX2_15 : Cond.fieldLink RX2 15 "CircusLedger$Books" "balances" "[I" ∈ wsX2_sumOfBalances := by decide +kernel
theorem in_X2_sumOfBalances_X2 : ∀ w ∈ u_ws RX2 TX2 7, w ∈ wsX2_sumOfBalances := by decide +kernel
def f_X2_sumOfBalances_L4 (B_accounts : Int32) (B_balances : Nat → Int32) : Nat → Int32 → Int32 → Option (Int32)
  | 0, _, _ => none
  | nn + 1, x1, x2 =>
    if B_accounts ≤ x2 then
      (some (x1))
    else
      (gin x2 11 (f_X2_sumOfBalances_L4 B_accounts B_balances nn (x1 + (B_balances x2.toNatClampNeg)) (x2 + 1)))
def f_X2_sumOfBalances (B_accounts : Int32) (B_balances : Nat → Int32) : Option (Int32) :=
  f_X2_sumOfBalances_L4 B_accounts B_balances FU 0 0
set_option maxHeartbeats 4000000 in
set_option maxRecDepth 100000 in
theorem wl_X2_sumOfBalances_L4 {p : Program} {l : Launch} {e : Env} {s : State} {m : MethodId} {args : Array Value} {below : List Frame} {meth : Method} {c : Code} {dC : Nat → ClassId} {dI : Nat → Nat → Nat} {Y : Nat → ClassId} {a : Nat → Nat} {B_accounts : Int32} {B_balances : Nat → Int32} {B_balancesAtClosing : Nat → Int32} {B_entries : Int32} {B_debited : Nat → Int32} {B_credited : Nat → Int32} {B_amounts : Nat → Int32}  {r : Int32}  (C0 : wk_C p s m args meth c cX2_sumOfBalances 3 (some .int) wsX2_sumOfBalances RX2) (hK : va_K (dC, dI) vwCl (vTy Y) s) (hP : va_P (dC, dI) vwCl (wX2 Y a B_accounts B_balances B_balancesAtClosing B_entries B_debited B_credited B_amounts) s.heap) : ∀ (nn : Nat) (x1 : Int32) (x2 : Int32)  , f_X2_sumOfBalances_L4 B_accounts B_balances nn x1 x2 = some (r) → ∀ (ls : Array Slot), lv_has ls 3 [(0, .ref (a 0)), (1, .int x1), (2, .int x2)] → W p l e (headSpec wsX2_sumOfBalances ({ frames := 0, cells := 0, slots := 0, locals := 0 } : Room)).room s m args below meth c s.heap [] 0 0 (MQ below (vp_Si (fun r2 => r2 = r)) args s 0 0 (fun _ => False)) (F0 m 4 ls []) := by
  have C0 := C0
  obtain ⟨hx, hb, hml, hr, hlocks, hown, hts⟩ := id C0
  intro nn
  induction nn with
  | zero =>
    intro x1 x2 hf
    rw [f_X2_sumOfBalances_L4] at hf
    cases hf
  | succ nn ih =>
    intro x1 x2 hf ls hl
    rw [f_X2_sumOfBalances_L4] at hf
    have hP : va_P (dC, dI) vwCl [(a 0, .inr (4, [.int B_accounts, .ref (a 1), .ref (a 2), .int B_entries, .ref (a 3), .ref (a 4), .ref (a 5)])), (a 1, .inl (Y 0, 11, .inl B_balances)), (a 2, .inl (Y 0, 11, .inl B_balancesAtClosing)), (a 3, .inl (Y 0, 60, .inl B_debited)), (a 4, .inl (Y 0, 60, .inl B_credited)), (a 5, .inl (Y 0, 60, .inl B_amounts))] s.heap := hP
    refine lv_iload_n hx hb dX2_sumOfBalances_4 rfl (lv_at hl 2 rfl) ?_
    refine lv_aload_n hx hb dX2_sumOfBalances_5 rfl (lv_at hl 0 rfl) ?_
    refine va_get (D := (dC, dI)) (ci := 4) (v := .int B_accounts) (C := RX2) (T := TX2) (N := 7) hx hb hts in_X2_sumOfBalances_X2 hown hK hP 0 rfl rfl 0 (by decide) (hts _ lk_X2_sumOfBalances_RX2_9) (fun _ h9 => h9) rfl dX2_sumOfBalances_6 ?_
    refine lv_icmp_ge (tgt := 27) hx hb dX2_sumOfBalances_9 (by decide) (fun q1 => ?_) (fun q1 => ?_)
    · have hf := wk_t hf q1
      refine lv_iload_n hx hb dX2_sumOfBalances_27 rfl (lv_at hl 1 rfl) ?_
      have e0 := wke1 hf
      subst e0
      exact W.iret (v := x1) hx hb hr (fun t ht hW => ⟨x1, rfl, rfl, ht⟩) (fun q h => absurd h List.not_mem_nil) dX2_sumOfBalances_28
    · have hf := wk_f hf q1
      refine lv_iload_n hx hb dX2_sumOfBalances_12 rfl (lv_at hl 1 rfl) ?_
      refine lv_aload_n hx hb dX2_sumOfBalances_13 rfl (lv_at hl 0 rfl) ?_
      refine va_get (D := (dC, dI)) (ci := 4) (v := .ref (a 1)) (C := RX2) (T := TX2) (N := 7) hx hb hts in_X2_sumOfBalances_X2 hown hK hP 0 rfl rfl 1 (by decide) (hts _ lk_X2_sumOfBalances_RX2_15) (fun _ h9 => h9) rfl dX2_sumOfBalances_14 ?_
      refine lv_iload_n hx hb dX2_sumOfBalances_17 rfl (lv_at hl 2 rfl) ?_
      obtain ⟨h2, hf⟩ := gin_s hf
      refine wk_iald hx hb hK hP 1 0 rfl rfl h2 rfl dX2_sumOfBalances_18 ?_
      refine lv_iadd hx hb dX2_sumOfBalances_19 ?_
      refine lv_istore_n (lv' := [(1, .int (x1 + (B_balances x2.toNatClampNeg))), (0, .ref (a 0)), (2, .int x2)]) hx hb dX2_sumOfBalances_20 rfl hl (by decide) rfl (fun ls hl => ?_)
      refine lv_iinc (v := (x2 + 1)) (lv' := [(2, .int (x2 + 1)), (1, .int (x1 + (B_balances x2.toNatClampNeg))), (0, .ref (a 0))]) hx hb dX2_sumOfBalances_21 hl (k := 2) rfl rfl (by decide) rfl (fun ls hl => ?_)
      refine lv_goto (tgt := 4) hx hb dX2_sumOfBalances_24 (by decide) ?_
      exact ih (x1 + (B_balances x2.toNatClampNeg)) (x2 + 1) hf ls (lv_sub hl [2, 1, 0] rfl)
set_option maxHeartbeats 4000000 in
set_option maxRecDepth 100000 in
theorem c_X2_sumOfBalances (l : Launch) (dC : Nat → ClassId) (dI : Nat → Nat → Nat) (Y : Nat → ClassId) (a : Nat → Nat) (B_accounts : Int32) (B_balances : Nat → Int32) (B_balancesAtClosing : Nat → Int32) (B_entries : Int32) (B_debited : Nat → Int32) (B_credited : Nat → Int32) (B_amounts : Nat → Int32)  (r : Int32) (hf : f_X2_sumOfBalances B_accounts B_balances = some (r)) : Met l yX2_sumOfBalances wsX2_sumOfBalances ({ frames := 0, cells := 0, slots := 0, locals := 0 } : Room) (va_Pc [.ref (a 0)] (wk_B (dC, dI) Y (wX2 Y a B_accounts B_balances B_balancesAtClosing B_entries B_debited B_credited B_amounts))) (vp_Si (fun r2 => r2 = r)) 0 0 (fun _ => False) := by
  refine Met.ofW (cc := cX2_sumOfBalances) (maxL := 3) (ret := (some .int)) (by decide) rfl ?_
  intro p e s m args below meth c s₁ B hml hv
  obtain ⟨rfl, hP, hK⟩ := hv
  have hx := B.exec
  have hb := B.bytes
  have hr := B.returns
  have hts := atoms_spec (ws := wsX2_sumOfBalances) B.pre
  have hown : s.vm.findClass RX2 = some m.cls := findClass_of_methodNamed B.named
  have hlocks := B.notSynchronized
  have C0 : wk_C p s m _ meth c cX2_sumOfBalances 3 (some .int) wsX2_sumOfBalances RX2 := ⟨hx, hb, hml, hr, hlocks, hown, hts⟩
  have hP : va_P (dC, dI) vwCl [(a 0, .inr (4, [.int B_accounts, .ref (a 1), .ref (a 2), .int B_entries, .ref (a 3), .ref (a 4), .ref (a 5)])), (a 1, .inl (Y 0, 11, .inl B_balances)), (a 2, .inl (Y 0, 11, .inl B_balancesAtClosing)), (a 3, .inl (Y 0, 60, .inl B_debited)), (a 4, .inl (Y 0, 60, .inl B_credited)), (a 5, .inl (Y 0, 60, .inl B_amounts))] s.heap := hP
  have hl := lv_entry ([.ref (a 0)]) (n := 3) (Nat.le_of_ble_eq_true rfl)
  rw [lg_entry_eq]
  generalize (lg_sl ([.ref (a 0)]) ++ List.replicate (3 - (lg_sl ([.ref (a 0)])).length) Slot.unset).toArray = ls at hl ⊢
  have hl : lv_has ls 3 [(0, .ref (a 0))] := hl
  rw [f_X2_sumOfBalances] at hf
  refine lv_iconst (v := 0) hx hb dX2_sumOfBalances_0 (by decide) ?_
  refine lv_istore_n (lv' := [(1, .int 0), (0, .ref (a 0))]) hx hb dX2_sumOfBalances_1 rfl hl (by decide) rfl (fun ls hl => ?_)
  refine lv_iconst (v := 0) hx hb dX2_sumOfBalances_2 (by decide) ?_
  refine lv_istore_n (lv' := [(2, .int 0), (1, .int 0), (0, .ref (a 0))]) hx hb dX2_sumOfBalances_3 rfl hl (by decide) rfl (fun ls hl => ?_)
  exact wl_X2_sumOfBalances_L4 C0 hK hP FU 0 0 hf ls (lv_sub hl [2, 1, 0] rfl)
theorem lk_X2_rankOf_RX2_9 : Cond.fieldLink RX2 9 "CircusLedger$Books" "accounts" "I" ∈ wsX2_rankOf := by decide +kernel
theorem lk_X2_rankOf_RX2_15 : Cond.fieldLink RX2 15 "CircusLedger$Books" "balances" "[I" ∈ wsX2_rankOf := by decide +kernel
theorem in_X2_rankOf_X2 : ∀ w ∈ u_ws RX2 TX2 7, w ∈ wsX2_rankOf := by decide +kernel
def f_X2_rankOf_L4 (B_accounts : Int32) (B_balances : Nat → Int32) (x1 : Int32) : Nat → Int32 → Int32 → Option (Int32)
  | 0, _, _ => none
  | nn + 1, x2, x3 =>
    if B_accounts ≤ x3 then
      (some (x2))
    else
      (gin x3 11 (gin x1 11 (if (B_balances x3.toNatClampNeg) = (B_balances x1.toNatClampNeg) then
        (if x1 ≤ x3 then
          (f_X2_rankOf_L4 B_accounts B_balances x1 nn x2 (x3 + 1))
        else
          (f_X2_rankOf_L4 B_accounts B_balances x1 nn (x2 + 1) (x3 + 1)))
      else
        (gin x3 11 (gin x1 11 (if (B_balances x3.toNatClampNeg) ≤ (B_balances x1.toNatClampNeg) then
          (f_X2_rankOf_L4 B_accounts B_balances x1 nn x2 (x3 + 1))
        else
          (f_X2_rankOf_L4 B_accounts B_balances x1 nn (x2 + 1) (x3 + 1))))))))
def f_X2_rankOf (B_accounts : Int32) (B_balances : Nat → Int32) (x1 : Int32) : Option (Int32) :=
  f_X2_rankOf_L4 B_accounts B_balances x1 FU 0 0
set_option maxHeartbeats 4000000 in
set_option maxRecDepth 100000 in
theorem wl_X2_rankOf_L4 {p : Program} {l : Launch} {e : Env} {s : State} {m : MethodId} {args : Array Value} {below : List Frame} {meth : Method} {c : Code} {dC : Nat → ClassId} {dI : Nat → Nat → Nat} {Y : Nat → ClassId} {a : Nat → Nat} {B_accounts : Int32} {B_balances : Nat → Int32} {B_balancesAtClosing : Nat → Int32} {B_entries : Int32} {B_debited : Nat → Int32} {B_credited : Nat → Int32} {B_amounts : Nat → Int32} {x1 : Int32} {r : Int32}  (C0 : wk_C p s m args meth c cX2_rankOf 5 (some .int) wsX2_rankOf RX2) (hK : va_K (dC, dI) vwCl (vTy Y) s) (hP : va_P (dC, dI) vwCl (wX2 Y a B_accounts B_balances B_balancesAtClosing B_entries B_debited B_credited B_amounts) s.heap) : ∀ (nn : Nat) (x2 : Int32) (x3 : Int32)  , f_X2_rankOf_L4 B_accounts B_balances x1 nn x2 x3 = some (r) → ∀ (ls : Array Slot), lv_has ls 5 [(0, .ref (a 0)), (1, .int x1), (2, .int x2), (3, .int x3)] → W p l e (headSpec wsX2_rankOf ({ frames := 0, cells := 0, slots := 0, locals := 0 } : Room)).room s m args below meth c s.heap [] 0 0 (MQ below (vp_Si (fun r2 => r2 = r)) args s 0 0 (fun _ => False)) (F0 m 4 ls []) := by
  have C0 := C0
  obtain ⟨hx, hb, hml, hr, hlocks, hown, hts⟩ := id C0
  intro nn
  induction nn with
  | zero =>
    intro x2 x3 hf
    rw [f_X2_rankOf_L4] at hf
    cases hf
  | succ nn ih =>
    intro x2 x3 hf ls hl
    rw [f_X2_rankOf_L4] at hf
    have hP : va_P (dC, dI) vwCl [(a 0, .inr (4, [.int B_accounts, .ref (a 1), .ref (a 2), .int B_entries, .ref (a 3), .ref (a 4), .ref (a 5)])), (a 1, .inl (Y 0, 11, .inl B_balances)), (a 2, .inl (Y 0, 11, .inl B_balancesAtClosing)), (a 3, .inl (Y 0, 60, .inl B_debited)), (a 4, .inl (Y 0, 60, .inl B_credited)), (a 5, .inl (Y 0, 60, .inl B_amounts))] s.heap := hP
    refine lv_iload_n hx hb dX2_rankOf_4 rfl (lv_at hl 3 rfl) ?_
    refine lv_aload_n hx hb dX2_rankOf_5 rfl (lv_at hl 0 rfl) ?_
    refine va_get (D := (dC, dI)) (ci := 4) (v := .int B_accounts) (C := RX2) (T := TX2) (N := 7) hx hb hts in_X2_rankOf_X2 hown hK hP 0 rfl rfl 0 (by decide) (hts _ lk_X2_rankOf_RX2_9) (fun _ h9 => h9) rfl dX2_rankOf_6 ?_
    refine lv_icmp_ge (tgt := 76) hx hb dX2_rankOf_9 (by decide) (fun q1 => ?_) (fun q1 => ?_)
    · have hf := wk_t hf q1
      refine lv_iload_n hx hb dX2_rankOf_76 rfl (lv_at hl 2 rfl) ?_
      have e0 := wke1 hf
      subst e0
      exact W.iret (v := x2) hx hb hr (fun t ht hW => ⟨x2, rfl, rfl, ht⟩) (fun q h => absurd h List.not_mem_nil) dX2_rankOf_77
    · have hf := wk_f hf q1
      refine lv_aload_n hx hb dX2_rankOf_12 rfl (lv_at hl 0 rfl) ?_
      refine va_get (D := (dC, dI)) (ci := 4) (v := .ref (a 1)) (C := RX2) (T := TX2) (N := 7) hx hb hts in_X2_rankOf_X2 hown hK hP 0 rfl rfl 1 (by decide) (hts _ lk_X2_rankOf_RX2_15) (fun _ h9 => h9) rfl dX2_rankOf_13 ?_
      refine lv_iload_n hx hb dX2_rankOf_16 rfl (lv_at hl 3 rfl) ?_
      obtain ⟨h2, hf⟩ := gin_s hf
      refine wk_iald hx hb hK hP 1 0 rfl rfl h2 rfl dX2_rankOf_17 ?_
      refine lv_aload_n hx hb dX2_rankOf_18 rfl (lv_at hl 0 rfl) ?_
      refine va_get (D := (dC, dI)) (ci := 4) (v := .ref (a 1)) (C := RX2) (T := TX2) (N := 7) hx hb hts in_X2_rankOf_X2 hown hK hP 0 rfl rfl 1 (by decide) (hts _ lk_X2_rankOf_RX2_15) (fun _ h9 => h9) rfl dX2_rankOf_19 ?_
      refine lv_iload_n hx hb dX2_rankOf_22 rfl (lv_at hl 1 rfl) ?_
      obtain ⟨h3, hf⟩ := gin_s hf
      refine wk_iald hx hb hK hP 1 0 rfl rfl h3 rfl dX2_rankOf_23 ?_
      refine lv_icmp_ne (tgt := 40) hx hb dX2_rankOf_24 (by decide) (fun q4 => ?_) (fun q4 => ?_)
      · have hf := wk_f hf q4
        refine lv_aload_n hx hb dX2_rankOf_40 rfl (lv_at hl 0 rfl) ?_
        refine va_get (D := (dC, dI)) (ci := 4) (v := .ref (a 1)) (C := RX2) (T := TX2) (N := 7) hx hb hts in_X2_rankOf_X2 hown hK hP 0 rfl rfl 1 (by decide) (hts _ lk_X2_rankOf_RX2_15) (fun _ h9 => h9) rfl dX2_rankOf_41 ?_
        refine lv_iload_n hx hb dX2_rankOf_44 rfl (lv_at hl 3 rfl) ?_
        obtain ⟨h5, hf⟩ := gin_s hf
        refine wk_iald hx hb hK hP 1 0 rfl rfl h5 rfl dX2_rankOf_45 ?_
        refine lv_aload_n hx hb dX2_rankOf_46 rfl (lv_at hl 0 rfl) ?_
        refine va_get (D := (dC, dI)) (ci := 4) (v := .ref (a 1)) (C := RX2) (T := TX2) (N := 7) hx hb hts in_X2_rankOf_X2 hown hK hP 0 rfl rfl 1 (by decide) (hts _ lk_X2_rankOf_RX2_15) (fun _ h9 => h9) rfl dX2_rankOf_47 ?_
        refine lv_iload_n hx hb dX2_rankOf_50 rfl (lv_at hl 1 rfl) ?_
        obtain ⟨h6, hf⟩ := gin_s hf
        refine wk_iald hx hb hK hP 1 0 rfl rfl h6 rfl dX2_rankOf_51 ?_
        refine lv_icmp_le (tgt := 59) hx hb dX2_rankOf_52 (by decide) (fun q7 => ?_) (fun q7 => ?_)
        · have hf := wk_t hf q7
          refine lv_iconst (v := 0) hx hb dX2_rankOf_59 (by decide) ?_
          refine lv_istore (lv' := [(4, .int 0), (0, .ref (a 0)), (1, .int x1), (2, .int x2), (3, .int x3)]) hx hb dX2_rankOf_60 hl (by decide) rfl (fun ls hl => ?_)
          refine lv_iload hx hb dX2_rankOf_62 (lv_at hl 0 rfl) ?_
          refine lv_if_eq (tgt := 70) hx hb dX2_rankOf_64 (by decide) (fun _ => ?_) (fun q9 => absurd q9 (by decide))
          refine lv_iinc (v := (x3 + 1)) (lv' := [(3, .int (x3 + 1)), (4, .int 0), (0, .ref (a 0)), (1, .int x1), (2, .int x2)]) hx hb dX2_rankOf_70 hl (k := 4) rfl rfl (by decide) rfl (fun ls hl => ?_)
          refine lv_goto (tgt := 4) hx hb dX2_rankOf_73 (by decide) ?_
          exact ih x2 (x3 + 1) hf ls (lv_sub hl [2, 3, 4, 0] rfl)
        · have hf := wk_f hf q7
          refine lv_iconst (v := 1) hx hb dX2_rankOf_55 (by decide) ?_
          refine lv_goto (tgt := 60) hx hb dX2_rankOf_56 (by decide) ?_
          refine lv_istore (lv' := [(4, .int 1), (0, .ref (a 0)), (1, .int x1), (2, .int x2), (3, .int x3)]) hx hb dX2_rankOf_60 hl (by decide) rfl (fun ls hl => ?_)
          refine lv_iload hx hb dX2_rankOf_62 (lv_at hl 0 rfl) ?_
          refine lv_if_eq (tgt := 70) hx hb dX2_rankOf_64 (by decide) (fun q9 => absurd q9 (by decide)) (fun _ => ?_)
          refine lv_iinc (v := (x2 + 1)) (lv' := [(2, .int (x2 + 1)), (4, .int 1), (0, .ref (a 0)), (1, .int x1), (3, .int x3)]) hx hb dX2_rankOf_67 hl (k := 3) rfl rfl (by decide) rfl (fun ls hl => ?_)
          refine lv_iinc (v := (x3 + 1)) (lv' := [(3, .int (x3 + 1)), (2, .int (x2 + 1)), (4, .int 1), (0, .ref (a 0)), (1, .int x1)]) hx hb dX2_rankOf_70 hl (k := 4) rfl rfl (by decide) rfl (fun ls hl => ?_)
          refine lv_goto (tgt := 4) hx hb dX2_rankOf_73 (by decide) ?_
          exact ih (x2 + 1) (x3 + 1) hf ls (lv_sub hl [3, 4, 1, 0] rfl)
      · have hf := wk_t hf q4
        refine lv_iload_n hx hb dX2_rankOf_27 rfl (lv_at hl 3 rfl) ?_
        refine lv_iload_n hx hb dX2_rankOf_28 rfl (lv_at hl 1 rfl) ?_
        refine lv_icmp_ge (tgt := 36) hx hb dX2_rankOf_29 (by decide) (fun q8 => ?_) (fun q8 => ?_)
        · have hf := wk_t hf q8
          refine lv_iconst (v := 0) hx hb dX2_rankOf_36 (by decide) ?_
          refine lv_goto (tgt := 60) hx hb dX2_rankOf_37 (by decide) ?_
          refine lv_istore (lv' := [(4, .int 0), (0, .ref (a 0)), (1, .int x1), (2, .int x2), (3, .int x3)]) hx hb dX2_rankOf_60 hl (by decide) rfl (fun ls hl => ?_)
          refine lv_iload hx hb dX2_rankOf_62 (lv_at hl 0 rfl) ?_
          refine lv_if_eq (tgt := 70) hx hb dX2_rankOf_64 (by decide) (fun _ => ?_) (fun q9 => absurd q9 (by decide))
          refine lv_iinc (v := (x3 + 1)) (lv' := [(3, .int (x3 + 1)), (4, .int 0), (0, .ref (a 0)), (1, .int x1), (2, .int x2)]) hx hb dX2_rankOf_70 hl (k := 4) rfl rfl (by decide) rfl (fun ls hl => ?_)
          refine lv_goto (tgt := 4) hx hb dX2_rankOf_73 (by decide) ?_
          exact ih x2 (x3 + 1) hf ls (lv_sub hl [2, 3, 4, 0] rfl)
        · have hf := wk_f hf q8
          refine lv_iconst (v := 1) hx hb dX2_rankOf_32 (by decide) ?_
          refine lv_goto (tgt := 60) hx hb dX2_rankOf_33 (by decide) ?_
          refine lv_istore (lv' := [(4, .int 1), (0, .ref (a 0)), (1, .int x1), (2, .int x2), (3, .int x3)]) hx hb dX2_rankOf_60 hl (by decide) rfl (fun ls hl => ?_)
          refine lv_iload hx hb dX2_rankOf_62 (lv_at hl 0 rfl) ?_
          refine lv_if_eq (tgt := 70) hx hb dX2_rankOf_64 (by decide) (fun q9 => absurd q9 (by decide)) (fun _ => ?_)
          refine lv_iinc (v := (x2 + 1)) (lv' := [(2, .int (x2 + 1)), (4, .int 1), (0, .ref (a 0)), (1, .int x1), (3, .int x3)]) hx hb dX2_rankOf_67 hl (k := 3) rfl rfl (by decide) rfl (fun ls hl => ?_)
          refine lv_iinc (v := (x3 + 1)) (lv' := [(3, .int (x3 + 1)), (2, .int (x2 + 1)), (4, .int 1), (0, .ref (a 0)), (1, .int x1)]) hx hb dX2_rankOf_70 hl (k := 4) rfl rfl (by decide) rfl (fun ls hl => ?_)
          refine lv_goto (tgt := 4) hx hb dX2_rankOf_73 (by decide) ?_
          exact ih (x2 + 1) (x3 + 1) hf ls (lv_sub hl [3, 4, 1, 0] rfl)
set_option maxHeartbeats 4000000 in
set_option maxRecDepth 100000 in
theorem c_X2_rankOf (l : Launch) (dC : Nat → ClassId) (dI : Nat → Nat → Nat) (Y : Nat → ClassId) (a : Nat → Nat) (B_accounts : Int32) (B_balances : Nat → Int32) (B_balancesAtClosing : Nat → Int32) (B_entries : Int32) (B_debited : Nat → Int32) (B_credited : Nat → Int32) (B_amounts : Nat → Int32) (x1 : Int32) (r : Int32) (hf : f_X2_rankOf B_accounts B_balances x1 = some (r)) : Met l yX2_rankOf wsX2_rankOf ({ frames := 0, cells := 0, slots := 0, locals := 0 } : Room) (va_Pc [.ref (a 0), .int x1] (wk_B (dC, dI) Y (wX2 Y a B_accounts B_balances B_balancesAtClosing B_entries B_debited B_credited B_amounts))) (vp_Si (fun r2 => r2 = r)) 0 0 (fun _ => False) := by
  refine Met.ofW (cc := cX2_rankOf) (maxL := 5) (ret := (some .int)) (by decide) rfl ?_
  intro p e s m args below meth c s₁ B hml hv
  obtain ⟨rfl, hP, hK⟩ := hv
  have hx := B.exec
  have hb := B.bytes
  have hr := B.returns
  have hts := atoms_spec (ws := wsX2_rankOf) B.pre
  have hown : s.vm.findClass RX2 = some m.cls := findClass_of_methodNamed B.named
  have hlocks := B.notSynchronized
  have C0 : wk_C p s m _ meth c cX2_rankOf 5 (some .int) wsX2_rankOf RX2 := ⟨hx, hb, hml, hr, hlocks, hown, hts⟩
  have hP : va_P (dC, dI) vwCl [(a 0, .inr (4, [.int B_accounts, .ref (a 1), .ref (a 2), .int B_entries, .ref (a 3), .ref (a 4), .ref (a 5)])), (a 1, .inl (Y 0, 11, .inl B_balances)), (a 2, .inl (Y 0, 11, .inl B_balancesAtClosing)), (a 3, .inl (Y 0, 60, .inl B_debited)), (a 4, .inl (Y 0, 60, .inl B_credited)), (a 5, .inl (Y 0, 60, .inl B_amounts))] s.heap := hP
  have hl := lv_entry ([.ref (a 0), .int x1]) (n := 5) (Nat.le_of_ble_eq_true rfl)
  rw [lg_entry_eq]
  generalize (lg_sl ([.ref (a 0), .int x1]) ++ List.replicate (5 - (lg_sl ([.ref (a 0), .int x1])).length) Slot.unset).toArray = ls at hl ⊢
  have hl : lv_has ls 5 [(0, .ref (a 0)), (1, .int x1)] := hl
  rw [f_X2_rankOf] at hf
  refine lv_iconst (v := 0) hx hb dX2_rankOf_0 (by decide) ?_
  refine lv_istore_n (lv' := [(2, .int 0), (0, .ref (a 0)), (1, .int x1)]) hx hb dX2_rankOf_1 rfl hl (by decide) rfl (fun ls hl => ?_)
  refine lv_iconst (v := 0) hx hb dX2_rankOf_2 (by decide) ?_
  refine lv_istore_n (lv' := [(3, .int 0), (2, .int 0), (0, .ref (a 0)), (1, .int x1)]) hx hb dX2_rankOf_3 rfl hl (by decide) rfl (fun ls hl => ?_)
  exact wl_X2_rankOf_L4 C0 hK hP FU 0 0 hf ls (lv_sub hl [2, 3, 1, 0] rfl)
theorem lk_X2_accountAtRank_RX2_9 : Cond.fieldLink RX2 9 "CircusLedger$Books" "accounts" "I" ∈ wsX2_accountAtRank := by decide +kernel
theorem in_X2_accountAtRank_X2 : ∀ w ∈ u_ws RX2 TX2 7, w ∈ wsX2_accountAtRank := by decide +kernel
def f_X2_accountAtRank_L2 (B_accounts : Int32) (B_balances : Nat → Int32) (x1 : Int32) : Nat → Int32 → Option (Int32)
  | 0, _ => none
  | nn + 1, x2 =>
    if B_accounts ≤ x2 then
      (some ((-1)))
    else
      (wkb1 (f_X2_rankOf B_accounts B_balances x2) (fun r2 =>
      if r2 = x1 then
        (some (x2))
      else
        (f_X2_accountAtRank_L2 B_accounts B_balances x1 nn (x2 + 1))))
def f_X2_accountAtRank (B_accounts : Int32) (B_balances : Nat → Int32) (x1 : Int32) : Option (Int32) :=
  f_X2_accountAtRank_L2 B_accounts B_balances x1 FU 0
set_option maxHeartbeats 4000000 in
set_option maxRecDepth 100000 in
theorem wl_X2_accountAtRank_L2 {p : Program} {l : Launch} {e : Env} {s : State} {m : MethodId} {args : Array Value} {below : List Frame} {meth : Method} {c : Code} {dC : Nat → ClassId} {dI : Nat → Nat → Nat} {Y : Nat → ClassId} {a : Nat → Nat} {B_accounts : Int32} {B_balances : Nat → Int32} {B_balancesAtClosing : Nat → Int32} {B_entries : Int32} {B_debited : Nat → Int32} {B_credited : Nat → Int32} {B_amounts : Nat → Int32} {x1 : Int32} {r : Int32}  (C0 : wk_C p s m args meth c cX2_accountAtRank 3 (some .int) wsX2_accountAtRank RX2) (hK : va_K (dC, dI) vwCl (vTy Y) s) (hP : va_P (dC, dI) vwCl (wX2 Y a B_accounts B_balances B_balancesAtClosing B_entries B_debited B_credited B_amounts) s.heap) : ∀ (nn : Nat) (x2 : Int32)  , f_X2_accountAtRank_L2 B_accounts B_balances x1 nn x2 = some (r) → ∀ (ls : Array Slot), lv_has ls 3 [(0, .ref (a 0)), (1, .int x1), (2, .int x2)] → W p l e (headSpec wsX2_accountAtRank ({ frames := 1, cells := 0, slots := 0, locals := 24 } : Room)).room s m args below meth c s.heap [] 0 0 (MQ below (vp_Si (fun r2 => r2 = r)) args s 0 0 (fun _ => False)) (F0 m 2 ls []) := by
  have C0 := C0
  obtain ⟨hx, hb, hml, hr, hlocks, hown, hts⟩ := id C0
  intro nn
  induction nn with
  | zero =>
    intro x2 hf
    rw [f_X2_accountAtRank_L2] at hf
    cases hf
  | succ nn ih =>
    intro x2 hf ls hl
    rw [f_X2_accountAtRank_L2] at hf
    have hP : va_P (dC, dI) vwCl [(a 0, .inr (4, [.int B_accounts, .ref (a 1), .ref (a 2), .int B_entries, .ref (a 3), .ref (a 4), .ref (a 5)])), (a 1, .inl (Y 0, 11, .inl B_balances)), (a 2, .inl (Y 0, 11, .inl B_balancesAtClosing)), (a 3, .inl (Y 0, 60, .inl B_debited)), (a 4, .inl (Y 0, 60, .inl B_credited)), (a 5, .inl (Y 0, 60, .inl B_amounts))] s.heap := hP
    refine lv_iload_n hx hb dX2_accountAtRank_2 rfl (lv_at hl 2 rfl) ?_
    refine lv_aload_n hx hb dX2_accountAtRank_3 rfl (lv_at hl 0 rfl) ?_
    refine va_get (D := (dC, dI)) (ci := 4) (v := .int B_accounts) (C := RX2) (T := TX2) (N := 7) hx hb hts in_X2_accountAtRank_X2 hown hK hP 0 rfl rfl 0 (by decide) (hts _ lk_X2_accountAtRank_RX2_9) (fun _ h9 => h9) rfl dX2_accountAtRank_4 ?_
    refine lv_icmp_ge (tgt := 27) hx hb dX2_accountAtRank_7 (by decide) (fun q1 => ?_) (fun q1 => ?_)
    · have hf := wk_t hf q1
      refine lv_iconst (v := (-1)) hx hb dX2_accountAtRank_27 (by decide) ?_
      have e0 := wke1 hf
      subst e0
      exact W.iret (v := (-1)) hx hb hr (fun t ht hW => ⟨(-1), rfl, rfl, ht⟩) (fun q h => absurd h List.not_mem_nil) dX2_accountAtRank_28
    · have hf := wk_f hf q1
      refine lv_aload_n hx hb dX2_accountAtRank_10 rfl (lv_at hl 0 rfl) ?_
      refine lv_iload_n hx hb dX2_accountAtRank_11 rfl (lv_at hl 2 rfl) ?_
      obtain ⟨r2, hr3, hf⟩ := wkb1_s hf
      have hPc := hP.sub (ws' := (wX2 Y a B_accounts B_balances B_balancesAtClosing B_entries B_debited B_credited B_amounts)) [0, 1, 2, 3, 4, 5] rfl
      refine wk_vi (As := [.int x2]) (rest := []) ⟨hx, hb, hml, hown, hts⟩ (c_X2_rankOf l dC dI Y a B_accounts B_balances B_balancesAtClosing B_entries B_debited B_credited B_amounts x2 r2 hr3) (cwV 1 hts gX2_accountAtRank_X2_rankOf rfl rfl rfl (by decide +kernel) ⟨Nat.le_of_ble_eq_true rfl, Nat.le_of_ble_eq_true rfl⟩) hK hPc (va_recv hK hP (ci := 4) (q0 := 0) rfl rfl) rfl hl.1 rfl (Nat.le_of_ble_eq_true rfl) dX2_accountAtRank_12 ⟨Nat.le_of_ble_eq_true rfl, Nat.le_of_ble_eq_true rfl⟩ ?_
      refine lv_iload_n hx hb dX2_accountAtRank_15 rfl (lv_at hl 1 rfl) ?_
      refine lv_icmp_ne (tgt := 21) hx hb dX2_accountAtRank_16 (by decide) (fun q4 => ?_) (fun q4 => ?_)
      · have hf := wk_f hf q4
        refine lv_iinc (v := (x2 + 1)) (lv' := [(2, .int (x2 + 1)), (0, .ref (a 0)), (1, .int x1)]) hx hb dX2_accountAtRank_21 hl (k := 2) rfl rfl (by decide) rfl (fun ls hl => ?_)
        refine lv_goto (tgt := 2) hx hb dX2_accountAtRank_24 (by decide) ?_
        exact ih (x2 + 1) hf ls (lv_sub hl [1, 2, 0] rfl)
      · have hf := wk_t hf q4
        refine lv_iload_n hx hb dX2_accountAtRank_19 rfl (lv_at hl 2 rfl) ?_
        have e0 := wke1 hf
        subst e0
        exact W.iret (v := x2) hx hb hr (fun t ht hW => ⟨x2, rfl, rfl, ht⟩) (fun q h => absurd h List.not_mem_nil) dX2_accountAtRank_20
set_option maxHeartbeats 4000000 in
set_option maxRecDepth 100000 in
theorem c_X2_accountAtRank (l : Launch) (dC : Nat → ClassId) (dI : Nat → Nat → Nat) (Y : Nat → ClassId) (a : Nat → Nat) (B_accounts : Int32) (B_balances : Nat → Int32) (B_balancesAtClosing : Nat → Int32) (B_entries : Int32) (B_debited : Nat → Int32) (B_credited : Nat → Int32) (B_amounts : Nat → Int32) (x1 : Int32) (r : Int32) (hf : f_X2_accountAtRank B_accounts B_balances x1 = some (r)) : Met l yX2_accountAtRank wsX2_accountAtRank ({ frames := 1, cells := 0, slots := 0, locals := 24 } : Room) (va_Pc [.ref (a 0), .int x1] (wk_B (dC, dI) Y (wX2 Y a B_accounts B_balances B_balancesAtClosing B_entries B_debited B_credited B_amounts))) (vp_Si (fun r2 => r2 = r)) 0 0 (fun _ => False) := by
  refine Met.ofW (cc := cX2_accountAtRank) (maxL := 3) (ret := (some .int)) (by decide) rfl ?_
  intro p e s m args below meth c s₁ B hml hv
  obtain ⟨rfl, hP, hK⟩ := hv
  have hx := B.exec
  have hb := B.bytes
  have hr := B.returns
  have hts := atoms_spec (ws := wsX2_accountAtRank) B.pre
  have hown : s.vm.findClass RX2 = some m.cls := findClass_of_methodNamed B.named
  have hlocks := B.notSynchronized
  have C0 : wk_C p s m _ meth c cX2_accountAtRank 3 (some .int) wsX2_accountAtRank RX2 := ⟨hx, hb, hml, hr, hlocks, hown, hts⟩
  have hP : va_P (dC, dI) vwCl [(a 0, .inr (4, [.int B_accounts, .ref (a 1), .ref (a 2), .int B_entries, .ref (a 3), .ref (a 4), .ref (a 5)])), (a 1, .inl (Y 0, 11, .inl B_balances)), (a 2, .inl (Y 0, 11, .inl B_balancesAtClosing)), (a 3, .inl (Y 0, 60, .inl B_debited)), (a 4, .inl (Y 0, 60, .inl B_credited)), (a 5, .inl (Y 0, 60, .inl B_amounts))] s.heap := hP
  have hl := lv_entry ([.ref (a 0), .int x1]) (n := 3) (Nat.le_of_ble_eq_true rfl)
  rw [lg_entry_eq]
  generalize (lg_sl ([.ref (a 0), .int x1]) ++ List.replicate (3 - (lg_sl ([.ref (a 0), .int x1])).length) Slot.unset).toArray = ls at hl ⊢
  have hl : lv_has ls 3 [(0, .ref (a 0)), (1, .int x1)] := hl
  rw [f_X2_accountAtRank] at hf
  refine lv_iconst (v := 0) hx hb dX2_accountAtRank_0 (by decide) ?_
  refine lv_istore_n (lv' := [(2, .int 0), (0, .ref (a 0)), (1, .int x1)]) hx hb dX2_accountAtRank_1 rfl hl (by decide) rfl (fun ls hl => ?_)
  exact wl_X2_accountAtRank_L2 C0 hK hP FU 0 hf ls (lv_sub hl [1, 2, 0] rfl)
theorem lk_X2_positiveCount_RX2_9 : Cond.fieldLink RX2 9 "CircusLedger$Books" "accounts" "I" ∈ wsX2_positiveCount := by decide +kernel
theorem lk_X2_positiveCount_RX2_15 : Cond.fieldLink RX2 15 "CircusLedger$Books" "balances" "[I" ∈ wsX2_positiveCount := by decide +kernel
theorem in_X2_positiveCount_X2 : ∀ w ∈ u_ws RX2 TX2 7, w ∈ wsX2_positiveCount := by decide +kernel
def f_X2_positiveCount_L4 (B_accounts : Int32) (B_balances : Nat → Int32) : Nat → Int32 → Int32 → Option (Int32)
  | 0, _, _ => none
  | nn + 1, x1, x2 =>
    if B_accounts ≤ x2 then
      (some (x1))
    else
      (gin x2 11 (if (B_balances x2.toNatClampNeg) ≤ 0 then
        (f_X2_positiveCount_L4 B_accounts B_balances nn x1 (x2 + 1))
      else
        (f_X2_positiveCount_L4 B_accounts B_balances nn (x1 + 1) (x2 + 1))))
def f_X2_positiveCount (B_accounts : Int32) (B_balances : Nat → Int32) : Option (Int32) :=
  f_X2_positiveCount_L4 B_accounts B_balances FU 0 0
set_option maxHeartbeats 4000000 in
set_option maxRecDepth 100000 in
theorem wl_X2_positiveCount_L4 {p : Program} {l : Launch} {e : Env} {s : State} {m : MethodId} {args : Array Value} {below : List Frame} {meth : Method} {c : Code} {dC : Nat → ClassId} {dI : Nat → Nat → Nat} {Y : Nat → ClassId} {a : Nat → Nat} {B_accounts : Int32} {B_balances : Nat → Int32} {B_balancesAtClosing : Nat → Int32} {B_entries : Int32} {B_debited : Nat → Int32} {B_credited : Nat → Int32} {B_amounts : Nat → Int32}  {r : Int32}  (C0 : wk_C p s m args meth c cX2_positiveCount 3 (some .int) wsX2_positiveCount RX2) (hK : va_K (dC, dI) vwCl (vTy Y) s) (hP : va_P (dC, dI) vwCl (wX2 Y a B_accounts B_balances B_balancesAtClosing B_entries B_debited B_credited B_amounts) s.heap) : ∀ (nn : Nat) (x1 : Int32) (x2 : Int32)  , f_X2_positiveCount_L4 B_accounts B_balances nn x1 x2 = some (r) → ∀ (ls : Array Slot), lv_has ls 3 [(0, .ref (a 0)), (1, .int x1), (2, .int x2)] → W p l e (headSpec wsX2_positiveCount ({ frames := 0, cells := 0, slots := 0, locals := 0 } : Room)).room s m args below meth c s.heap [] 0 0 (MQ below (vp_Si (fun r2 => r2 = r)) args s 0 0 (fun _ => False)) (F0 m 4 ls []) := by
  have C0 := C0
  obtain ⟨hx, hb, hml, hr, hlocks, hown, hts⟩ := id C0
  intro nn
  induction nn with
  | zero =>
    intro x1 x2 hf
    rw [f_X2_positiveCount_L4] at hf
    cases hf
  | succ nn ih =>
    intro x1 x2 hf ls hl
    rw [f_X2_positiveCount_L4] at hf
    have hP : va_P (dC, dI) vwCl [(a 0, .inr (4, [.int B_accounts, .ref (a 1), .ref (a 2), .int B_entries, .ref (a 3), .ref (a 4), .ref (a 5)])), (a 1, .inl (Y 0, 11, .inl B_balances)), (a 2, .inl (Y 0, 11, .inl B_balancesAtClosing)), (a 3, .inl (Y 0, 60, .inl B_debited)), (a 4, .inl (Y 0, 60, .inl B_credited)), (a 5, .inl (Y 0, 60, .inl B_amounts))] s.heap := hP
    refine lv_iload_n hx hb dX2_positiveCount_4 rfl (lv_at hl 2 rfl) ?_
    refine lv_aload_n hx hb dX2_positiveCount_5 rfl (lv_at hl 0 rfl) ?_
    refine va_get (D := (dC, dI)) (ci := 4) (v := .int B_accounts) (C := RX2) (T := TX2) (N := 7) hx hb hts in_X2_positiveCount_X2 hown hK hP 0 rfl rfl 0 (by decide) (hts _ lk_X2_positiveCount_RX2_9) (fun _ h9 => h9) rfl dX2_positiveCount_6 ?_
    refine lv_icmp_ge (tgt := 30) hx hb dX2_positiveCount_9 (by decide) (fun q1 => ?_) (fun q1 => ?_)
    · have hf := wk_t hf q1
      refine lv_iload_n hx hb dX2_positiveCount_30 rfl (lv_at hl 1 rfl) ?_
      have e0 := wke1 hf
      subst e0
      exact W.iret (v := x1) hx hb hr (fun t ht hW => ⟨x1, rfl, rfl, ht⟩) (fun q h => absurd h List.not_mem_nil) dX2_positiveCount_31
    · have hf := wk_f hf q1
      refine lv_aload_n hx hb dX2_positiveCount_12 rfl (lv_at hl 0 rfl) ?_
      refine va_get (D := (dC, dI)) (ci := 4) (v := .ref (a 1)) (C := RX2) (T := TX2) (N := 7) hx hb hts in_X2_positiveCount_X2 hown hK hP 0 rfl rfl 1 (by decide) (hts _ lk_X2_positiveCount_RX2_15) (fun _ h9 => h9) rfl dX2_positiveCount_13 ?_
      refine lv_iload_n hx hb dX2_positiveCount_16 rfl (lv_at hl 2 rfl) ?_
      obtain ⟨h2, hf⟩ := gin_s hf
      refine wk_iald hx hb hK hP 1 0 rfl rfl h2 rfl dX2_positiveCount_17 ?_
      refine lv_if_le (tgt := 24) hx hb dX2_positiveCount_18 (by decide) (fun q3 => ?_) (fun q3 => ?_)
      · have hf := wk_t hf q3
        refine lv_iinc (v := (x2 + 1)) (lv' := [(2, .int (x2 + 1)), (0, .ref (a 0)), (1, .int x1)]) hx hb dX2_positiveCount_24 hl (k := 2) rfl rfl (by decide) rfl (fun ls hl => ?_)
        refine lv_goto (tgt := 4) hx hb dX2_positiveCount_27 (by decide) ?_
        exact ih x1 (x2 + 1) hf ls (lv_sub hl [1, 2, 0] rfl)
      · have hf := wk_f hf q3
        refine lv_iinc (v := (x1 + 1)) (lv' := [(1, .int (x1 + 1)), (0, .ref (a 0)), (2, .int x2)]) hx hb dX2_positiveCount_21 hl (k := 1) rfl rfl (by decide) rfl (fun ls hl => ?_)
        refine lv_iinc (v := (x2 + 1)) (lv' := [(2, .int (x2 + 1)), (1, .int (x1 + 1)), (0, .ref (a 0))]) hx hb dX2_positiveCount_24 hl (k := 2) rfl rfl (by decide) rfl (fun ls hl => ?_)
        refine lv_goto (tgt := 4) hx hb dX2_positiveCount_27 (by decide) ?_
        exact ih (x1 + 1) (x2 + 1) hf ls (lv_sub hl [2, 1, 0] rfl)
set_option maxHeartbeats 4000000 in
set_option maxRecDepth 100000 in
theorem c_X2_positiveCount (l : Launch) (dC : Nat → ClassId) (dI : Nat → Nat → Nat) (Y : Nat → ClassId) (a : Nat → Nat) (B_accounts : Int32) (B_balances : Nat → Int32) (B_balancesAtClosing : Nat → Int32) (B_entries : Int32) (B_debited : Nat → Int32) (B_credited : Nat → Int32) (B_amounts : Nat → Int32)  (r : Int32) (hf : f_X2_positiveCount B_accounts B_balances = some (r)) : Met l yX2_positiveCount wsX2_positiveCount ({ frames := 0, cells := 0, slots := 0, locals := 0 } : Room) (va_Pc [.ref (a 0)] (wk_B (dC, dI) Y (wX2 Y a B_accounts B_balances B_balancesAtClosing B_entries B_debited B_credited B_amounts))) (vp_Si (fun r2 => r2 = r)) 0 0 (fun _ => False) := by
  refine Met.ofW (cc := cX2_positiveCount) (maxL := 3) (ret := (some .int)) (by decide) rfl ?_
  intro p e s m args below meth c s₁ B hml hv
  obtain ⟨rfl, hP, hK⟩ := hv
  have hx := B.exec
  have hb := B.bytes
  have hr := B.returns
  have hts := atoms_spec (ws := wsX2_positiveCount) B.pre
  have hown : s.vm.findClass RX2 = some m.cls := findClass_of_methodNamed B.named
  have hlocks := B.notSynchronized
  have C0 : wk_C p s m _ meth c cX2_positiveCount 3 (some .int) wsX2_positiveCount RX2 := ⟨hx, hb, hml, hr, hlocks, hown, hts⟩
  have hP : va_P (dC, dI) vwCl [(a 0, .inr (4, [.int B_accounts, .ref (a 1), .ref (a 2), .int B_entries, .ref (a 3), .ref (a 4), .ref (a 5)])), (a 1, .inl (Y 0, 11, .inl B_balances)), (a 2, .inl (Y 0, 11, .inl B_balancesAtClosing)), (a 3, .inl (Y 0, 60, .inl B_debited)), (a 4, .inl (Y 0, 60, .inl B_credited)), (a 5, .inl (Y 0, 60, .inl B_amounts))] s.heap := hP
  have hl := lv_entry ([.ref (a 0)]) (n := 3) (Nat.le_of_ble_eq_true rfl)
  rw [lg_entry_eq]
  generalize (lg_sl ([.ref (a 0)]) ++ List.replicate (3 - (lg_sl ([.ref (a 0)])).length) Slot.unset).toArray = ls at hl ⊢
  have hl : lv_has ls 3 [(0, .ref (a 0))] := hl
  rw [f_X2_positiveCount] at hf
  refine lv_iconst (v := 0) hx hb dX2_positiveCount_0 (by decide) ?_
  refine lv_istore_n (lv' := [(1, .int 0), (0, .ref (a 0))]) hx hb dX2_positiveCount_1 rfl hl (by decide) rfl (fun ls hl => ?_)
  refine lv_iconst (v := 0) hx hb dX2_positiveCount_2 (by decide) ?_
  refine lv_istore_n (lv' := [(2, .int 0), (1, .int 0), (0, .ref (a 0))]) hx hb dX2_positiveCount_3 rfl hl (by decide) rfl (fun ls hl => ?_)
  exact wl_X2_positiveCount_L4 C0 hK hP FU 0 0 hf ls (lv_sub hl [2, 1, 0] rfl)
theorem lk_X9_highestBelowb_RX9_9 : Cond.fieldLink RX9 9 "CircusLedger$Troupe" "weights" "[I" ∈ wsX9_highestBelow := by decide +kernel
theorem lk_X9_highestBelowb_RX9_15 : Cond.fieldLink RX9 15 "CircusLedger$Troupe" "strengths" "[I" ∈ wsX9_highestBelow := by decide +kernel
theorem lk_X9_highestBelowb_RX9_18 : Cond.fieldLink RX9 18 "CircusLedger$Troupe" "heights" "[I" ∈ wsX9_highestBelow := by decide +kernel
theorem lk_X9_highestBelowb_RX9_27 : Cond.fieldLink RX9 27 "CircusLedger$Troupe" "count" "I" ∈ wsX9_highestBelow := by decide +kernel
theorem mx_X9_highestBelowb_RX9_37 : Cond.methodLink RX9 37 Lib.Math.max.name ∈ wsX9_highestBelow ∧ Cond.static Lib.Math.max.name ∈ wsX9_highestBelow ∧ Cond.initialized "java/lang/Math" ∈ wsX9_highestBelow ∧ Cond.code Lib.Math.max.name Lib.Math.max.code 2 (some .int) ∈ wsX9_highestBelow := ⟨by decide +kernel, by decide +kernel, by decide +kernel, by decide +kernel⟩
theorem in_X9_highestBelowb_X9 : ∀ w ∈ u_ws RX9 TX9 6, w ∈ wsX9_highestBelow := by decide +kernel
def f_X9_highestBelowb_L14 (F : Int32 → Int32 → Int32 → Option (Int32)) (T_count : Int32) (T_weights : Nat → Int32) (T_strengths : Nat → Int32) (T_heights : Nat → Int32) (x1 : Int32) (x2 : Int32) (x3 : Int32) : Nat → Int32 → Int32 → Option (Int32)
  | 0, _, _ => none
  | nn + 1, x4, x5 =>
    if T_count ≤ x5 then
      (some (x4))
    else
      (wkb1 (f_X9_isMember T_count x1 x5) (fun r2 =>
      if r2 = 0 then
        (f_X9_highestBelowb_L14 F T_count T_weights T_strengths T_heights x1 x2 x3 nn x4 (x5 + 1))
      else
        (gin x5 6 (if (T_strengths x5.toNatClampNeg) < x2 then
          (f_X9_highestBelowb_L14 F T_count T_weights T_strengths T_heights x1 x2 x3 nn x4 (x5 + 1))
        else
          (gin x5 6 (wkb1 (F (x1 &&& (((1 : Int32) <<< (x5 &&& 31)) ^^^ (-1))) (x2 + (T_weights x5.toNatClampNeg)) (x3 + 1)) (fun r8 =>
          gin x5 6 (wkl ((if x4 < ((T_heights x5.toNatClampNeg) + r8) then ((T_heights x5.toNatClampNeg) + r8) else x4)) (fun v11 =>
          f_X9_highestBelowb_L14 F T_count T_weights T_strengths T_heights x1 x2 x3 nn v11 (x5 + 1))))))))))
def f_X9_highestBelowb (F : Int32 → Int32 → Int32 → Option (Int32)) (T_count : Int32) (T_weights : Nat → Int32) (T_strengths : Nat → Int32) (T_heights : Nat → Int32) (x1 : Int32) (x2 : Int32) (x3 : Int32) : Option (Int32) :=
  if x3 < 6 then
    (f_X9_highestBelowb_L14 F T_count T_weights T_strengths T_heights x1 x2 x3 FU 0 0)
  else
    (some (0))
set_option maxHeartbeats 4000000 in
set_option maxRecDepth 100000 in
theorem wl_X9_highestBelowb_L14 {p : Program} {l : Launch} {e : Env} {s : State} {m : MethodId} {args : Array Value} {below : List Frame} {meth : Method} {c : Code} {dC : Nat → ClassId} {dI : Nat → Nat → Nat} {Y : Nat → ClassId} {a : Nat → Nat} {T_count : Int32} {T_weights : Nat → Int32} {T_strengths : Nat → Int32} {T_heights : Nat → Int32} {T_wages : Nat → Int32} {T_nightsToHeal : Nat → Int32} {x1 : Int32} {x2 : Int32} {x3 : Int32} {r : Int32}  {F : Int32 → Int32 → Int32 → Option (Int32)} {fr lo : Nat} (C0 : wk_C p s m args meth c cX9_highestBelow 7 (some .int) wsX9_highestBelow RX9) (hK : va_K (dC, dI) vwCl (vTy Y) s) (hP : va_P (dC, dI) vwCl (wX9 Y a T_count T_weights T_strengths T_heights T_wages T_nightsToHeal) s.heap) (hF : ∀ (k0 k1 k2 r : Int32), F k0 k1 k2 = some r → Met l yX9_highestBelow wsX9_highestBelow ({ frames := fr, cells := 0, slots := 0, locals := lo } : Room) (va_Pc [.ref (a 0), .int k0, .int k1, .int k2] (wk_B (dC, dI) Y (wX9 Y a T_count T_weights T_strengths T_heights T_wages T_nightsToHeal))) (vp_Si (fun r2 => r2 = r)) 0 0 (fun _ => False)) : ∀ (nn : Nat) (x4 : Int32) (x5 : Int32)  , f_X9_highestBelowb_L14 F T_count T_weights T_strengths T_heights x1 x2 x3 nn x4 x5 = some (r) → ∀ (ls : Array Slot), lv_has ls 7 [(0, .ref (a 0)), (1, .int x1), (2, .int x2), (3, .int x3), (4, .int x4), (5, .int x5)] → W p l e (headSpec wsX9_highestBelow ({ frames := fr + 4, cells := 0, slots := 0, locals := lo + 120 } : Room)).room s m args below meth c s.heap [] 0 0 (MQ below (vp_Si (fun r2 => r2 = r)) args s 0 0 (fun _ => False)) (F0 m 14 ls []) := by
  have C0 := C0
  obtain ⟨hx, hb, hml, hr, hlocks, hown, hts⟩ := id C0
  intro nn
  induction nn with
  | zero =>
    intro x4 x5 hf
    rw [f_X9_highestBelowb_L14] at hf
    cases hf
  | succ nn ih =>
    intro x4 x5 hf ls hl
    rw [f_X9_highestBelowb_L14] at hf
    have hP : va_P (dC, dI) vwCl [(a 0, .inr (9, [.int T_count, .ref (a 1), .ref (a 2), .ref (a 3), .ref (a 4), .ref (a 5)])), (a 1, .inl (Y 0, 6, .inl T_weights)), (a 2, .inl (Y 0, 6, .inl T_strengths)), (a 3, .inl (Y 0, 6, .inl T_heights)), (a 4, .inl (Y 0, 6, .inl T_wages)), (a 5, .inl (Y 0, 6, .inl T_nightsToHeal))] s.heap := hP
    refine lv_iload hx hb dX9_highestBelow_14 (lv_at hl 5 rfl) ?_
    refine lv_aload_n hx hb dX9_highestBelow_16 rfl (lv_at hl 0 rfl) ?_
    refine va_get (D := (dC, dI)) (ci := 9) (v := .int T_count) (C := RX9) (T := TX9) (N := 6) hx hb hts in_X9_highestBelowb_X9 hown hK hP 0 rfl rfl 0 (by decide) (hts _ lk_X9_highestBelowb_RX9_27) (fun _ h9 => h9) rfl dX9_highestBelow_17 ?_
    refine lv_icmp_ge (tgt := 93) hx hb dX9_highestBelow_20 (by decide) (fun q1 => ?_) (fun q1 => ?_)
    · have hf := wk_t hf q1
      refine lv_iload hx hb dX9_highestBelow_93 (lv_at hl 4 rfl) ?_
      have e0 := wke1 hf
      subst e0
      exact W.iret (v := x4) hx hb hr (fun t ht hW => ⟨x4, rfl, rfl, ht⟩) (fun q h => absurd h List.not_mem_nil) dX9_highestBelow_95
    · have hf := wk_f hf q1
      refine lv_aload_n hx hb dX9_highestBelow_23 rfl (lv_at hl 0 rfl) ?_
      refine lv_iload_n hx hb dX9_highestBelow_24 rfl (lv_at hl 1 rfl) ?_
      refine lv_iload hx hb dX9_highestBelow_25 (lv_at hl 5 rfl) ?_
      obtain ⟨r2, hr3, hf⟩ := wkb1_s hf
      have hPc := hP.sub (ws' := (wX9 Y a T_count T_weights T_strengths T_heights T_wages T_nightsToHeal)) [0, 1, 2, 3, 4, 5] rfl
      refine wk_vi (As := [.int x1, .int x5]) (rest := []) ⟨hx, hb, hml, hown, hts⟩ (c_X9_isMember l dC dI Y a T_count T_weights T_strengths T_heights T_wages T_nightsToHeal x1 x5 r2 hr3) (cwV 2 hts gX9_highestBelow_X9_isMember rfl rfl rfl (by decide +kernel) ⟨show 0 + 1 ≤ fr + 4 by omega, show 8 + (3 + 11) + 0 ≤ lo + 120 by omega⟩) hK hPc (va_recv hK hP (ci := 9) (q0 := 0) rfl rfl) rfl hl.1 rfl (Nat.le_of_ble_eq_true rfl) dX9_highestBelow_27 ⟨Nat.le_of_ble_eq_true rfl, Nat.le_of_ble_eq_true rfl⟩ ?_
      refine lv_if_eq (tgt := 87) hx hb dX9_highestBelow_30 (by decide) (fun q4 => ?_) (fun q4 => ?_)
      · have hf := wk_t hf q4
        refine lv_iinc (v := (x5 + 1)) (lv' := [(5, .int (x5 + 1)), (0, .ref (a 0)), (1, .int x1), (2, .int x2), (3, .int x3), (4, .int x4)]) hx hb dX9_highestBelow_87 hl (k := 5) rfl rfl (by decide) rfl (fun ls hl => ?_)
        refine lv_goto (tgt := 14) hx hb dX9_highestBelow_90 (by decide) ?_
        exact ih x4 (x5 + 1) hf ls (lv_sub hl [1, 2, 3, 4, 5, 0] rfl)
      · have hf := wk_f hf q4
        refine lv_aload_n hx hb dX9_highestBelow_33 rfl (lv_at hl 0 rfl) ?_
        refine va_get (D := (dC, dI)) (ci := 9) (v := .ref (a 2)) (C := RX9) (T := TX9) (N := 6) hx hb hts in_X9_highestBelowb_X9 hown hK hP 0 rfl rfl 2 (by decide) (hts _ lk_X9_highestBelowb_RX9_15) (fun _ h9 => h9) rfl dX9_highestBelow_34 ?_
        refine lv_iload hx hb dX9_highestBelow_37 (lv_at hl 5 rfl) ?_
        obtain ⟨h5, hf⟩ := gin_s hf
        refine wk_iald hx hb hK hP 2 0 rfl rfl h5 rfl dX9_highestBelow_39 ?_
        refine lv_iload_n hx hb dX9_highestBelow_40 rfl (lv_at hl 2 rfl) ?_
        refine lv_icmp_lt (tgt := 87) hx hb dX9_highestBelow_41 (by decide) (fun q6 => ?_) (fun q6 => ?_)
        · have hf := wk_t hf q6
          refine lv_iinc (v := (x5 + 1)) (lv' := [(5, .int (x5 + 1)), (0, .ref (a 0)), (1, .int x1), (2, .int x2), (3, .int x3), (4, .int x4)]) hx hb dX9_highestBelow_87 hl (k := 5) rfl rfl (by decide) rfl (fun ls hl => ?_)
          refine lv_goto (tgt := 14) hx hb dX9_highestBelow_90 (by decide) ?_
          exact ih x4 (x5 + 1) hf ls (lv_sub hl [1, 2, 3, 4, 5, 0] rfl)
        · have hf := wk_f hf q6
          refine lv_aload_n hx hb dX9_highestBelow_44 rfl (lv_at hl 0 rfl) ?_
          refine lv_iload_n hx hb dX9_highestBelow_45 rfl (lv_at hl 1 rfl) ?_
          refine lv_iconst (v := 1) hx hb dX9_highestBelow_46 (by decide) ?_
          refine lv_iload hx hb dX9_highestBelow_47 (lv_at hl 5 rfl) ?_
          refine lv_ishl hx hb dX9_highestBelow_49 ?_
          refine lv_iconst (v := (-1)) hx hb dX9_highestBelow_50 (by decide) ?_
          refine lv_ixor hx hb dX9_highestBelow_51 ?_
          refine lv_iand hx hb dX9_highestBelow_52 ?_
          refine lv_iload_n hx hb dX9_highestBelow_53 rfl (lv_at hl 2 rfl) ?_
          refine lv_aload_n hx hb dX9_highestBelow_54 rfl (lv_at hl 0 rfl) ?_
          refine va_get (D := (dC, dI)) (ci := 9) (v := .ref (a 1)) (C := RX9) (T := TX9) (N := 6) hx hb hts in_X9_highestBelowb_X9 hown hK hP 0 rfl rfl 1 (by decide) (hts _ lk_X9_highestBelowb_RX9_9) (fun _ h9 => h9) rfl dX9_highestBelow_55 ?_
          refine lv_iload hx hb dX9_highestBelow_58 (lv_at hl 5 rfl) ?_
          obtain ⟨h7, hf⟩ := gin_s hf
          refine wk_iald hx hb hK hP 1 0 rfl rfl h7 rfl dX9_highestBelow_60 ?_
          refine lv_iadd hx hb dX9_highestBelow_61 ?_
          refine lv_iload_n hx hb dX9_highestBelow_62 rfl (lv_at hl 3 rfl) ?_
          refine lv_iconst (v := 1) hx hb dX9_highestBelow_63 (by decide) ?_
          refine lv_iadd hx hb dX9_highestBelow_64 ?_
          obtain ⟨r8, hr9, hf⟩ := wkb1_s hf
          have hPc := hP.sub (ws' := (wX9 Y a T_count T_weights T_strengths T_heights T_wages T_nightsToHeal)) [0, 1, 2, 3, 4, 5] rfl
          refine wk_si (As := [.ref (a 0), .int (x1 &&& (((1 : Int32) <<< (x5 &&& 31)) ^^^ (-1))), .int (x2 + (T_weights x5.toNatClampNeg)), .int (x3 + 1)]) (rest := []) ⟨hx, hb, hml, hown, hts⟩ (hF (x1 &&& (((1 : Int32) <<< (x5 &&& 31)) ^^^ (-1))) (x2 + (T_weights x5.toNatClampNeg)) (x3 + 1) r8 hr9) (va_cwS 4 hts gX9_highestBelow_X9_highestBelow rfl rfl rfl (by decide +kernel) ⟨show fr + 1 ≤ fr + 4 by omega, show 8 + (7 + 11) + lo ≤ lo + 120 by omega⟩) hK hPc rfl hl.1 rfl (Nat.le_of_ble_eq_true rfl) dX9_highestBelow_65 ⟨Nat.zero_le _, Nat.zero_le _⟩ ?_
          refine lv_istore (lv' := [(6, .int r8), (0, .ref (a 0)), (1, .int x1), (2, .int x2), (3, .int x3), (4, .int x4), (5, .int x5)]) hx hb dX9_highestBelow_68 hl (by decide) rfl (fun ls hl => ?_)
          refine lv_iload hx hb dX9_highestBelow_70 (lv_at hl 5 rfl) ?_
          refine lv_aload_n hx hb dX9_highestBelow_72 rfl (lv_at hl 1 rfl) ?_
          refine va_get (D := (dC, dI)) (ci := 9) (v := .ref (a 3)) (C := RX9) (T := TX9) (N := 6) hx hb hts in_X9_highestBelowb_X9 hown hK hP 0 rfl rfl 3 (by decide) (hts _ lk_X9_highestBelowb_RX9_18) (fun _ h9 => h9) rfl dX9_highestBelow_73 ?_
          refine lv_iload hx hb dX9_highestBelow_76 (lv_at hl 6 rfl) ?_
          obtain ⟨h10, hf⟩ := gin_s hf
          refine wk_iald hx hb hK hP 3 0 rfl rfl h10 rfl dX9_highestBelow_78 ?_
          refine lv_iload hx hb dX9_highestBelow_79 (lv_at hl 0 rfl) ?_
          refine lv_iadd hx hb dX9_highestBelow_81 ?_
          refine va_mmax hx hb (hml.trans hl.1.symm) hown (hts _ mx_X9_highestBelowb_RX9_37.1) (hts _ mx_X9_highestBelowb_RX9_37.2.1) (hts _ mx_X9_highestBelowb_RX9_37.2.2.1) (hts _ mx_X9_highestBelowb_RX9_37.2.2.2) (Nat.le_of_ble_eq_true rfl) (Nat.le_of_ble_eq_true rfl) (Nat.le_of_ble_eq_true rfl) (Nat.le_of_ble_eq_true rfl) dX9_highestBelow_82 ?_
          refine lv_topi (fun v11 ev11 => ?_)
          have hf := wkl_s hf ev11
          refine lv_istore (lv' := [(4, .int v11), (6, .int r8), (0, .ref (a 0)), (1, .int x1), (2, .int x2), (3, .int x3), (5, .int x5)]) hx hb dX9_highestBelow_85 hl (by decide) rfl (fun ls hl => ?_)
          refine lv_iinc (v := (x5 + 1)) (lv' := [(5, .int (x5 + 1)), (4, .int v11), (6, .int r8), (0, .ref (a 0)), (1, .int x1), (2, .int x2), (3, .int x3)]) hx hb dX9_highestBelow_87 hl (k := 6) rfl rfl (by decide) rfl (fun ls hl => ?_)
          refine lv_goto (tgt := 14) hx hb dX9_highestBelow_90 (by decide) ?_
          exact ih v11 (x5 + 1) hf ls (lv_sub hl [3, 4, 5, 6, 1, 0] rfl)
set_option maxHeartbeats 4000000 in
set_option maxRecDepth 100000 in
theorem c_X9_highestBelowb (l : Launch) (dC : Nat → ClassId) (dI : Nat → Nat → Nat) (Y : Nat → ClassId) (F : Int32 → Int32 → Int32 → Option (Int32)) (fr lo : Nat) (a : Nat → Nat) (T_count : Int32) (T_weights : Nat → Int32) (T_strengths : Nat → Int32) (T_heights : Nat → Int32) (T_wages : Nat → Int32) (T_nightsToHeal : Nat → Int32) (hF : ∀ (k0 k1 k2 r : Int32), F k0 k1 k2 = some r → Met l yX9_highestBelow wsX9_highestBelow ({ frames := fr, cells := 0, slots := 0, locals := lo } : Room) (va_Pc [.ref (a 0), .int k0, .int k1, .int k2] (wk_B (dC, dI) Y (wX9 Y a T_count T_weights T_strengths T_heights T_wages T_nightsToHeal))) (vp_Si (fun r2 => r2 = r)) 0 0 (fun _ => False)) (x1 : Int32) (x2 : Int32) (x3 : Int32) (r : Int32) (hf : f_X9_highestBelowb F T_count T_weights T_strengths T_heights x1 x2 x3 = some (r)) : Met l yX9_highestBelow wsX9_highestBelow ({ frames := fr + 4, cells := 0, slots := 0, locals := lo + 120 } : Room) (va_Pc [.ref (a 0), .int x1, .int x2, .int x3] (wk_B (dC, dI) Y (wX9 Y a T_count T_weights T_strengths T_heights T_wages T_nightsToHeal))) (vp_Si (fun r2 => r2 = r)) 0 0 (fun _ => False) := by
  refine Met.ofW (cc := cX9_highestBelow) (maxL := 7) (ret := (some .int)) (by decide) rfl ?_
  intro p e s m args below meth c s₁ B hml hv
  obtain ⟨rfl, hP, hK⟩ := hv
  have hx := B.exec
  have hb := B.bytes
  have hr := B.returns
  have hts := atoms_spec (ws := wsX9_highestBelow) B.pre
  have hown : s.vm.findClass RX9 = some m.cls := findClass_of_methodNamed B.named
  have hlocks := B.notSynchronized
  have C0 : wk_C p s m _ meth c cX9_highestBelow 7 (some .int) wsX9_highestBelow RX9 := ⟨hx, hb, hml, hr, hlocks, hown, hts⟩
  have hP : va_P (dC, dI) vwCl [(a 0, .inr (9, [.int T_count, .ref (a 1), .ref (a 2), .ref (a 3), .ref (a 4), .ref (a 5)])), (a 1, .inl (Y 0, 6, .inl T_weights)), (a 2, .inl (Y 0, 6, .inl T_strengths)), (a 3, .inl (Y 0, 6, .inl T_heights)), (a 4, .inl (Y 0, 6, .inl T_wages)), (a 5, .inl (Y 0, 6, .inl T_nightsToHeal))] s.heap := hP
  have hl := lv_entry ([.ref (a 0), .int x1, .int x2, .int x3]) (n := 7) (Nat.le_of_ble_eq_true rfl)
  rw [lg_entry_eq]
  generalize (lg_sl ([.ref (a 0), .int x1, .int x2, .int x3]) ++ List.replicate (7 - (lg_sl ([.ref (a 0), .int x1, .int x2, .int x3])).length) Slot.unset).toArray = ls at hl ⊢
  have hl : lv_has ls 7 [(0, .ref (a 0)), (1, .int x1), (2, .int x2), (3, .int x3)] := hl
  rw [f_X9_highestBelowb] at hf
  refine lv_iload_n hx hb dX9_highestBelow_0 rfl (lv_at hl 3 rfl) ?_
  refine lv_bipush (v := 6) hx hb dX9_highestBelow_1 (by decide) ?_
  refine lv_icmp_lt (tgt := 8) hx hb dX9_highestBelow_3 (by decide) (fun q1 => ?_) (fun q1 => ?_)
  · have hf := wk_t hf q1
    refine lv_iconst (v := 0) hx hb dX9_highestBelow_8 (by decide) ?_
    refine lv_istore (lv' := [(4, .int 0), (0, .ref (a 0)), (1, .int x1), (2, .int x2), (3, .int x3)]) hx hb dX9_highestBelow_9 hl (by decide) rfl (fun ls hl => ?_)
    refine lv_iconst (v := 0) hx hb dX9_highestBelow_11 (by decide) ?_
    refine lv_istore (lv' := [(5, .int 0), (4, .int 0), (0, .ref (a 0)), (1, .int x1), (2, .int x2), (3, .int x3)]) hx hb dX9_highestBelow_12 hl (by decide) rfl (fun ls hl => ?_)
    exact wl_X9_highestBelowb_L14 C0 hK hP hF FU 0 0 hf ls (lv_sub hl [2, 3, 4, 5, 1, 0] rfl)
  · have hf := wk_f hf q1
    refine lv_iconst (v := 0) hx hb dX9_highestBelow_6 (by decide) ?_
    have e0 := wke1 hf
    subst e0
    exact W.iret (v := 0) hx hb hr (fun t ht hW => ⟨0, rfl, rfl, ht⟩) (fun q h => absurd h List.not_mem_nil) dX9_highestBelow_7
def f_X9_highestBelow (T_count : Int32) (T_weights : Nat → Int32) (T_strengths : Nat → Int32) (T_heights : Nat → Int32) : Nat → Int32 → Int32 → Int32 → Option (Int32)
  | 0, _, _, _ => none
  | rd + 1, x1, x2, x3 => f_X9_highestBelowb (f_X9_highestBelow T_count T_weights T_strengths T_heights rd) T_count T_weights T_strengths T_heights x1 x2 x3
theorem c_X9_highestBelow (l : Launch) (dC : Nat → ClassId) (dI : Nat → Nat → Nat) (Y : Nat → ClassId) : ∀ (rd : Nat) (a : Nat → Nat) (T_count : Int32) (T_weights : Nat → Int32) (T_strengths : Nat → Int32) (T_heights : Nat → Int32) (T_wages : Nat → Int32) (T_nightsToHeal : Nat → Int32) (x1 : Int32) (x2 : Int32) (x3 : Int32) (r : Int32), f_X9_highestBelow T_count T_weights T_strengths T_heights rd x1 x2 x3 = some (r) → Met l yX9_highestBelow wsX9_highestBelow ({ frames := 4 * rd, cells := 0, slots := 0, locals := 120 * rd } : Room) (va_Pc [.ref (a 0), .int x1, .int x2, .int x3] (wk_B (dC, dI) Y (wX9 Y a T_count T_weights T_strengths T_heights T_wages T_nightsToHeal))) (vp_Si (fun r2 => r2 = r)) 0 0 (fun _ => False) := by
  intro rd
  induction rd with
  | zero =>
    intro a T_count T_weights T_strengths T_heights T_wages T_nightsToHeal x1 x2 x3 r hf
    rw [f_X9_highestBelow] at hf
    cases hf
  | succ rd ih =>
    intro a T_count T_weights T_strengths T_heights T_wages T_nightsToHeal x1 x2 x3 r hf
    exact c_X9_highestBelowb l dC dI Y (f_X9_highestBelow T_count T_weights T_strengths T_heights rd) (4 * rd) (120 * rd) a T_count T_weights T_strengths T_heights T_wages T_nightsToHeal (fun k0 k1 k2 r hf => ih a T_count T_weights T_strengths T_heights T_wages T_nightsToHeal k0 k1 k2 r hf) x1 x2 x3 r hf
def f_X9_highestBySearch (T_count : Int32) (T_weights : Nat → Int32) (T_strengths : Nat → Int32) (T_heights : Nat → Int32) (T_nightsToHeal : Nat → Int32) : Option (Int32) :=
  wkb1 (f_X9_fitSet T_count T_nightsToHeal) (fun r1 =>
  wkb1 (f_X9_highestBelow T_count T_weights T_strengths T_heights 8 r1 0 0) (fun r3 =>
  some (r3)))
set_option maxHeartbeats 4000000 in
set_option maxRecDepth 100000 in
theorem c_X9_highestBySearch (l : Launch) (dC : Nat → ClassId) (dI : Nat → Nat → Nat) (Y : Nat → ClassId) (a : Nat → Nat) (T_count : Int32) (T_weights : Nat → Int32) (T_strengths : Nat → Int32) (T_heights : Nat → Int32) (T_wages : Nat → Int32) (T_nightsToHeal : Nat → Int32)  (r : Int32) (hf : f_X9_highestBySearch T_count T_weights T_strengths T_heights T_nightsToHeal = some (r)) : Met l yX9_highestBySearch wsX9_highestBySearch ({ frames := 33, cells := 0, slots := 0, locals := 986 } : Room) (va_Pc [.ref (a 0)] (wk_B (dC, dI) Y (wX9 Y a T_count T_weights T_strengths T_heights T_wages T_nightsToHeal))) (vp_Si (fun r2 => r2 = r)) 0 0 (fun _ => False) := by
  refine Met.ofW (cc := cX9_highestBySearch) (maxL := 1) (ret := (some .int)) (by decide) rfl ?_
  intro p e s m args below meth c s₁ B hml hv
  obtain ⟨rfl, hP, hK⟩ := hv
  have hx := B.exec
  have hb := B.bytes
  have hr := B.returns
  have hts := atoms_spec (ws := wsX9_highestBySearch) B.pre
  have hown : s.vm.findClass RX9 = some m.cls := findClass_of_methodNamed B.named
  have hlocks := B.notSynchronized
  have C0 : wk_C p s m _ meth c cX9_highestBySearch 1 (some .int) wsX9_highestBySearch RX9 := ⟨hx, hb, hml, hr, hlocks, hown, hts⟩
  have hP : va_P (dC, dI) vwCl [(a 0, .inr (9, [.int T_count, .ref (a 1), .ref (a 2), .ref (a 3), .ref (a 4), .ref (a 5)])), (a 1, .inl (Y 0, 6, .inl T_weights)), (a 2, .inl (Y 0, 6, .inl T_strengths)), (a 3, .inl (Y 0, 6, .inl T_heights)), (a 4, .inl (Y 0, 6, .inl T_wages)), (a 5, .inl (Y 0, 6, .inl T_nightsToHeal))] s.heap := hP
  have hl := lv_entry ([.ref (a 0)]) (n := 1) (Nat.le_of_ble_eq_true rfl)
  rw [lg_entry_eq]
  generalize (lg_sl ([.ref (a 0)]) ++ List.replicate (1 - (lg_sl ([.ref (a 0)])).length) Slot.unset).toArray = ls at hl ⊢
  have hl : lv_has ls 1 [(0, .ref (a 0))] := hl
  rw [f_X9_highestBySearch] at hf
  refine lv_aload_n hx hb dX9_highestBySearch_0 rfl (lv_at hl 0 rfl) ?_
  refine lv_aload_n hx hb dX9_highestBySearch_1 rfl (lv_at hl 0 rfl) ?_
  obtain ⟨r1, hr2, hf⟩ := wkb1_s hf
  have hPc := hP.sub (ws' := (wX9 Y a T_count T_weights T_strengths T_heights T_wages T_nightsToHeal)) [0, 1, 2, 3, 4, 5] rfl
  refine wk_vi (As := []) (rest := [.ref (a 0)]) ⟨hx, hb, hml, hown, hts⟩ (c_X9_fitSet l dC dI Y a T_count T_weights T_strengths T_heights T_wages T_nightsToHeal r1 hr2) (cwV 0 hts gX9_highestBySearch_X9_fitSet rfl rfl rfl (by decide +kernel) ⟨Nat.le_of_ble_eq_true rfl, Nat.le_of_ble_eq_true rfl⟩) hK hPc (va_recv hK hP (ci := 9) (q0 := 0) rfl rfl) rfl hl.1 rfl (Nat.le_of_ble_eq_true rfl) dX9_highestBySearch_2 ⟨Nat.le_of_ble_eq_true rfl, Nat.le_of_ble_eq_true rfl⟩ ?_
  refine lv_iconst (v := 0) hx hb dX9_highestBySearch_5 (by decide) ?_
  refine lv_iconst (v := 0) hx hb dX9_highestBySearch_6 (by decide) ?_
  obtain ⟨r3, hr4, hf⟩ := wkb1_s hf
  have hPc := hP.sub (ws' := (wX9 Y a T_count T_weights T_strengths T_heights T_wages T_nightsToHeal)) [0, 1, 2, 3, 4, 5] rfl
  refine wk_si (As := [.ref (a 0), .int r1, .int 0, .int 0]) (rest := []) ⟨hx, hb, hml, hown, hts⟩ (c_X9_highestBelow l dC dI Y 8 a T_count T_weights T_strengths T_heights T_wages T_nightsToHeal r1 0 0 r3 hr4) (va_cwS 4 hts gX9_highestBySearch_X9_highestBelow rfl rfl rfl (by decide +kernel) ⟨Nat.le_of_ble_eq_true rfl, Nat.le_of_ble_eq_true rfl⟩) hK hPc rfl hl.1 rfl (Nat.le_of_ble_eq_true rfl) dX9_highestBySearch_7 ⟨Nat.le_of_ble_eq_true rfl, Nat.le_of_ble_eq_true rfl⟩ ?_
  have e0 := wke1 hf
  subst e0
  exact W.iret (v := r3) hx hb hr (fun t ht hW => ⟨r3, rfl, rfl, ht⟩) (fun q h => absurd h List.not_mem_nil) dX9_highestBySearch_10
theorem lk_X9_safetyOf_RX9_15 : Cond.fieldLink RX9 15 "CircusLedger$Troupe" "strengths" "[I" ∈ wsX9_safetyOf := by decide +kernel
theorem lk_X9_safetyOf_RX9_27 : Cond.fieldLink RX9 27 "CircusLedger$Troupe" "count" "I" ∈ wsX9_safetyOf := by decide +kernel
theorem in_X9_safetyOf_X9 : ∀ w ∈ u_ws RX9 TX9 6, w ∈ wsX9_safetyOf := by decide +kernel
def f_X9_safetyOf_L7 (T_count : Int32) (T_weights : Nat → Int32) (T_strengths : Nat → Int32) (x1 : Int32) : Nat → UInt32 → Int32 → Int32 → Option (UInt32)
  | 0, _, _, _ => none
  | nn + 1, x2, x3, x4 =>
    if T_count ≤ x4 then
      (some (x2))
    else
      (wkb1 (f_X9_isMember T_count x1 x4) (fun r2 =>
      if r2 = 0 then
        (f_X9_safetyOf_L7 T_count T_weights T_strengths x1 nn x2 x3 (x4 + 1))
      else
        (wkb1 (f_X9_loadOf T_count T_weights T_strengths x1 x4) (fun r5 =>
        if r5 = 0 then
          (f_X9_safetyOf_L7 T_count T_weights T_strengths x1 nn x2 x3 (x4 + 1))
        else
          (gin x4 6 (gok ((FP.fdiv (FP.i2f (T_strengths x4.toNatClampNeg)) (FP.i2f r5)) &&& 0x7fffffff ≤ 0x7f800000) (if x3 = 0 then
            (f_X9_safetyOf_L7 T_count T_weights T_strengths x1 nn (FP.fdiv (FP.i2f (T_strengths x4.toNatClampNeg)) (FP.i2f r5)) 1 (x4 + 1))
          else
            (if (0 : Int32) < (Op.cmpValue (FP.fcmp x2 (FP.fdiv (FP.i2f (T_strengths x4.toNatClampNeg)) (FP.i2f r5))) .g) then
              (f_X9_safetyOf_L7 T_count T_weights T_strengths x1 nn (FP.fdiv (FP.i2f (T_strengths x4.toNatClampNeg)) (FP.i2f r5)) 1 (x4 + 1))
            else
              (f_X9_safetyOf_L7 T_count T_weights T_strengths x1 nn x2 1 (x4 + 1))))))))))
def f_X9_safetyOf (T_count : Int32) (T_weights : Nat → Int32) (T_strengths : Nat → Int32) (x1 : Int32) : Option (UInt32) :=
  f_X9_safetyOf_L7 T_count T_weights T_strengths x1 FU FP.fconst0 0 0
set_option maxHeartbeats 4000000 in
set_option maxRecDepth 100000 in
theorem wl_X9_safetyOf_L7 {p : Program} {l : Launch} {e : Env} {s : State} {m : MethodId} {args : Array Value} {below : List Frame} {meth : Method} {c : Code} {dC : Nat → ClassId} {dI : Nat → Nat → Nat} {Y : Nat → ClassId} {a : Nat → Nat} {T_count : Int32} {T_weights : Nat → Int32} {T_strengths : Nat → Int32} {T_heights : Nat → Int32} {T_wages : Nat → Int32} {T_nightsToHeal : Nat → Int32} {x1 : Int32} {r : UInt32}  (C0 : wk_C p s m args meth c cX9_safetyOf 7 (some .float) wsX9_safetyOf RX9) (hK : va_K (dC, dI) vwCl (vTy Y) s) (hP : va_P (dC, dI) vwCl (wX9 Y a T_count T_weights T_strengths T_heights T_wages T_nightsToHeal) s.heap) : ∀ (nn : Nat) (x2 : UInt32) (x3 : Int32) (x4 : Int32)  , f_X9_safetyOf_L7 T_count T_weights T_strengths x1 nn x2 x3 x4 = some (r) → ∀ (ls : Array Slot), lv_has ls 7 [(0, .ref (a 0)), (1, .int x1), (2, .float x2), (3, .int x3), (4, .int x4)] → W p l e (headSpec wsX9_safetyOf ({ frames := 2, cells := 0, slots := 0, locals := 48 } : Room)).room s m args below meth c s.heap [] 0 0 (MQ below (vp_Sf (fun r2 => r2 = r)) args s 0 0 (fun _ => False)) (F0 m 7 ls []) := by
  have C0 := C0
  obtain ⟨hx, hb, hml, hr, hlocks, hown, hts⟩ := id C0
  intro nn
  induction nn with
  | zero =>
    intro x2 x3 x4 hf
    rw [f_X9_safetyOf_L7] at hf
    cases hf
  | succ nn ih =>
    intro x2 x3 x4 hf ls hl
    rw [f_X9_safetyOf_L7] at hf
    have hP : va_P (dC, dI) vwCl [(a 0, .inr (9, [.int T_count, .ref (a 1), .ref (a 2), .ref (a 3), .ref (a 4), .ref (a 5)])), (a 1, .inl (Y 0, 6, .inl T_weights)), (a 2, .inl (Y 0, 6, .inl T_strengths)), (a 3, .inl (Y 0, 6, .inl T_heights)), (a 4, .inl (Y 0, 6, .inl T_wages)), (a 5, .inl (Y 0, 6, .inl T_nightsToHeal))] s.heap := hP
    refine lv_iload hx hb dX9_safetyOf_7 (lv_at hl 4 rfl) ?_
    refine lv_aload_n hx hb dX9_safetyOf_9 rfl (lv_at hl 0 rfl) ?_
    refine va_get (D := (dC, dI)) (ci := 9) (v := .int T_count) (C := RX9) (T := TX9) (N := 6) hx hb hts in_X9_safetyOf_X9 hown hK hP 0 rfl rfl 0 (by decide) (hts _ lk_X9_safetyOf_RX9_27) (fun _ h9 => h9) rfl dX9_safetyOf_10 ?_
    refine lv_icmp_ge (tgt := 84) hx hb dX9_safetyOf_13 (by decide) (fun q1 => ?_) (fun q1 => ?_)
    · have hf := wk_t hf q1
      refine lv_fload_n hx hb dX9_safetyOf_84 rfl (lv_at hl 2 rfl) ?_
      have e0 := wke1 hf
      subst e0
      exact W.fret (v := x2) hx hb hr (fun t ht hW => ⟨x2, rfl, rfl, ht⟩) (fun q h => absurd h List.not_mem_nil) dX9_safetyOf_85
    · have hf := wk_f hf q1
      refine lv_aload_n hx hb dX9_safetyOf_16 rfl (lv_at hl 0 rfl) ?_
      refine lv_iload_n hx hb dX9_safetyOf_17 rfl (lv_at hl 1 rfl) ?_
      refine lv_iload hx hb dX9_safetyOf_18 (lv_at hl 4 rfl) ?_
      obtain ⟨r2, hr3, hf⟩ := wkb1_s hf
      have hPc := hP.sub (ws' := (wX9 Y a T_count T_weights T_strengths T_heights T_wages T_nightsToHeal)) [0, 1, 2, 3, 4, 5] rfl
      refine wk_vi (As := [.int x1, .int x4]) (rest := []) ⟨hx, hb, hml, hown, hts⟩ (c_X9_isMember l dC dI Y a T_count T_weights T_strengths T_heights T_wages T_nightsToHeal x1 x4 r2 hr3) (cwV 2 hts gX9_safetyOf_X9_isMember rfl rfl rfl (by decide +kernel) ⟨Nat.le_of_ble_eq_true rfl, Nat.le_of_ble_eq_true rfl⟩) hK hPc (va_recv hK hP (ci := 9) (q0 := 0) rfl rfl) rfl hl.1 rfl (Nat.le_of_ble_eq_true rfl) dX9_safetyOf_20 ⟨Nat.le_of_ble_eq_true rfl, Nat.le_of_ble_eq_true rfl⟩ ?_
      refine lv_if_eq (tgt := 36) hx hb dX9_safetyOf_23 (by decide) (fun q4 => ?_) (fun q4 => ?_)
      · have hf := wk_t hf q4
        refine lv_iconst (v := 0) hx hb dX9_safetyOf_36 (by decide) ?_
        refine lv_istore (lv' := [(5, .int 0), (0, .ref (a 0)), (1, .int x1), (2, .float x2), (3, .int x3), (4, .int x4)]) hx hb dX9_safetyOf_37 hl (by decide) rfl (fun ls hl => ?_)
        refine lv_iload hx hb dX9_safetyOf_39 (lv_at hl 0 rfl) ?_
        refine lv_if_eq (tgt := 78) hx hb dX9_safetyOf_41 (by decide) (fun _ => ?_) (fun q9 => absurd q9 (by decide))
        refine lv_iinc (v := (x4 + 1)) (lv' := [(4, .int (x4 + 1)), (5, .int 0), (0, .ref (a 0)), (1, .int x1), (2, .float x2), (3, .int x3)]) hx hb dX9_safetyOf_78 hl (k := 5) rfl rfl (by decide) rfl (fun ls hl => ?_)
        refine lv_goto (tgt := 7) hx hb dX9_safetyOf_81 (by decide) ?_
        exact ih x2 x3 (x4 + 1) hf ls (lv_sub hl [2, 3, 4, 5, 0] rfl)
      · have hf := wk_f hf q4
        refine lv_aload_n hx hb dX9_safetyOf_26 rfl (lv_at hl 0 rfl) ?_
        refine lv_iload_n hx hb dX9_safetyOf_27 rfl (lv_at hl 1 rfl) ?_
        refine lv_iload hx hb dX9_safetyOf_28 (lv_at hl 4 rfl) ?_
        obtain ⟨r5, hr6, hf⟩ := wkb1_s hf
        have hPc := hP.sub (ws' := (wX9 Y a T_count T_weights T_strengths T_heights T_wages T_nightsToHeal)) [0, 1, 2, 3, 4, 5] rfl
        refine wk_vi (As := [.int x1, .int x4]) (rest := []) ⟨hx, hb, hml, hown, hts⟩ (c_X9_loadOf l dC dI Y a T_count T_weights T_strengths T_heights T_wages T_nightsToHeal x1 x4 r5 hr6) (cwV 2 hts gX9_safetyOf_X9_loadOf rfl rfl rfl (by decide +kernel) ⟨Nat.le_of_ble_eq_true rfl, Nat.le_of_ble_eq_true rfl⟩) hK hPc (va_recv hK hP (ci := 9) (q0 := 0) rfl rfl) rfl hl.1 rfl (Nat.le_of_ble_eq_true rfl) dX9_safetyOf_30 ⟨Nat.le_of_ble_eq_true rfl, Nat.le_of_ble_eq_true rfl⟩ ?_
        refine lv_goto (tgt := 37) hx hb dX9_safetyOf_33 (by decide) ?_
        refine lv_istore (lv' := [(5, .int r5), (0, .ref (a 0)), (1, .int x1), (2, .float x2), (3, .int x3), (4, .int x4)]) hx hb dX9_safetyOf_37 hl (by decide) rfl (fun ls hl => ?_)
        refine lv_iload hx hb dX9_safetyOf_39 (lv_at hl 0 rfl) ?_
        refine lv_if_eq (tgt := 78) hx hb dX9_safetyOf_41 (by decide) (fun q7 => ?_) (fun q7 => ?_)
        · have hf := wk_t hf q7
          refine lv_iinc (v := (x4 + 1)) (lv' := [(4, .int (x4 + 1)), (5, .int r5), (0, .ref (a 0)), (1, .int x1), (2, .float x2), (3, .int x3)]) hx hb dX9_safetyOf_78 hl (k := 5) rfl rfl (by decide) rfl (fun ls hl => ?_)
          refine lv_goto (tgt := 7) hx hb dX9_safetyOf_81 (by decide) ?_
          exact ih x2 x3 (x4 + 1) hf ls (lv_sub hl [2, 3, 4, 5, 0] rfl)
        · have hf := wk_f hf q7
          refine lv_aload_n hx hb dX9_safetyOf_44 rfl (lv_at hl 1 rfl) ?_
          refine va_get (D := (dC, dI)) (ci := 9) (v := .ref (a 2)) (C := RX9) (T := TX9) (N := 6) hx hb hts in_X9_safetyOf_X9 hown hK hP 0 rfl rfl 2 (by decide) (hts _ lk_X9_safetyOf_RX9_15) (fun _ h9 => h9) rfl dX9_safetyOf_45 ?_
          refine lv_iload hx hb dX9_safetyOf_48 (lv_at hl 5 rfl) ?_
          obtain ⟨h8, hf⟩ := gin_s hf
          refine wk_iald hx hb hK hP 2 0 rfl rfl h8 rfl dX9_safetyOf_50 ?_
          refine lv_i2f hx hb dX9_safetyOf_51 ?_
          refine lv_iload hx hb dX9_safetyOf_52 (lv_at hl 0 rfl) ?_
          refine lv_i2f hx hb dX9_safetyOf_54 ?_
          obtain ⟨h9, hf⟩ := gok_s hf
          refine lv_fdiv hx hb dX9_safetyOf_55 h9 ?_
          refine lv_fstore (lv' := [(6, .float (FP.fdiv (FP.i2f (T_strengths x4.toNatClampNeg)) (FP.i2f r5))), (5, .int r5), (0, .ref (a 0)), (1, .int x1), (2, .float x2), (3, .int x3), (4, .int x4)]) hx hb dX9_safetyOf_56 hl (by decide) rfl (fun ls hl => ?_)
          refine lv_iload_n hx hb dX9_safetyOf_58 rfl (lv_at hl 5 rfl) ?_
          refine lv_if_eq (tgt := 73) hx hb dX9_safetyOf_59 (by decide) (fun q10 => ?_) (fun q10 => ?_)
          · have hf := wk_t hf q10
            refine lv_fload hx hb dX9_safetyOf_73 (lv_at hl 0 rfl) ?_
            refine lv_fstore_n (lv' := [(2, .float (FP.fdiv (FP.i2f (T_strengths x4.toNatClampNeg)) (FP.i2f r5))), (6, .float (FP.fdiv (FP.i2f (T_strengths x4.toNatClampNeg)) (FP.i2f r5))), (5, .int r5), (0, .ref (a 0)), (1, .int x1), (3, .int x3), (4, .int x4)]) hx hb dX9_safetyOf_75 rfl hl (by decide) rfl (fun ls hl => ?_)
            refine lv_iconst (v := 1) hx hb dX9_safetyOf_76 (by decide) ?_
            refine lv_istore_n (lv' := [(3, .int 1), (2, .float (FP.fdiv (FP.i2f (T_strengths x4.toNatClampNeg)) (FP.i2f r5))), (6, .float (FP.fdiv (FP.i2f (T_strengths x4.toNatClampNeg)) (FP.i2f r5))), (5, .int r5), (0, .ref (a 0)), (1, .int x1), (4, .int x4)]) hx hb dX9_safetyOf_77 rfl hl (by decide) rfl (fun ls hl => ?_)
            refine lv_iinc (v := (x4 + 1)) (lv' := [(4, .int (x4 + 1)), (3, .int 1), (2, .float (FP.fdiv (FP.i2f (T_strengths x4.toNatClampNeg)) (FP.i2f r5))), (6, .float (FP.fdiv (FP.i2f (T_strengths x4.toNatClampNeg)) (FP.i2f r5))), (5, .int r5), (0, .ref (a 0)), (1, .int x1)]) hx hb dX9_safetyOf_78 hl (k := 6) rfl rfl (by decide) rfl (fun ls hl => ?_)
            refine lv_goto (tgt := 7) hx hb dX9_safetyOf_81 (by decide) ?_
            exact ih (FP.fdiv (FP.i2f (T_strengths x4.toNatClampNeg)) (FP.i2f r5)) 1 (x4 + 1) hf ls (lv_sub hl [5, 6, 2, 1, 0] rfl)
          · have hf := wk_f hf q10
            refine lv_fload_n hx hb dX9_safetyOf_62 rfl (lv_at hl 4 rfl) ?_
            refine lv_fload hx hb dX9_safetyOf_63 (lv_at hl 0 rfl) ?_
            refine lv_fcmp hx hb dX9_safetyOf_65 ?_
            refine lv_if_gt (tgt := 73) hx hb dX9_safetyOf_66 (by decide) (fun q11 => ?_) (fun q11 => ?_)
            · have hf := wk_t hf q11
              refine lv_fload hx hb dX9_safetyOf_73 (lv_at hl 0 rfl) ?_
              refine lv_fstore_n (lv' := [(2, .float (FP.fdiv (FP.i2f (T_strengths x4.toNatClampNeg)) (FP.i2f r5))), (6, .float (FP.fdiv (FP.i2f (T_strengths x4.toNatClampNeg)) (FP.i2f r5))), (5, .int r5), (0, .ref (a 0)), (1, .int x1), (3, .int x3), (4, .int x4)]) hx hb dX9_safetyOf_75 rfl hl (by decide) rfl (fun ls hl => ?_)
              refine lv_iconst (v := 1) hx hb dX9_safetyOf_76 (by decide) ?_
              refine lv_istore_n (lv' := [(3, .int 1), (2, .float (FP.fdiv (FP.i2f (T_strengths x4.toNatClampNeg)) (FP.i2f r5))), (6, .float (FP.fdiv (FP.i2f (T_strengths x4.toNatClampNeg)) (FP.i2f r5))), (5, .int r5), (0, .ref (a 0)), (1, .int x1), (4, .int x4)]) hx hb dX9_safetyOf_77 rfl hl (by decide) rfl (fun ls hl => ?_)
              refine lv_iinc (v := (x4 + 1)) (lv' := [(4, .int (x4 + 1)), (3, .int 1), (2, .float (FP.fdiv (FP.i2f (T_strengths x4.toNatClampNeg)) (FP.i2f r5))), (6, .float (FP.fdiv (FP.i2f (T_strengths x4.toNatClampNeg)) (FP.i2f r5))), (5, .int r5), (0, .ref (a 0)), (1, .int x1)]) hx hb dX9_safetyOf_78 hl (k := 6) rfl rfl (by decide) rfl (fun ls hl => ?_)
              refine lv_goto (tgt := 7) hx hb dX9_safetyOf_81 (by decide) ?_
              exact ih (FP.fdiv (FP.i2f (T_strengths x4.toNatClampNeg)) (FP.i2f r5)) 1 (x4 + 1) hf ls (lv_sub hl [5, 6, 2, 1, 0] rfl)
            · have hf := wk_f hf q11
              refine lv_fload_n hx hb dX9_safetyOf_69 rfl (lv_at hl 4 rfl) ?_
              refine lv_goto (tgt := 75) hx hb dX9_safetyOf_70 (by decide) ?_
              refine lv_fstore_n (lv' := [(2, .float x2), (6, .float (FP.fdiv (FP.i2f (T_strengths x4.toNatClampNeg)) (FP.i2f r5))), (5, .int r5), (0, .ref (a 0)), (1, .int x1), (3, .int x3), (4, .int x4)]) hx hb dX9_safetyOf_75 rfl hl (by decide) rfl (fun ls hl => ?_)
              refine lv_iconst (v := 1) hx hb dX9_safetyOf_76 (by decide) ?_
              refine lv_istore_n (lv' := [(3, .int 1), (2, .float x2), (6, .float (FP.fdiv (FP.i2f (T_strengths x4.toNatClampNeg)) (FP.i2f r5))), (5, .int r5), (0, .ref (a 0)), (1, .int x1), (4, .int x4)]) hx hb dX9_safetyOf_77 rfl hl (by decide) rfl (fun ls hl => ?_)
              refine lv_iinc (v := (x4 + 1)) (lv' := [(4, .int (x4 + 1)), (3, .int 1), (2, .float x2), (6, .float (FP.fdiv (FP.i2f (T_strengths x4.toNatClampNeg)) (FP.i2f r5))), (5, .int r5), (0, .ref (a 0)), (1, .int x1)]) hx hb dX9_safetyOf_78 hl (k := 6) rfl rfl (by decide) rfl (fun ls hl => ?_)
              refine lv_goto (tgt := 7) hx hb dX9_safetyOf_81 (by decide) ?_
              exact ih x2 1 (x4 + 1) hf ls (lv_sub hl [5, 6, 2, 1, 0] rfl)
set_option maxHeartbeats 4000000 in
set_option maxRecDepth 100000 in
theorem c_X9_safetyOf (l : Launch) (dC : Nat → ClassId) (dI : Nat → Nat → Nat) (Y : Nat → ClassId) (a : Nat → Nat) (T_count : Int32) (T_weights : Nat → Int32) (T_strengths : Nat → Int32) (T_heights : Nat → Int32) (T_wages : Nat → Int32) (T_nightsToHeal : Nat → Int32) (x1 : Int32) (r : UInt32) (hf : f_X9_safetyOf T_count T_weights T_strengths x1 = some (r)) : Met l yX9_safetyOf wsX9_safetyOf ({ frames := 2, cells := 0, slots := 0, locals := 48 } : Room) (va_Pc [.ref (a 0), .int x1] (wk_B (dC, dI) Y (wX9 Y a T_count T_weights T_strengths T_heights T_wages T_nightsToHeal))) (vp_Sf (fun r2 => r2 = r)) 0 0 (fun _ => False) := by
  refine Met.ofW (cc := cX9_safetyOf) (maxL := 7) (ret := (some .float)) (by decide) rfl ?_
  intro p e s m args below meth c s₁ B hml hv
  obtain ⟨rfl, hP, hK⟩ := hv
  have hx := B.exec
  have hb := B.bytes
  have hr := B.returns
  have hts := atoms_spec (ws := wsX9_safetyOf) B.pre
  have hown : s.vm.findClass RX9 = some m.cls := findClass_of_methodNamed B.named
  have hlocks := B.notSynchronized
  have C0 : wk_C p s m _ meth c cX9_safetyOf 7 (some .float) wsX9_safetyOf RX9 := ⟨hx, hb, hml, hr, hlocks, hown, hts⟩
  have hP : va_P (dC, dI) vwCl [(a 0, .inr (9, [.int T_count, .ref (a 1), .ref (a 2), .ref (a 3), .ref (a 4), .ref (a 5)])), (a 1, .inl (Y 0, 6, .inl T_weights)), (a 2, .inl (Y 0, 6, .inl T_strengths)), (a 3, .inl (Y 0, 6, .inl T_heights)), (a 4, .inl (Y 0, 6, .inl T_wages)), (a 5, .inl (Y 0, 6, .inl T_nightsToHeal))] s.heap := hP
  have hl := lv_entry ([.ref (a 0), .int x1]) (n := 7) (Nat.le_of_ble_eq_true rfl)
  rw [lg_entry_eq]
  generalize (lg_sl ([.ref (a 0), .int x1]) ++ List.replicate (7 - (lg_sl ([.ref (a 0), .int x1])).length) Slot.unset).toArray = ls at hl ⊢
  have hl : lv_has ls 7 [(0, .ref (a 0)), (1, .int x1)] := hl
  rw [f_X9_safetyOf] at hf
  refine lv_fconst0 hx hb dX9_safetyOf_0 ?_
  refine lv_fstore_n (lv' := [(2, .float FP.fconst0), (0, .ref (a 0)), (1, .int x1)]) hx hb dX9_safetyOf_1 rfl hl (by decide) rfl (fun ls hl => ?_)
  refine lv_iconst (v := 0) hx hb dX9_safetyOf_2 (by decide) ?_
  refine lv_istore_n (lv' := [(3, .int 0), (2, .float FP.fconst0), (0, .ref (a 0)), (1, .int x1)]) hx hb dX9_safetyOf_3 rfl hl (by decide) rfl (fun ls hl => ?_)
  refine lv_iconst (v := 0) hx hb dX9_safetyOf_4 (by decide) ?_
  refine lv_istore (lv' := [(4, .int 0), (3, .int 0), (2, .float FP.fconst0), (0, .ref (a 0)), (1, .int x1)]) hx hb dX9_safetyOf_5 hl (by decide) rfl (fun ls hl => ?_)
  exact wl_X9_safetyOf_L7 C0 hK hP FU FP.fconst0 0 0 hf ls (lv_sub hl [3, 4, 2, 1, 0] rfl)
