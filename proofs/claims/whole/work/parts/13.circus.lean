abbrev wX3 (Y : Nat → ClassId) (a : Nat → Nat) (T_count : Int32) (T_weights : Nat → Int32) (T_strengths : Nat → Int32) (T_heights : Nat → Int32) (T_wages : Nat → Int32) (T_nightsToHeal : Nat → Int32) (B_accounts : Int32) (B_balances : Nat → Int32) (B_balancesAtClosing : Nat → Int32) (B_entries : Int32) (B_debited : Nat → Int32) (B_credited : Nat → Int32) (B_amounts : Nat → Int32) (C_nights : Int32) (C_netWidth : Int32) (C_shows : Int32) (C_fallen : Int32) : va_W := [(a 0, .inr (5, [.ref (a 1), .ref (a 7), .int C_nights, .int C_netWidth, .int C_shows, .int C_fallen])), (a 1, .inr (9, [.int T_count, .ref (a 2), .ref (a 3), .ref (a 4), .ref (a 5), .ref (a 6)])), (a 2, .inl (Y 0, 6, .inl T_weights)), (a 3, .inl (Y 0, 6, .inl T_strengths)), (a 4, .inl (Y 0, 6, .inl T_heights)), (a 5, .inl (Y 0, 6, .inl T_wages)), (a 6, .inl (Y 0, 6, .inl T_nightsToHeal)), (a 7, .inr (4, [.int B_accounts, .ref (a 8), .ref (a 9), .int B_entries, .ref (a 10), .ref (a 11), .ref (a 12)])), (a 8, .inl (Y 0, 11, .inl B_balances)), (a 9, .inl (Y 0, 11, .inl B_balancesAtClosing)), (a 10, .inl (Y 0, 60, .inl B_debited)), (a 11, .inl (Y 0, 60, .inl B_credited)), (a 12, .inl (Y 0, 60, .inl B_amounts))]
def f_X3_isBetween (x0 : Int32) (x1 : Int32) (x2 : Int32) : Option (Int32) :=
  if x0 < x1 then
    (some (0))
  else
    (if x2 < x0 then
      (some (0))
    else
      (some (1)))
set_option maxHeartbeats 4000000 in
set_option maxRecDepth 100000 in
theorem c_X3_isBetween (l : Launch) (dC : Nat → ClassId) (dI : Nat → Nat → Nat) (Y : Nat → ClassId)   (x0 : Int32) (x1 : Int32) (x2 : Int32) (r : Int32) (hf : f_X3_isBetween x0 x1 x2 = some (r)) : Met l yX3_isBetween wsX3_isBetween ({ frames := 0, cells := 0, slots := 0, locals := 0 } : Room) (va_Pc [.int x0, .int x1, .int x2] (wk_B (dC, dI) Y ([] : va_W))) (vp_Si (fun r2 => r2 = r)) 0 0 (fun _ => False) := by
  refine Met.ofW (cc := cX3_isBetween) (maxL := 3) (ret := (some .boolean)) (by decide) rfl ?_
  intro p e s m args below meth c s₁ B hml hv
  obtain ⟨rfl, hP, hK⟩ := hv
  have hx := B.exec
  have hb := B.bytes
  have hr := B.returns
  have hts := atoms_spec (ws := wsX3_isBetween) B.pre
  have hown : s.vm.findClass RX3 = some m.cls := findClass_of_methodNamed B.named
  have hlocks := B.notSynchronized
  have C0 : wk_C p s m _ meth c cX3_isBetween 3 (some .boolean) wsX3_isBetween RX3 := ⟨hx, hb, hml, hr, hlocks, hown, hts⟩
  have hP : va_P (dC, dI) vwCl [] s.heap := hP
  have hl := lv_entry ([.int x0, .int x1, .int x2]) (n := 3) (Nat.le_of_ble_eq_true rfl)
  rw [lg_entry_eq]
  generalize (lg_sl ([.int x0, .int x1, .int x2]) ++ List.replicate (3 - (lg_sl ([.int x0, .int x1, .int x2])).length) Slot.unset).toArray = ls at hl ⊢
  have hl : lv_has ls 3 [(0, .int x0), (1, .int x1), (2, .int x2)] := hl
  rw [f_X3_isBetween] at hf
  refine lv_iload_n hx hb dX3_isBetween_0 rfl (lv_at hl 0 rfl) ?_
  refine lv_iload_n hx hb dX3_isBetween_1 rfl (lv_at hl 1 rfl) ?_
  refine lv_icmp_lt (tgt := 14) hx hb dX3_isBetween_2 (by decide) (fun q1 => ?_) (fun q1 => ?_)
  · have hf := wk_t hf q1
    refine lv_iconst (v := 0) hx hb dX3_isBetween_14 (by decide) ?_
    have e0 := wke1 hf
    subst e0
    exact W.zret (v := 0) (ty := .boolean) hx hb hr rfl (fun t ht hW => ⟨0, rfl, rfl, ht⟩) (fun q h => absurd h List.not_mem_nil) dX3_isBetween_15
  · have hf := wk_f hf q1
    refine lv_iload_n hx hb dX3_isBetween_5 rfl (lv_at hl 0 rfl) ?_
    refine lv_iload_n hx hb dX3_isBetween_6 rfl (lv_at hl 2 rfl) ?_
    refine lv_icmp_gt (tgt := 14) hx hb dX3_isBetween_7 (by decide) (fun q2 => ?_) (fun q2 => ?_)
    · have hf := wk_t hf q2
      refine lv_iconst (v := 0) hx hb dX3_isBetween_14 (by decide) ?_
      have e0 := wke1 hf
      subst e0
      exact W.zret (v := 0) (ty := .boolean) hx hb hr rfl (fun t ht hW => ⟨0, rfl, rfl, ht⟩) (fun q h => absurd h List.not_mem_nil) dX3_isBetween_15
    · have hf := wk_f hf q2
      refine lv_iconst (v := 1) hx hb dX3_isBetween_10 (by decide) ?_
      refine lv_goto (tgt := 15) hx hb dX3_isBetween_11 (by decide) ?_
      have e0 := wke1 hf
      subst e0
      exact W.zret (v := 1) (ty := .boolean) hx hb hr rfl (fun t ht hW => ⟨1, rfl, rfl, ht⟩) (fun q h => absurd h List.not_mem_nil) dX3_isBetween_15
theorem lk_X3_copyFrom_RX3_12 : Cond.fieldLink RX3 12 "CircusLedger$Circus" "troupe" "LCircusLedger$Troupe;" ∈ wsX3_copyFrom := by decide +kernel
theorem lk_X3_copyFrom_RX3_21 : Cond.fieldLink RX3 21 "CircusLedger$Circus" "books" "LCircusLedger$Books;" ∈ wsX3_copyFrom := by decide +kernel
theorem lk_X3_copyFrom_RX3_32 : Cond.fieldLink RX3 32 "CircusLedger$Circus" "nights" "I" ∈ wsX3_copyFrom := by decide +kernel
theorem lk_X3_copyFrom_RX3_36 : Cond.fieldLink RX3 36 "CircusLedger$Circus" "netWidth" "I" ∈ wsX3_copyFrom := by decide +kernel
theorem lk_X3_copyFrom_RX3_39 : Cond.fieldLink RX3 39 "CircusLedger$Circus" "shows" "I" ∈ wsX3_copyFrom := by decide +kernel
theorem lk_X3_copyFrom_RX3_42 : Cond.fieldLink RX3 42 "CircusLedger$Circus" "fallen" "I" ∈ wsX3_copyFrom := by decide +kernel
theorem in_X3_copyFrom_X3 : ∀ w ∈ u_ws RX3 TX3 6, w ∈ wsX3_copyFrom := by decide +kernel
def f_X3_copyFrom (T_count : Int32) (T_weights : Nat → Int32) (T_strengths : Nat → Int32) (T_heights : Nat → Int32) (T_wages : Nat → Int32) (T_nightsToHeal : Nat → Int32) (B_accounts : Int32) (B_balances : Nat → Int32) (B_balancesAtClosing : Nat → Int32) (B_entries : Int32) (B_debited : Nat → Int32) (B_credited : Nat → Int32) (B_amounts : Nat → Int32) (C_nights : Int32) (C_netWidth : Int32) (C_shows : Int32) (C_fallen : Int32) (OT_count : Int32) (OT_weights : Nat → Int32) (OT_strengths : Nat → Int32) (OT_heights : Nat → Int32) (OT_wages : Nat → Int32) (OT_nightsToHeal : Nat → Int32) (OB_accounts : Int32) (OB_balances : Nat → Int32) (OB_balancesAtClosing : Nat → Int32) (OB_entries : Int32) (OB_debited : Nat → Int32) (OB_credited : Nat → Int32) (OB_amounts : Nat → Int32) (OC_nights : Int32) (OC_netWidth : Int32) (OC_shows : Int32) (OC_fallen : Int32) : Option (Int32 × (Nat → Int32) × (Nat → Int32) × (Nat → Int32) × (Nat → Int32) × (Nat → Int32) × Int32 × (Nat → Int32) × (Nat → Int32) × Int32 × (Nat → Int32) × (Nat → Int32) × (Nat → Int32) × Int32 × Int32 × Int32 × Int32) :=
  wkb6 (f_X9_copyFrom T_count T_weights T_strengths T_heights T_wages T_nightsToHeal OT_count OT_weights OT_strengths OT_heights OT_wages OT_nightsToHeal) (fun w1 w2 w3 w4 w5 w6 =>
  wkb7 (f_X2_copyFrom B_accounts B_balances B_balancesAtClosing B_entries B_debited B_credited B_amounts OB_accounts OB_balances OB_balancesAtClosing OB_entries OB_debited OB_credited OB_amounts) (fun w8 w9 w10 w11 w12 w13 w14 =>
  some (w1, w2, w3, w4, w5, w6, w8, w9, w10, w11, w12, w13, w14, OC_nights, OC_netWidth, OC_shows, OC_fallen)))
set_option maxHeartbeats 4000000 in
set_option maxRecDepth 100000 in
theorem c_X3_copyFrom (l : Launch) (dC : Nat → ClassId) (dI : Nat → Nat → Nat) (Y : Nat → ClassId) (a : Nat → Nat) (b : Nat → Nat) (T_count : Int32) (T_weights : Nat → Int32) (T_strengths : Nat → Int32) (T_heights : Nat → Int32) (T_wages : Nat → Int32) (T_nightsToHeal : Nat → Int32) (B_accounts : Int32) (B_balances : Nat → Int32) (B_balancesAtClosing : Nat → Int32) (B_entries : Int32) (B_debited : Nat → Int32) (B_credited : Nat → Int32) (B_amounts : Nat → Int32) (C_nights : Int32) (C_netWidth : Int32) (C_shows : Int32) (C_fallen : Int32) (OT_count : Int32) (OT_weights : Nat → Int32) (OT_strengths : Nat → Int32) (OT_heights : Nat → Int32) (OT_wages : Nat → Int32) (OT_nightsToHeal : Nat → Int32) (OB_accounts : Int32) (OB_balances : Nat → Int32) (OB_balancesAtClosing : Nat → Int32) (OB_entries : Int32) (OB_debited : Nat → Int32) (OB_credited : Nat → Int32) (OB_amounts : Nat → Int32) (OC_nights : Int32) (OC_netWidth : Int32) (OC_shows : Int32) (OC_fallen : Int32)  (sz : Nat) (zT_count : Int32) (zT_weights : Nat → Int32) (zT_strengths : Nat → Int32) (zT_heights : Nat → Int32) (zT_wages : Nat → Int32) (zT_nightsToHeal : Nat → Int32) (zB_accounts : Int32) (zB_balances : Nat → Int32) (zB_balancesAtClosing : Nat → Int32) (zB_entries : Int32) (zB_debited : Nat → Int32) (zB_credited : Nat → Int32) (zB_amounts : Nat → Int32) (zC_nights : Int32) (zC_netWidth : Int32) (zC_shows : Int32) (zC_fallen : Int32) (hf : f_X3_copyFrom T_count T_weights T_strengths T_heights T_wages T_nightsToHeal B_accounts B_balances B_balancesAtClosing B_entries B_debited B_credited B_amounts C_nights C_netWidth C_shows C_fallen OT_count OT_weights OT_strengths OT_heights OT_wages OT_nightsToHeal OB_accounts OB_balances OB_balancesAtClosing OB_entries OB_debited OB_credited OB_amounts OC_nights OC_netWidth OC_shows OC_fallen = some (zT_count, zT_weights, zT_strengths, zT_heights, zT_wages, zT_nightsToHeal, zB_accounts, zB_balances, zB_balancesAtClosing, zB_entries, zB_debited, zB_credited, zB_amounts, zC_nights, zC_netWidth, zC_shows, zC_fallen)) : Met l yX3_copyFrom wsX3_copyFrom ({ frames := 2, cells := 0, slots := 0, locals := 221 } : Room) (va_Pc [.ref (a 0), .ref (b 0)] (wk_E (dC, dI) Y ((wX3 Y a T_count T_weights T_strengths T_heights T_wages T_nightsToHeal B_accounts B_balances B_balancesAtClosing B_entries B_debited B_credited B_amounts C_nights C_netWidth C_shows C_fallen) ++ (wX3 Y b OT_count OT_weights OT_strengths OT_heights OT_wages OT_nightsToHeal OB_accounts OB_balances OB_balancesAtClosing OB_entries OB_debited OB_credited OB_amounts OC_nights OC_netWidth OC_shows OC_fallen)) sz)) (va_Qv (fun (_ : Unit) => True) (fun _ t => wk_X (dC, dI) Y ((wX3 Y a zT_count zT_weights zT_strengths zT_heights zT_wages zT_nightsToHeal zB_accounts zB_balances zB_balancesAtClosing zB_entries zB_debited zB_credited zB_amounts zC_nights zC_netWidth zC_shows zC_fallen) ++ (wX3 Y b OT_count OT_weights OT_strengths OT_heights OT_wages OT_nightsToHeal OB_accounts OB_balances OB_balancesAtClosing OB_entries OB_debited OB_credited OB_amounts OC_nights OC_netWidth OC_shows OC_fallen)) (va_A ((wX3 Y a T_count T_weights T_strengths T_heights T_wages T_nightsToHeal B_accounts B_balances B_balancesAtClosing B_entries B_debited B_credited B_amounts C_nights C_netWidth C_shows C_fallen) ++ (wX3 Y b OT_count OT_weights OT_strengths OT_heights OT_wages OT_nightsToHeal OB_accounts OB_balances OB_balancesAtClosing OB_entries OB_debited OB_credited OB_amounts OC_nights OC_netWidth OC_shows OC_fallen)) sz) t) (va_A ((wX3 Y a T_count T_weights T_strengths T_heights T_wages T_nightsToHeal B_accounts B_balances B_balancesAtClosing B_entries B_debited B_credited B_amounts C_nights C_netWidth C_shows C_fallen) ++ (wX3 Y b OT_count OT_weights OT_strengths OT_heights OT_wages OT_nightsToHeal OB_accounts OB_balances OB_balancesAtClosing OB_entries OB_debited OB_credited OB_amounts OC_nights OC_netWidth OC_shows OC_fallen)) sz)) 0 0 (va_A ((wX3 Y a T_count T_weights T_strengths T_heights T_wages T_nightsToHeal B_accounts B_balances B_balancesAtClosing B_entries B_debited B_credited B_amounts C_nights C_netWidth C_shows C_fallen) ++ (wX3 Y b OT_count OT_weights OT_strengths OT_heights OT_wages OT_nightsToHeal OB_accounts OB_balances OB_balancesAtClosing OB_entries OB_debited OB_credited OB_amounts OC_nights OC_netWidth OC_shows OC_fallen)) sz) := by
  refine Met.ofW (cc := cX3_copyFrom) (maxL := 2) (ret := none) (by decide) rfl ?_
  intro p e s m args below meth c s₁ B hml hv
  obtain ⟨rfl, hsz, hP, hK, hD0⟩ := hv
  have hx := B.exec
  have hb := B.bytes
  have hr := B.returns
  have hts := atoms_spec (ws := wsX3_copyFrom) B.pre
  have hown : s.vm.findClass RX3 = some m.cls := findClass_of_methodNamed B.named
  have hlocks := B.notSynchronized
  have C0 : wk_C p s m _ meth c cX3_copyFrom 2 none wsX3_copyFrom RX3 := ⟨hx, hb, hml, hr, hlocks, hown, hts⟩
  subst hsz
  have hD := hD0.self (sz := s.heap.size)
  generalize hAe : va_A ((wX3 Y a T_count T_weights T_strengths T_heights T_wages T_nightsToHeal B_accounts B_balances B_balancesAtClosing B_entries B_debited B_credited B_amounts C_nights C_netWidth C_shows C_fallen) ++ (wX3 Y b OT_count OT_weights OT_strengths OT_heights OT_wages OT_nightsToHeal OB_accounts OB_balances OB_balancesAtClosing OB_entries OB_debited OB_credited OB_amounts OC_nights OC_netWidth OC_shows OC_fallen)) s.heap.size = A at hD ⊢
  have hA : ∀ q : Nat, s.heap.size ≤ q → A q := fun q h => by rw [← hAe]; exact Or.inr h
  have hS : va_S A s.heap s.heap [] := va_S.rf
  obtain ⟨H, hHe⟩ : ∃ H, H = s.heap := ⟨_, rfl⟩
  have hS : va_S A s.heap H [] := by rw [hHe]; exact hS
  have hP : va_P (dC, dI) vwCl [(a 0, .inr (5, [.ref (a 1), .ref (a 7), .int C_nights, .int C_netWidth, .int C_shows, .int C_fallen])), (a 1, .inr (9, [.int T_count, .ref (a 2), .ref (a 3), .ref (a 4), .ref (a 5), .ref (a 6)])), (a 2, .inl (Y 0, 6, .inl T_weights)), (a 3, .inl (Y 0, 6, .inl T_strengths)), (a 4, .inl (Y 0, 6, .inl T_heights)), (a 5, .inl (Y 0, 6, .inl T_wages)), (a 6, .inl (Y 0, 6, .inl T_nightsToHeal)), (a 7, .inr (4, [.int B_accounts, .ref (a 8), .ref (a 9), .int B_entries, .ref (a 10), .ref (a 11), .ref (a 12)])), (a 8, .inl (Y 0, 11, .inl B_balances)), (a 9, .inl (Y 0, 11, .inl B_balancesAtClosing)), (a 10, .inl (Y 0, 60, .inl B_debited)), (a 11, .inl (Y 0, 60, .inl B_credited)), (a 12, .inl (Y 0, 60, .inl B_amounts)), (b 0, .inr (5, [.ref (b 1), .ref (b 7), .int OC_nights, .int OC_netWidth, .int OC_shows, .int OC_fallen])), (b 1, .inr (9, [.int OT_count, .ref (b 2), .ref (b 3), .ref (b 4), .ref (b 5), .ref (b 6)])), (b 2, .inl (Y 0, 6, .inl OT_weights)), (b 3, .inl (Y 0, 6, .inl OT_strengths)), (b 4, .inl (Y 0, 6, .inl OT_heights)), (b 5, .inl (Y 0, 6, .inl OT_wages)), (b 6, .inl (Y 0, 6, .inl OT_nightsToHeal)), (b 7, .inr (4, [.int OB_accounts, .ref (b 8), .ref (b 9), .int OB_entries, .ref (b 10), .ref (b 11), .ref (b 12)])), (b 8, .inl (Y 0, 11, .inl OB_balances)), (b 9, .inl (Y 0, 11, .inl OB_balancesAtClosing)), (b 10, .inl (Y 0, 60, .inl OB_debited)), (b 11, .inl (Y 0, 60, .inl OB_credited)), (b 12, .inl (Y 0, 60, .inl OB_amounts))] H := by rw [hHe]; exact hP
  have hD : va_D A [(a 0, .inr (5, [.ref (a 1), .ref (a 7), .int C_nights, .int C_netWidth, .int C_shows, .int C_fallen])), (a 1, .inr (9, [.int T_count, .ref (a 2), .ref (a 3), .ref (a 4), .ref (a 5), .ref (a 6)])), (a 2, .inl (Y 0, 6, .inl T_weights)), (a 3, .inl (Y 0, 6, .inl T_strengths)), (a 4, .inl (Y 0, 6, .inl T_heights)), (a 5, .inl (Y 0, 6, .inl T_wages)), (a 6, .inl (Y 0, 6, .inl T_nightsToHeal)), (a 7, .inr (4, [.int B_accounts, .ref (a 8), .ref (a 9), .int B_entries, .ref (a 10), .ref (a 11), .ref (a 12)])), (a 8, .inl (Y 0, 11, .inl B_balances)), (a 9, .inl (Y 0, 11, .inl B_balancesAtClosing)), (a 10, .inl (Y 0, 60, .inl B_debited)), (a 11, .inl (Y 0, 60, .inl B_credited)), (a 12, .inl (Y 0, 60, .inl B_amounts)), (b 0, .inr (5, [.ref (b 1), .ref (b 7), .int OC_nights, .int OC_netWidth, .int OC_shows, .int OC_fallen])), (b 1, .inr (9, [.int OT_count, .ref (b 2), .ref (b 3), .ref (b 4), .ref (b 5), .ref (b 6)])), (b 2, .inl (Y 0, 6, .inl OT_weights)), (b 3, .inl (Y 0, 6, .inl OT_strengths)), (b 4, .inl (Y 0, 6, .inl OT_heights)), (b 5, .inl (Y 0, 6, .inl OT_wages)), (b 6, .inl (Y 0, 6, .inl OT_nightsToHeal)), (b 7, .inr (4, [.int OB_accounts, .ref (b 8), .ref (b 9), .int OB_entries, .ref (b 10), .ref (b 11), .ref (b 12)])), (b 8, .inl (Y 0, 11, .inl OB_balances)), (b 9, .inl (Y 0, 11, .inl OB_balancesAtClosing)), (b 10, .inl (Y 0, 60, .inl OB_debited)), (b 11, .inl (Y 0, 60, .inl OB_credited)), (b 12, .inl (Y 0, 60, .inl OB_amounts))] := hD
  obtain ⟨locs, hlo⟩ : ∃ locs : List Loc, locs = [] := ⟨_, rfl⟩
  have hS : va_S A s.heap H locs := by rw [hlo]; exact hS
  have hl := lv_entry ([.ref (a 0), .ref (b 0)]) (n := 2) (Nat.le_of_ble_eq_true rfl)
  rw [lg_entry_eq]
  generalize (lg_sl ([.ref (a 0), .ref (b 0)]) ++ List.replicate (2 - (lg_sl ([.ref (a 0), .ref (b 0)])).length) Slot.unset).toArray = ls at hl ⊢
  have hl : lv_has ls 2 [(0, .ref (a 0)), (1, .ref (b 0))] := hl
  refine wk_start hHe hlo ?_
  rw [f_X3_copyFrom] at hf
  refine lv_aload_n hx hb dX3_copyFrom_0 rfl (lv_at hl 0 rfl) ?_
  refine va_get (D := (dC, dI)) (ci := 5) (v := .ref (a 1)) (C := RX3) (T := TX3) (N := 6) hx hb hts in_X3_copyFrom_X3 hown hK hP 0 rfl rfl 0 (by decide) (hts _ lk_X3_copyFrom_RX3_12) (fun _ h9 => h9) rfl dX3_copyFrom_1 ?_
  refine lv_aload_n hx hb dX3_copyFrom_4 rfl (lv_at hl 1 rfl) ?_
  refine va_get (D := (dC, dI)) (ci := 5) (v := .ref (b 1)) (C := RX3) (T := TX3) (N := 6) hx hb hts in_X3_copyFrom_X3 hown hK hP 13 rfl rfl 0 (by decide) (hts _ lk_X3_copyFrom_RX3_12) (fun _ h9 => h9) rfl dX3_copyFrom_5 ?_
  obtain ⟨w1, w2, w3, w4, w5, w6, hr7, hf⟩ := wkb6_s hf
  refine wk_evv (As := [.ref (b 1)]) (rest := []) (wc := ((wX9 Y (fun k => a (k + 1)) T_count T_weights T_strengths T_heights T_wages T_nightsToHeal) ++ (wX9 Y (fun k => b (k + 1)) OT_count OT_weights OT_strengths OT_heights OT_wages OT_nightsToHeal))) (w1 := ((wX9 Y (fun k => a (k + 1)) w1 w2 w3 w4 w5 w6) ++ (wX9 Y (fun k => b (k + 1)) OT_count OT_weights OT_strengths OT_heights OT_wages OT_nightsToHeal))) (wr := [(a 0, .inr (5, [.ref (a 1), .ref (a 7), .int C_nights, .int C_netWidth, .int C_shows, .int C_fallen])), (a 7, .inr (4, [.int B_accounts, .ref (a 8), .ref (a 9), .int B_entries, .ref (a 10), .ref (a 11), .ref (a 12)])), (a 8, .inl (Y 0, 11, .inl B_balances)), (a 9, .inl (Y 0, 11, .inl B_balancesAtClosing)), (a 10, .inl (Y 0, 60, .inl B_debited)), (a 11, .inl (Y 0, 60, .inl B_credited)), (a 12, .inl (Y 0, 60, .inl B_amounts)), (b 0, .inr (5, [.ref (b 1), .ref (b 7), .int OC_nights, .int OC_netWidth, .int OC_shows, .int OC_fallen])), (b 7, .inr (4, [.int OB_accounts, .ref (b 8), .ref (b 9), .int OB_entries, .ref (b 10), .ref (b 11), .ref (b 12)])), (b 8, .inl (Y 0, 11, .inl OB_balances)), (b 9, .inl (Y 0, 11, .inl OB_balancesAtClosing)), (b 10, .inl (Y 0, 60, .inl OB_debited)), (b 11, .inl (Y 0, 60, .inl OB_credited)), (b 12, .inl (Y 0, 60, .inl OB_amounts))]) ⟨hx, hb, hml, hown, hts⟩ (c_X9_copyFrom l dC dI Y (fun k => a (k + 1)) (fun k => b (k + 1)) T_count T_weights T_strengths T_heights T_wages T_nightsToHeal OT_count OT_weights OT_strengths OT_heights OT_wages OT_nightsToHeal H.size w1 w2 w3 w4 w5 w6 hr7) (cwV 1 hts gX3_copyFrom_X9_copyFrom rfl rfl rfl (by decide +kernel) ⟨Nat.le_of_ble_eq_true rfl, Nat.le_of_ble_eq_true rfl⟩) hK hP hD hS hA [1, 2, 3, 4, 5, 6, 14, 15, 16, 17, 18, 19] [0, 7, 8, 9, 10, 11, 12, 13, 20, 21, 22, 23, 24, 25] rfl rfl (by decide) (by decide) (by decide) (va_recv hK hP (ci := 9) (q0 := 1) rfl rfl) rfl hl.1 rfl (Nat.le_of_ble_eq_true rfl) dX3_copyFrom_8 ⟨Nat.le_of_ble_eq_true rfl, Nat.le_of_ble_eq_true rfl⟩ (fun H locs hP hD hS => ?_)
  have hP : va_P (dC, dI) vwCl [(a 0, .inr (5, [.ref (a 1), .ref (a 7), .int C_nights, .int C_netWidth, .int C_shows, .int C_fallen])), (a 7, .inr (4, [.int B_accounts, .ref (a 8), .ref (a 9), .int B_entries, .ref (a 10), .ref (a 11), .ref (a 12)])), (a 8, .inl (Y 0, 11, .inl B_balances)), (a 9, .inl (Y 0, 11, .inl B_balancesAtClosing)), (a 10, .inl (Y 0, 60, .inl B_debited)), (a 11, .inl (Y 0, 60, .inl B_credited)), (a 12, .inl (Y 0, 60, .inl B_amounts)), (b 0, .inr (5, [.ref (b 1), .ref (b 7), .int OC_nights, .int OC_netWidth, .int OC_shows, .int OC_fallen])), (b 7, .inr (4, [.int OB_accounts, .ref (b 8), .ref (b 9), .int OB_entries, .ref (b 10), .ref (b 11), .ref (b 12)])), (b 8, .inl (Y 0, 11, .inl OB_balances)), (b 9, .inl (Y 0, 11, .inl OB_balancesAtClosing)), (b 10, .inl (Y 0, 60, .inl OB_debited)), (b 11, .inl (Y 0, 60, .inl OB_credited)), (b 12, .inl (Y 0, 60, .inl OB_amounts)), (a 1, .inr (9, [.int w1, .ref (a 2), .ref (a 3), .ref (a 4), .ref (a 5), .ref (a 6)])), (a 2, .inl (Y 0, 6, .inl w2)), (a 3, .inl (Y 0, 6, .inl w3)), (a 4, .inl (Y 0, 6, .inl w4)), (a 5, .inl (Y 0, 6, .inl w5)), (a 6, .inl (Y 0, 6, .inl w6)), (b 1, .inr (9, [.int OT_count, .ref (b 2), .ref (b 3), .ref (b 4), .ref (b 5), .ref (b 6)])), (b 2, .inl (Y 0, 6, .inl OT_weights)), (b 3, .inl (Y 0, 6, .inl OT_strengths)), (b 4, .inl (Y 0, 6, .inl OT_heights)), (b 5, .inl (Y 0, 6, .inl OT_wages)), (b 6, .inl (Y 0, 6, .inl OT_nightsToHeal))] H := hP
  have hD : va_D A [(a 0, .inr (5, [.ref (a 1), .ref (a 7), .int C_nights, .int C_netWidth, .int C_shows, .int C_fallen])), (a 7, .inr (4, [.int B_accounts, .ref (a 8), .ref (a 9), .int B_entries, .ref (a 10), .ref (a 11), .ref (a 12)])), (a 8, .inl (Y 0, 11, .inl B_balances)), (a 9, .inl (Y 0, 11, .inl B_balancesAtClosing)), (a 10, .inl (Y 0, 60, .inl B_debited)), (a 11, .inl (Y 0, 60, .inl B_credited)), (a 12, .inl (Y 0, 60, .inl B_amounts)), (b 0, .inr (5, [.ref (b 1), .ref (b 7), .int OC_nights, .int OC_netWidth, .int OC_shows, .int OC_fallen])), (b 7, .inr (4, [.int OB_accounts, .ref (b 8), .ref (b 9), .int OB_entries, .ref (b 10), .ref (b 11), .ref (b 12)])), (b 8, .inl (Y 0, 11, .inl OB_balances)), (b 9, .inl (Y 0, 11, .inl OB_balancesAtClosing)), (b 10, .inl (Y 0, 60, .inl OB_debited)), (b 11, .inl (Y 0, 60, .inl OB_credited)), (b 12, .inl (Y 0, 60, .inl OB_amounts)), (a 1, .inr (9, [.int w1, .ref (a 2), .ref (a 3), .ref (a 4), .ref (a 5), .ref (a 6)])), (a 2, .inl (Y 0, 6, .inl w2)), (a 3, .inl (Y 0, 6, .inl w3)), (a 4, .inl (Y 0, 6, .inl w4)), (a 5, .inl (Y 0, 6, .inl w5)), (a 6, .inl (Y 0, 6, .inl w6)), (b 1, .inr (9, [.int OT_count, .ref (b 2), .ref (b 3), .ref (b 4), .ref (b 5), .ref (b 6)])), (b 2, .inl (Y 0, 6, .inl OT_weights)), (b 3, .inl (Y 0, 6, .inl OT_strengths)), (b 4, .inl (Y 0, 6, .inl OT_heights)), (b 5, .inl (Y 0, 6, .inl OT_wages)), (b 6, .inl (Y 0, 6, .inl OT_nightsToHeal))] := hD
  refine lv_aload_n hx hb dX3_copyFrom_11 rfl (lv_at hl 0 rfl) ?_
  refine va_get (D := (dC, dI)) (ci := 5) (v := .ref (a 7)) (C := RX3) (T := TX3) (N := 6) hx hb hts in_X3_copyFrom_X3 hown hK hP 0 rfl rfl 1 (by decide) (hts _ lk_X3_copyFrom_RX3_21) (fun _ h9 => h9) rfl dX3_copyFrom_12 ?_
  refine lv_aload_n hx hb dX3_copyFrom_15 rfl (lv_at hl 1 rfl) ?_
  refine va_get (D := (dC, dI)) (ci := 5) (v := .ref (b 7)) (C := RX3) (T := TX3) (N := 6) hx hb hts in_X3_copyFrom_X3 hown hK hP 7 rfl rfl 1 (by decide) (hts _ lk_X3_copyFrom_RX3_21) (fun _ h9 => h9) rfl dX3_copyFrom_16 ?_
  obtain ⟨w8, w9, w10, w11, w12, w13, w14, hr15, hf⟩ := wkb7_s hf
  refine wk_evv (As := [.ref (b 7)]) (rest := []) (wc := ((wX2 Y (fun k => a (k + 7)) B_accounts B_balances B_balancesAtClosing B_entries B_debited B_credited B_amounts) ++ (wX2 Y (fun k => b (k + 7)) OB_accounts OB_balances OB_balancesAtClosing OB_entries OB_debited OB_credited OB_amounts))) (w1 := ((wX2 Y (fun k => a (k + 7)) w8 w9 w10 w11 w12 w13 w14) ++ (wX2 Y (fun k => b (k + 7)) OB_accounts OB_balances OB_balancesAtClosing OB_entries OB_debited OB_credited OB_amounts))) (wr := [(a 0, .inr (5, [.ref (a 1), .ref (a 7), .int C_nights, .int C_netWidth, .int C_shows, .int C_fallen])), (b 0, .inr (5, [.ref (b 1), .ref (b 7), .int OC_nights, .int OC_netWidth, .int OC_shows, .int OC_fallen])), (a 1, .inr (9, [.int w1, .ref (a 2), .ref (a 3), .ref (a 4), .ref (a 5), .ref (a 6)])), (a 2, .inl (Y 0, 6, .inl w2)), (a 3, .inl (Y 0, 6, .inl w3)), (a 4, .inl (Y 0, 6, .inl w4)), (a 5, .inl (Y 0, 6, .inl w5)), (a 6, .inl (Y 0, 6, .inl w6)), (b 1, .inr (9, [.int OT_count, .ref (b 2), .ref (b 3), .ref (b 4), .ref (b 5), .ref (b 6)])), (b 2, .inl (Y 0, 6, .inl OT_weights)), (b 3, .inl (Y 0, 6, .inl OT_strengths)), (b 4, .inl (Y 0, 6, .inl OT_heights)), (b 5, .inl (Y 0, 6, .inl OT_wages)), (b 6, .inl (Y 0, 6, .inl OT_nightsToHeal))]) ⟨hx, hb, hml, hown, hts⟩ (c_X2_copyFrom l dC dI Y (fun k => a (k + 7)) (fun k => b (k + 7)) B_accounts B_balances B_balancesAtClosing B_entries B_debited B_credited B_amounts OB_accounts OB_balances OB_balancesAtClosing OB_entries OB_debited OB_credited OB_amounts H.size w8 w9 w10 w11 w12 w13 w14 hr15) (cwV 1 hts gX3_copyFrom_X2_copyFrom rfl rfl rfl (by decide +kernel) ⟨Nat.le_of_ble_eq_true rfl, Nat.le_of_ble_eq_true rfl⟩) hK hP hD hS hA [1, 2, 3, 4, 5, 6, 8, 9, 10, 11, 12, 13] [0, 7, 14, 15, 16, 17, 18, 19, 20, 21, 22, 23, 24, 25] rfl rfl (by decide) (by decide) (by decide) (va_recv hK hP (ci := 4) (q0 := 1) rfl rfl) rfl hl.1 rfl (Nat.le_of_ble_eq_true rfl) dX3_copyFrom_19 ⟨Nat.le_of_ble_eq_true rfl, Nat.le_of_ble_eq_true rfl⟩ (fun H locs hP hD hS => ?_)
  have hP : va_P (dC, dI) vwCl [(a 0, .inr (5, [.ref (a 1), .ref (a 7), .int C_nights, .int C_netWidth, .int C_shows, .int C_fallen])), (b 0, .inr (5, [.ref (b 1), .ref (b 7), .int OC_nights, .int OC_netWidth, .int OC_shows, .int OC_fallen])), (a 1, .inr (9, [.int w1, .ref (a 2), .ref (a 3), .ref (a 4), .ref (a 5), .ref (a 6)])), (a 2, .inl (Y 0, 6, .inl w2)), (a 3, .inl (Y 0, 6, .inl w3)), (a 4, .inl (Y 0, 6, .inl w4)), (a 5, .inl (Y 0, 6, .inl w5)), (a 6, .inl (Y 0, 6, .inl w6)), (b 1, .inr (9, [.int OT_count, .ref (b 2), .ref (b 3), .ref (b 4), .ref (b 5), .ref (b 6)])), (b 2, .inl (Y 0, 6, .inl OT_weights)), (b 3, .inl (Y 0, 6, .inl OT_strengths)), (b 4, .inl (Y 0, 6, .inl OT_heights)), (b 5, .inl (Y 0, 6, .inl OT_wages)), (b 6, .inl (Y 0, 6, .inl OT_nightsToHeal)), (a 7, .inr (4, [.int w8, .ref (a 8), .ref (a 9), .int w11, .ref (a 10), .ref (a 11), .ref (a 12)])), (a 8, .inl (Y 0, 11, .inl w9)), (a 9, .inl (Y 0, 11, .inl w10)), (a 10, .inl (Y 0, 60, .inl w12)), (a 11, .inl (Y 0, 60, .inl w13)), (a 12, .inl (Y 0, 60, .inl w14)), (b 7, .inr (4, [.int OB_accounts, .ref (b 8), .ref (b 9), .int OB_entries, .ref (b 10), .ref (b 11), .ref (b 12)])), (b 8, .inl (Y 0, 11, .inl OB_balances)), (b 9, .inl (Y 0, 11, .inl OB_balancesAtClosing)), (b 10, .inl (Y 0, 60, .inl OB_debited)), (b 11, .inl (Y 0, 60, .inl OB_credited)), (b 12, .inl (Y 0, 60, .inl OB_amounts))] H := hP
  have hD : va_D A [(a 0, .inr (5, [.ref (a 1), .ref (a 7), .int C_nights, .int C_netWidth, .int C_shows, .int C_fallen])), (b 0, .inr (5, [.ref (b 1), .ref (b 7), .int OC_nights, .int OC_netWidth, .int OC_shows, .int OC_fallen])), (a 1, .inr (9, [.int w1, .ref (a 2), .ref (a 3), .ref (a 4), .ref (a 5), .ref (a 6)])), (a 2, .inl (Y 0, 6, .inl w2)), (a 3, .inl (Y 0, 6, .inl w3)), (a 4, .inl (Y 0, 6, .inl w4)), (a 5, .inl (Y 0, 6, .inl w5)), (a 6, .inl (Y 0, 6, .inl w6)), (b 1, .inr (9, [.int OT_count, .ref (b 2), .ref (b 3), .ref (b 4), .ref (b 5), .ref (b 6)])), (b 2, .inl (Y 0, 6, .inl OT_weights)), (b 3, .inl (Y 0, 6, .inl OT_strengths)), (b 4, .inl (Y 0, 6, .inl OT_heights)), (b 5, .inl (Y 0, 6, .inl OT_wages)), (b 6, .inl (Y 0, 6, .inl OT_nightsToHeal)), (a 7, .inr (4, [.int w8, .ref (a 8), .ref (a 9), .int w11, .ref (a 10), .ref (a 11), .ref (a 12)])), (a 8, .inl (Y 0, 11, .inl w9)), (a 9, .inl (Y 0, 11, .inl w10)), (a 10, .inl (Y 0, 60, .inl w12)), (a 11, .inl (Y 0, 60, .inl w13)), (a 12, .inl (Y 0, 60, .inl w14)), (b 7, .inr (4, [.int OB_accounts, .ref (b 8), .ref (b 9), .int OB_entries, .ref (b 10), .ref (b 11), .ref (b 12)])), (b 8, .inl (Y 0, 11, .inl OB_balances)), (b 9, .inl (Y 0, 11, .inl OB_balancesAtClosing)), (b 10, .inl (Y 0, 60, .inl OB_debited)), (b 11, .inl (Y 0, 60, .inl OB_credited)), (b 12, .inl (Y 0, 60, .inl OB_amounts))] := hD
  refine lv_aload_n hx hb dX3_copyFrom_22 rfl (lv_at hl 0 rfl) ?_
  refine lv_aload_n hx hb dX3_copyFrom_23 rfl (lv_at hl 1 rfl) ?_
  refine va_get (D := (dC, dI)) (ci := 5) (v := .int OC_nights) (C := RX3) (T := TX3) (N := 6) hx hb hts in_X3_copyFrom_X3 hown hK hP 1 rfl rfl 2 (by decide) (hts _ lk_X3_copyFrom_RX3_32) (fun _ h9 => h9) rfl dX3_copyFrom_24 ?_
  refine va_put (D := (dC, dI)) (ci := 5) (v := .int OC_nights) (ty := .int) (C := RX3) (T := TX3) (N := 6) hx hb hts in_X3_copyFrom_X3 tyX3 tyX3_ok nmX3 hown hK hP hD hS 0 rfl rfl 2 (by decide) (hts _ lk_X3_copyFrom_RX3_32) (fun _ h9 => h9) rfl (by decide +kernel) rfl rfl (Nat.le_of_ble_eq_true rfl) dX3_copyFrom_27 (fun H locs hP hD hS => ?_)
  have hP : va_P (dC, dI) vwCl [(a 0, .inr (5, [.ref (a 1), .ref (a 7), .int OC_nights, .int C_netWidth, .int C_shows, .int C_fallen])), (b 0, .inr (5, [.ref (b 1), .ref (b 7), .int OC_nights, .int OC_netWidth, .int OC_shows, .int OC_fallen])), (a 1, .inr (9, [.int w1, .ref (a 2), .ref (a 3), .ref (a 4), .ref (a 5), .ref (a 6)])), (a 2, .inl (Y 0, 6, .inl w2)), (a 3, .inl (Y 0, 6, .inl w3)), (a 4, .inl (Y 0, 6, .inl w4)), (a 5, .inl (Y 0, 6, .inl w5)), (a 6, .inl (Y 0, 6, .inl w6)), (b 1, .inr (9, [.int OT_count, .ref (b 2), .ref (b 3), .ref (b 4), .ref (b 5), .ref (b 6)])), (b 2, .inl (Y 0, 6, .inl OT_weights)), (b 3, .inl (Y 0, 6, .inl OT_strengths)), (b 4, .inl (Y 0, 6, .inl OT_heights)), (b 5, .inl (Y 0, 6, .inl OT_wages)), (b 6, .inl (Y 0, 6, .inl OT_nightsToHeal)), (a 7, .inr (4, [.int w8, .ref (a 8), .ref (a 9), .int w11, .ref (a 10), .ref (a 11), .ref (a 12)])), (a 8, .inl (Y 0, 11, .inl w9)), (a 9, .inl (Y 0, 11, .inl w10)), (a 10, .inl (Y 0, 60, .inl w12)), (a 11, .inl (Y 0, 60, .inl w13)), (a 12, .inl (Y 0, 60, .inl w14)), (b 7, .inr (4, [.int OB_accounts, .ref (b 8), .ref (b 9), .int OB_entries, .ref (b 10), .ref (b 11), .ref (b 12)])), (b 8, .inl (Y 0, 11, .inl OB_balances)), (b 9, .inl (Y 0, 11, .inl OB_balancesAtClosing)), (b 10, .inl (Y 0, 60, .inl OB_debited)), (b 11, .inl (Y 0, 60, .inl OB_credited)), (b 12, .inl (Y 0, 60, .inl OB_amounts))] H := hP
  have hD : va_D A [(a 0, .inr (5, [.ref (a 1), .ref (a 7), .int OC_nights, .int C_netWidth, .int C_shows, .int C_fallen])), (b 0, .inr (5, [.ref (b 1), .ref (b 7), .int OC_nights, .int OC_netWidth, .int OC_shows, .int OC_fallen])), (a 1, .inr (9, [.int w1, .ref (a 2), .ref (a 3), .ref (a 4), .ref (a 5), .ref (a 6)])), (a 2, .inl (Y 0, 6, .inl w2)), (a 3, .inl (Y 0, 6, .inl w3)), (a 4, .inl (Y 0, 6, .inl w4)), (a 5, .inl (Y 0, 6, .inl w5)), (a 6, .inl (Y 0, 6, .inl w6)), (b 1, .inr (9, [.int OT_count, .ref (b 2), .ref (b 3), .ref (b 4), .ref (b 5), .ref (b 6)])), (b 2, .inl (Y 0, 6, .inl OT_weights)), (b 3, .inl (Y 0, 6, .inl OT_strengths)), (b 4, .inl (Y 0, 6, .inl OT_heights)), (b 5, .inl (Y 0, 6, .inl OT_wages)), (b 6, .inl (Y 0, 6, .inl OT_nightsToHeal)), (a 7, .inr (4, [.int w8, .ref (a 8), .ref (a 9), .int w11, .ref (a 10), .ref (a 11), .ref (a 12)])), (a 8, .inl (Y 0, 11, .inl w9)), (a 9, .inl (Y 0, 11, .inl w10)), (a 10, .inl (Y 0, 60, .inl w12)), (a 11, .inl (Y 0, 60, .inl w13)), (a 12, .inl (Y 0, 60, .inl w14)), (b 7, .inr (4, [.int OB_accounts, .ref (b 8), .ref (b 9), .int OB_entries, .ref (b 10), .ref (b 11), .ref (b 12)])), (b 8, .inl (Y 0, 11, .inl OB_balances)), (b 9, .inl (Y 0, 11, .inl OB_balancesAtClosing)), (b 10, .inl (Y 0, 60, .inl OB_debited)), (b 11, .inl (Y 0, 60, .inl OB_credited)), (b 12, .inl (Y 0, 60, .inl OB_amounts))] := hD
  refine lv_aload_n hx hb dX3_copyFrom_30 rfl (lv_at hl 0 rfl) ?_
  refine lv_aload_n hx hb dX3_copyFrom_31 rfl (lv_at hl 1 rfl) ?_
  refine va_get (D := (dC, dI)) (ci := 5) (v := .int OC_netWidth) (C := RX3) (T := TX3) (N := 6) hx hb hts in_X3_copyFrom_X3 hown hK hP 1 rfl rfl 3 (by decide) (hts _ lk_X3_copyFrom_RX3_36) (fun _ h9 => h9) rfl dX3_copyFrom_32 ?_
  refine va_put (D := (dC, dI)) (ci := 5) (v := .int OC_netWidth) (ty := .int) (C := RX3) (T := TX3) (N := 6) hx hb hts in_X3_copyFrom_X3 tyX3 tyX3_ok nmX3 hown hK hP hD hS 0 rfl rfl 3 (by decide) (hts _ lk_X3_copyFrom_RX3_36) (fun _ h9 => h9) rfl (by decide +kernel) rfl rfl (Nat.le_of_ble_eq_true rfl) dX3_copyFrom_35 (fun H locs hP hD hS => ?_)
  have hP : va_P (dC, dI) vwCl [(a 0, .inr (5, [.ref (a 1), .ref (a 7), .int OC_nights, .int OC_netWidth, .int C_shows, .int C_fallen])), (b 0, .inr (5, [.ref (b 1), .ref (b 7), .int OC_nights, .int OC_netWidth, .int OC_shows, .int OC_fallen])), (a 1, .inr (9, [.int w1, .ref (a 2), .ref (a 3), .ref (a 4), .ref (a 5), .ref (a 6)])), (a 2, .inl (Y 0, 6, .inl w2)), (a 3, .inl (Y 0, 6, .inl w3)), (a 4, .inl (Y 0, 6, .inl w4)), (a 5, .inl (Y 0, 6, .inl w5)), (a 6, .inl (Y 0, 6, .inl w6)), (b 1, .inr (9, [.int OT_count, .ref (b 2), .ref (b 3), .ref (b 4), .ref (b 5), .ref (b 6)])), (b 2, .inl (Y 0, 6, .inl OT_weights)), (b 3, .inl (Y 0, 6, .inl OT_strengths)), (b 4, .inl (Y 0, 6, .inl OT_heights)), (b 5, .inl (Y 0, 6, .inl OT_wages)), (b 6, .inl (Y 0, 6, .inl OT_nightsToHeal)), (a 7, .inr (4, [.int w8, .ref (a 8), .ref (a 9), .int w11, .ref (a 10), .ref (a 11), .ref (a 12)])), (a 8, .inl (Y 0, 11, .inl w9)), (a 9, .inl (Y 0, 11, .inl w10)), (a 10, .inl (Y 0, 60, .inl w12)), (a 11, .inl (Y 0, 60, .inl w13)), (a 12, .inl (Y 0, 60, .inl w14)), (b 7, .inr (4, [.int OB_accounts, .ref (b 8), .ref (b 9), .int OB_entries, .ref (b 10), .ref (b 11), .ref (b 12)])), (b 8, .inl (Y 0, 11, .inl OB_balances)), (b 9, .inl (Y 0, 11, .inl OB_balancesAtClosing)), (b 10, .inl (Y 0, 60, .inl OB_debited)), (b 11, .inl (Y 0, 60, .inl OB_credited)), (b 12, .inl (Y 0, 60, .inl OB_amounts))] H := hP
  have hD : va_D A [(a 0, .inr (5, [.ref (a 1), .ref (a 7), .int OC_nights, .int OC_netWidth, .int C_shows, .int C_fallen])), (b 0, .inr (5, [.ref (b 1), .ref (b 7), .int OC_nights, .int OC_netWidth, .int OC_shows, .int OC_fallen])), (a 1, .inr (9, [.int w1, .ref (a 2), .ref (a 3), .ref (a 4), .ref (a 5), .ref (a 6)])), (a 2, .inl (Y 0, 6, .inl w2)), (a 3, .inl (Y 0, 6, .inl w3)), (a 4, .inl (Y 0, 6, .inl w4)), (a 5, .inl (Y 0, 6, .inl w5)), (a 6, .inl (Y 0, 6, .inl w6)), (b 1, .inr (9, [.int OT_count, .ref (b 2), .ref (b 3), .ref (b 4), .ref (b 5), .ref (b 6)])), (b 2, .inl (Y 0, 6, .inl OT_weights)), (b 3, .inl (Y 0, 6, .inl OT_strengths)), (b 4, .inl (Y 0, 6, .inl OT_heights)), (b 5, .inl (Y 0, 6, .inl OT_wages)), (b 6, .inl (Y 0, 6, .inl OT_nightsToHeal)), (a 7, .inr (4, [.int w8, .ref (a 8), .ref (a 9), .int w11, .ref (a 10), .ref (a 11), .ref (a 12)])), (a 8, .inl (Y 0, 11, .inl w9)), (a 9, .inl (Y 0, 11, .inl w10)), (a 10, .inl (Y 0, 60, .inl w12)), (a 11, .inl (Y 0, 60, .inl w13)), (a 12, .inl (Y 0, 60, .inl w14)), (b 7, .inr (4, [.int OB_accounts, .ref (b 8), .ref (b 9), .int OB_entries, .ref (b 10), .ref (b 11), .ref (b 12)])), (b 8, .inl (Y 0, 11, .inl OB_balances)), (b 9, .inl (Y 0, 11, .inl OB_balancesAtClosing)), (b 10, .inl (Y 0, 60, .inl OB_debited)), (b 11, .inl (Y 0, 60, .inl OB_credited)), (b 12, .inl (Y 0, 60, .inl OB_amounts))] := hD
  refine lv_aload_n hx hb dX3_copyFrom_38 rfl (lv_at hl 0 rfl) ?_
  refine lv_aload_n hx hb dX3_copyFrom_39 rfl (lv_at hl 1 rfl) ?_
  refine va_get (D := (dC, dI)) (ci := 5) (v := .int OC_shows) (C := RX3) (T := TX3) (N := 6) hx hb hts in_X3_copyFrom_X3 hown hK hP 1 rfl rfl 4 (by decide) (hts _ lk_X3_copyFrom_RX3_39) (fun _ h9 => h9) rfl dX3_copyFrom_40 ?_
  refine va_put (D := (dC, dI)) (ci := 5) (v := .int OC_shows) (ty := .int) (C := RX3) (T := TX3) (N := 6) hx hb hts in_X3_copyFrom_X3 tyX3 tyX3_ok nmX3 hown hK hP hD hS 0 rfl rfl 4 (by decide) (hts _ lk_X3_copyFrom_RX3_39) (fun _ h9 => h9) rfl (by decide +kernel) rfl rfl (Nat.le_of_ble_eq_true rfl) dX3_copyFrom_43 (fun H locs hP hD hS => ?_)
  have hP : va_P (dC, dI) vwCl [(a 0, .inr (5, [.ref (a 1), .ref (a 7), .int OC_nights, .int OC_netWidth, .int OC_shows, .int C_fallen])), (b 0, .inr (5, [.ref (b 1), .ref (b 7), .int OC_nights, .int OC_netWidth, .int OC_shows, .int OC_fallen])), (a 1, .inr (9, [.int w1, .ref (a 2), .ref (a 3), .ref (a 4), .ref (a 5), .ref (a 6)])), (a 2, .inl (Y 0, 6, .inl w2)), (a 3, .inl (Y 0, 6, .inl w3)), (a 4, .inl (Y 0, 6, .inl w4)), (a 5, .inl (Y 0, 6, .inl w5)), (a 6, .inl (Y 0, 6, .inl w6)), (b 1, .inr (9, [.int OT_count, .ref (b 2), .ref (b 3), .ref (b 4), .ref (b 5), .ref (b 6)])), (b 2, .inl (Y 0, 6, .inl OT_weights)), (b 3, .inl (Y 0, 6, .inl OT_strengths)), (b 4, .inl (Y 0, 6, .inl OT_heights)), (b 5, .inl (Y 0, 6, .inl OT_wages)), (b 6, .inl (Y 0, 6, .inl OT_nightsToHeal)), (a 7, .inr (4, [.int w8, .ref (a 8), .ref (a 9), .int w11, .ref (a 10), .ref (a 11), .ref (a 12)])), (a 8, .inl (Y 0, 11, .inl w9)), (a 9, .inl (Y 0, 11, .inl w10)), (a 10, .inl (Y 0, 60, .inl w12)), (a 11, .inl (Y 0, 60, .inl w13)), (a 12, .inl (Y 0, 60, .inl w14)), (b 7, .inr (4, [.int OB_accounts, .ref (b 8), .ref (b 9), .int OB_entries, .ref (b 10), .ref (b 11), .ref (b 12)])), (b 8, .inl (Y 0, 11, .inl OB_balances)), (b 9, .inl (Y 0, 11, .inl OB_balancesAtClosing)), (b 10, .inl (Y 0, 60, .inl OB_debited)), (b 11, .inl (Y 0, 60, .inl OB_credited)), (b 12, .inl (Y 0, 60, .inl OB_amounts))] H := hP
  have hD : va_D A [(a 0, .inr (5, [.ref (a 1), .ref (a 7), .int OC_nights, .int OC_netWidth, .int OC_shows, .int C_fallen])), (b 0, .inr (5, [.ref (b 1), .ref (b 7), .int OC_nights, .int OC_netWidth, .int OC_shows, .int OC_fallen])), (a 1, .inr (9, [.int w1, .ref (a 2), .ref (a 3), .ref (a 4), .ref (a 5), .ref (a 6)])), (a 2, .inl (Y 0, 6, .inl w2)), (a 3, .inl (Y 0, 6, .inl w3)), (a 4, .inl (Y 0, 6, .inl w4)), (a 5, .inl (Y 0, 6, .inl w5)), (a 6, .inl (Y 0, 6, .inl w6)), (b 1, .inr (9, [.int OT_count, .ref (b 2), .ref (b 3), .ref (b 4), .ref (b 5), .ref (b 6)])), (b 2, .inl (Y 0, 6, .inl OT_weights)), (b 3, .inl (Y 0, 6, .inl OT_strengths)), (b 4, .inl (Y 0, 6, .inl OT_heights)), (b 5, .inl (Y 0, 6, .inl OT_wages)), (b 6, .inl (Y 0, 6, .inl OT_nightsToHeal)), (a 7, .inr (4, [.int w8, .ref (a 8), .ref (a 9), .int w11, .ref (a 10), .ref (a 11), .ref (a 12)])), (a 8, .inl (Y 0, 11, .inl w9)), (a 9, .inl (Y 0, 11, .inl w10)), (a 10, .inl (Y 0, 60, .inl w12)), (a 11, .inl (Y 0, 60, .inl w13)), (a 12, .inl (Y 0, 60, .inl w14)), (b 7, .inr (4, [.int OB_accounts, .ref (b 8), .ref (b 9), .int OB_entries, .ref (b 10), .ref (b 11), .ref (b 12)])), (b 8, .inl (Y 0, 11, .inl OB_balances)), (b 9, .inl (Y 0, 11, .inl OB_balancesAtClosing)), (b 10, .inl (Y 0, 60, .inl OB_debited)), (b 11, .inl (Y 0, 60, .inl OB_credited)), (b 12, .inl (Y 0, 60, .inl OB_amounts))] := hD
  refine lv_aload_n hx hb dX3_copyFrom_46 rfl (lv_at hl 0 rfl) ?_
  refine lv_aload_n hx hb dX3_copyFrom_47 rfl (lv_at hl 1 rfl) ?_
  refine va_get (D := (dC, dI)) (ci := 5) (v := .int OC_fallen) (C := RX3) (T := TX3) (N := 6) hx hb hts in_X3_copyFrom_X3 hown hK hP 1 rfl rfl 5 (by decide) (hts _ lk_X3_copyFrom_RX3_42) (fun _ h9 => h9) rfl dX3_copyFrom_48 ?_
  refine va_put (D := (dC, dI)) (ci := 5) (v := .int OC_fallen) (ty := .int) (C := RX3) (T := TX3) (N := 6) hx hb hts in_X3_copyFrom_X3 tyX3 tyX3_ok nmX3 hown hK hP hD hS 0 rfl rfl 5 (by decide) (hts _ lk_X3_copyFrom_RX3_42) (fun _ h9 => h9) rfl (by decide +kernel) rfl rfl (Nat.le_of_ble_eq_true rfl) dX3_copyFrom_51 (fun H locs hP hD hS => ?_)
  have hP : va_P (dC, dI) vwCl [(a 0, .inr (5, [.ref (a 1), .ref (a 7), .int OC_nights, .int OC_netWidth, .int OC_shows, .int OC_fallen])), (b 0, .inr (5, [.ref (b 1), .ref (b 7), .int OC_nights, .int OC_netWidth, .int OC_shows, .int OC_fallen])), (a 1, .inr (9, [.int w1, .ref (a 2), .ref (a 3), .ref (a 4), .ref (a 5), .ref (a 6)])), (a 2, .inl (Y 0, 6, .inl w2)), (a 3, .inl (Y 0, 6, .inl w3)), (a 4, .inl (Y 0, 6, .inl w4)), (a 5, .inl (Y 0, 6, .inl w5)), (a 6, .inl (Y 0, 6, .inl w6)), (b 1, .inr (9, [.int OT_count, .ref (b 2), .ref (b 3), .ref (b 4), .ref (b 5), .ref (b 6)])), (b 2, .inl (Y 0, 6, .inl OT_weights)), (b 3, .inl (Y 0, 6, .inl OT_strengths)), (b 4, .inl (Y 0, 6, .inl OT_heights)), (b 5, .inl (Y 0, 6, .inl OT_wages)), (b 6, .inl (Y 0, 6, .inl OT_nightsToHeal)), (a 7, .inr (4, [.int w8, .ref (a 8), .ref (a 9), .int w11, .ref (a 10), .ref (a 11), .ref (a 12)])), (a 8, .inl (Y 0, 11, .inl w9)), (a 9, .inl (Y 0, 11, .inl w10)), (a 10, .inl (Y 0, 60, .inl w12)), (a 11, .inl (Y 0, 60, .inl w13)), (a 12, .inl (Y 0, 60, .inl w14)), (b 7, .inr (4, [.int OB_accounts, .ref (b 8), .ref (b 9), .int OB_entries, .ref (b 10), .ref (b 11), .ref (b 12)])), (b 8, .inl (Y 0, 11, .inl OB_balances)), (b 9, .inl (Y 0, 11, .inl OB_balancesAtClosing)), (b 10, .inl (Y 0, 60, .inl OB_debited)), (b 11, .inl (Y 0, 60, .inl OB_credited)), (b 12, .inl (Y 0, 60, .inl OB_amounts))] H := hP
  have hD : va_D A [(a 0, .inr (5, [.ref (a 1), .ref (a 7), .int OC_nights, .int OC_netWidth, .int OC_shows, .int OC_fallen])), (b 0, .inr (5, [.ref (b 1), .ref (b 7), .int OC_nights, .int OC_netWidth, .int OC_shows, .int OC_fallen])), (a 1, .inr (9, [.int w1, .ref (a 2), .ref (a 3), .ref (a 4), .ref (a 5), .ref (a 6)])), (a 2, .inl (Y 0, 6, .inl w2)), (a 3, .inl (Y 0, 6, .inl w3)), (a 4, .inl (Y 0, 6, .inl w4)), (a 5, .inl (Y 0, 6, .inl w5)), (a 6, .inl (Y 0, 6, .inl w6)), (b 1, .inr (9, [.int OT_count, .ref (b 2), .ref (b 3), .ref (b 4), .ref (b 5), .ref (b 6)])), (b 2, .inl (Y 0, 6, .inl OT_weights)), (b 3, .inl (Y 0, 6, .inl OT_strengths)), (b 4, .inl (Y 0, 6, .inl OT_heights)), (b 5, .inl (Y 0, 6, .inl OT_wages)), (b 6, .inl (Y 0, 6, .inl OT_nightsToHeal)), (a 7, .inr (4, [.int w8, .ref (a 8), .ref (a 9), .int w11, .ref (a 10), .ref (a 11), .ref (a 12)])), (a 8, .inl (Y 0, 11, .inl w9)), (a 9, .inl (Y 0, 11, .inl w10)), (a 10, .inl (Y 0, 60, .inl w12)), (a 11, .inl (Y 0, 60, .inl w13)), (a 12, .inl (Y 0, 60, .inl w14)), (b 7, .inr (4, [.int OB_accounts, .ref (b 8), .ref (b 9), .int OB_entries, .ref (b 10), .ref (b 11), .ref (b 12)])), (b 8, .inl (Y 0, 11, .inl OB_balances)), (b 9, .inl (Y 0, 11, .inl OB_balancesAtClosing)), (b 10, .inl (Y 0, 60, .inl OB_debited)), (b 11, .inl (Y 0, 60, .inl OB_credited)), (b 12, .inl (Y 0, 60, .inl OB_amounts))] := hD
  obtain ⟨e0, e1, e2, e3, e4, e5, e6, e7, e8, e9, e10, e11, e12, e13, e14, e15, e16⟩ := wke17 hf
  subst e0
  subst e1
  subst e2
  subst e3
  subst e4
  subst e5
  subst e6
  subst e7
  subst e8
  subst e9
  subst e10
  subst e11
  subst e12
  subst e13
  subst e14
  subst e15
  subst e16
  have hP9 := hP.sub (ws' := ((wX3 Y a w1 w2 w3 w4 w5 w6 w8 w9 w10 w11 w12 w13 w14 OC_nights OC_netWidth OC_shows OC_fallen) ++ (wX3 Y b OT_count OT_weights OT_strengths OT_heights OT_wages OT_nightsToHeal OB_accounts OB_balances OB_balancesAtClosing OB_entries OB_debited OB_credited OB_amounts OC_nights OC_netWidth OC_shows OC_fallen))) [0, 2, 3, 4, 5, 6, 7, 14, 15, 16, 17, 18, 19, 1, 8, 9, 10, 11, 12, 13, 20, 21, 22, 23, 24, 25] rfl
  have hD9 := hD.sub (ws' := ((wX3 Y a w1 w2 w3 w4 w5 w6 w8 w9 w10 w11 w12 w13 w14 OC_nights OC_netWidth OC_shows OC_fallen) ++ (wX3 Y b OT_count OT_weights OT_strengths OT_heights OT_wages OT_nightsToHeal OB_accounts OB_balances OB_balancesAtClosing OB_entries OB_debited OB_credited OB_amounts OC_nights OC_netWidth OC_shows OC_fallen))) [0, 2, 3, 4, 5, 6, 7, 14, 15, 16, 17, 18, 19, 1, 8, 9, 10, 11, 12, 13, 20, 21, 22, 23, 24, 25] (by decide) rfl
  exact W.vret hx hb hr (fun t ht hW => ⟨⟨(), rfl, trivial, by rw [ht]; exact hP9, va_K.moved hW.alike hK, hD9⟩, hS.F ht⟩) hS.2.2 dX3_copyFrom_54
theorem lk_X3_fromReserve_RX3_21 : Cond.fieldLink RX3 21 "CircusLedger$Circus" "books" "LCircusLedger$Books;" ∈ wsX3_fromReserve := by decide +kernel
theorem lk_X3_fromReserve_RX3_97 : Cond.fieldLink RX3 97 "CircusLedger$Books" "balances" "[I" ∈ wsX3_fromReserve := by decide +kernel
theorem mx_X3_fromReserve_RX3_161 : Cond.methodLink RX3 161 Lib.Math.min.name ∈ wsX3_fromReserve ∧ Cond.static Lib.Math.min.name ∈ wsX3_fromReserve ∧ Cond.initialized "java/lang/Math" ∈ wsX3_fromReserve ∧ Cond.code Lib.Math.min.name Lib.Math.min.code 2 (some .int) ∈ wsX3_fromReserve := ⟨by decide +kernel, by decide +kernel, by decide +kernel, by decide +kernel⟩
theorem in_X3_fromReserve_X2 : ∀ w ∈ u_ws RX2 TX2 7, w ∈ wsX3_fromReserve := by decide +kernel
theorem in_X3_fromReserve_X3 : ∀ w ∈ u_ws RX3 TX3 6, w ∈ wsX3_fromReserve := by decide +kernel
def f_X3_fromReserve (B_balances : Nat → Int32) (x1 : Int32) : Option (Int32) :=
  some ((if (B_balances 1) < x1 then (B_balances 1) else x1))
set_option maxHeartbeats 4000000 in
set_option maxRecDepth 100000 in
theorem c_X3_fromReserve (l : Launch) (dC : Nat → ClassId) (dI : Nat → Nat → Nat) (Y : Nat → ClassId) (a : Nat → Nat) (T_count : Int32) (T_weights : Nat → Int32) (T_strengths : Nat → Int32) (T_heights : Nat → Int32) (T_wages : Nat → Int32) (T_nightsToHeal : Nat → Int32) (B_accounts : Int32) (B_balances : Nat → Int32) (B_balancesAtClosing : Nat → Int32) (B_entries : Int32) (B_debited : Nat → Int32) (B_credited : Nat → Int32) (B_amounts : Nat → Int32) (C_nights : Int32) (C_netWidth : Int32) (C_shows : Int32) (C_fallen : Int32) (x1 : Int32) (r : Int32) (hf : f_X3_fromReserve B_balances x1 = some (r)) : Met l yX3_fromReserve wsX3_fromReserve ({ frames := 1, cells := 0, slots := 0, locals := 21 } : Room) (va_Pc [.ref (a 0), .int x1] (wk_B (dC, dI) Y (wX3 Y a T_count T_weights T_strengths T_heights T_wages T_nightsToHeal B_accounts B_balances B_balancesAtClosing B_entries B_debited B_credited B_amounts C_nights C_netWidth C_shows C_fallen))) (vp_Si (fun r2 => r2 = r)) 0 0 (fun _ => False) := by
  refine Met.ofW (cc := cX3_fromReserve) (maxL := 2) (ret := (some .int)) (by decide) rfl ?_
  intro p e s m args below meth c s₁ B hml hv
  obtain ⟨rfl, hP, hK⟩ := hv
  have hx := B.exec
  have hb := B.bytes
  have hr := B.returns
  have hts := atoms_spec (ws := wsX3_fromReserve) B.pre
  have hown : s.vm.findClass RX3 = some m.cls := findClass_of_methodNamed B.named
  have hlocks := B.notSynchronized
  have C0 : wk_C p s m _ meth c cX3_fromReserve 2 (some .int) wsX3_fromReserve RX3 := ⟨hx, hb, hml, hr, hlocks, hown, hts⟩
  have hP : va_P (dC, dI) vwCl [(a 0, .inr (5, [.ref (a 1), .ref (a 7), .int C_nights, .int C_netWidth, .int C_shows, .int C_fallen])), (a 1, .inr (9, [.int T_count, .ref (a 2), .ref (a 3), .ref (a 4), .ref (a 5), .ref (a 6)])), (a 2, .inl (Y 0, 6, .inl T_weights)), (a 3, .inl (Y 0, 6, .inl T_strengths)), (a 4, .inl (Y 0, 6, .inl T_heights)), (a 5, .inl (Y 0, 6, .inl T_wages)), (a 6, .inl (Y 0, 6, .inl T_nightsToHeal)), (a 7, .inr (4, [.int B_accounts, .ref (a 8), .ref (a 9), .int B_entries, .ref (a 10), .ref (a 11), .ref (a 12)])), (a 8, .inl (Y 0, 11, .inl B_balances)), (a 9, .inl (Y 0, 11, .inl B_balancesAtClosing)), (a 10, .inl (Y 0, 60, .inl B_debited)), (a 11, .inl (Y 0, 60, .inl B_credited)), (a 12, .inl (Y 0, 60, .inl B_amounts))] s.heap := hP
  have hl := lv_entry ([.ref (a 0), .int x1]) (n := 2) (Nat.le_of_ble_eq_true rfl)
  rw [lg_entry_eq]
  generalize (lg_sl ([.ref (a 0), .int x1]) ++ List.replicate (2 - (lg_sl ([.ref (a 0), .int x1])).length) Slot.unset).toArray = ls at hl ⊢
  have hl : lv_has ls 2 [(0, .ref (a 0)), (1, .int x1)] := hl
  rw [f_X3_fromReserve] at hf
  refine lv_iload_n hx hb dX3_fromReserve_0 rfl (lv_at hl 1 rfl) ?_
  refine lv_aload_n hx hb dX3_fromReserve_1 rfl (lv_at hl 0 rfl) ?_
  refine va_get (D := (dC, dI)) (ci := 5) (v := .ref (a 7)) (C := RX3) (T := TX3) (N := 6) hx hb hts in_X3_fromReserve_X3 hown hK hP 0 rfl rfl 1 (by decide) (hts _ lk_X3_fromReserve_RX3_21) (fun _ h9 => h9) rfl dX3_fromReserve_2 ?_
  refine va_get (D := (dC, dI)) (ci := 4) (v := .ref (a 8)) (C := RX2) (T := TX2) (N := 7) hx hb hts in_X3_fromReserve_X2 hown hK hP 7 rfl rfl 1 (by decide) (hts _ lk_X3_fromReserve_RX3_97) (fun _ h9 => h9) rfl dX3_fromReserve_5 ?_
  refine lv_iconst (v := 1) hx hb dX3_fromReserve_8 (by decide) ?_
  refine wk_iald hx hb hK hP 8 0 (k := 1) rfl rfl (vp_lit (by decide)) (by decide) dX3_fromReserve_9 ?_
  refine va_mmin hx hb (hml.trans hl.1.symm) hown (hts _ mx_X3_fromReserve_RX3_161.1) (hts _ mx_X3_fromReserve_RX3_161.2.1) (hts _ mx_X3_fromReserve_RX3_161.2.2.1) (hts _ mx_X3_fromReserve_RX3_161.2.2.2) (Nat.le_of_ble_eq_true rfl) (Nat.le_of_ble_eq_true rfl) (Nat.le_of_ble_eq_true rfl) (Nat.le_of_ble_eq_true rfl) dX3_fromReserve_10 ?_
  have e0 := wke1 hf
  subst e0
  exact W.iret (v := (if (B_balances 1) < x1 then (B_balances 1) else x1)) hx hb hr (fun t ht hW => ⟨(if (B_balances 1) < x1 then (B_balances 1) else x1), rfl, rfl, ht⟩) (fun q h => absurd h List.not_mem_nil) dX3_fromReserve_13
theorem lk_X3_fromCash_RX3_21 : Cond.fieldLink RX3 21 "CircusLedger$Circus" "books" "LCircusLedger$Books;" ∈ wsX3_fromCash := by decide +kernel
theorem lk_X3_fromCash_RX3_97 : Cond.fieldLink RX3 97 "CircusLedger$Books" "balances" "[I" ∈ wsX3_fromCash := by decide +kernel
theorem mx_X3_fromCash_RX3_161 : Cond.methodLink RX3 161 Lib.Math.min.name ∈ wsX3_fromCash ∧ Cond.static Lib.Math.min.name ∈ wsX3_fromCash ∧ Cond.initialized "java/lang/Math" ∈ wsX3_fromCash ∧ Cond.code Lib.Math.min.name Lib.Math.min.code 2 (some .int) ∈ wsX3_fromCash := ⟨by decide +kernel, by decide +kernel, by decide +kernel, by decide +kernel⟩
theorem in_X3_fromCash_X2 : ∀ w ∈ u_ws RX2 TX2 7, w ∈ wsX3_fromCash := by decide +kernel
theorem in_X3_fromCash_X3 : ∀ w ∈ u_ws RX3 TX3 6, w ∈ wsX3_fromCash := by decide +kernel
def f_X3_fromCash (B_balances : Nat → Int32) (x1 : Int32) : Option (Int32) :=
  wkb1 (f_X3_fromReserve B_balances x1) (fun r1 =>
  some ((if (B_balances 0) < (x1 - r1) then (B_balances 0) else (x1 - r1))))
set_option maxHeartbeats 4000000 in
set_option maxRecDepth 100000 in
theorem c_X3_fromCash (l : Launch) (dC : Nat → ClassId) (dI : Nat → Nat → Nat) (Y : Nat → ClassId) (a : Nat → Nat) (T_count : Int32) (T_weights : Nat → Int32) (T_strengths : Nat → Int32) (T_heights : Nat → Int32) (T_wages : Nat → Int32) (T_nightsToHeal : Nat → Int32) (B_accounts : Int32) (B_balances : Nat → Int32) (B_balancesAtClosing : Nat → Int32) (B_entries : Int32) (B_debited : Nat → Int32) (B_credited : Nat → Int32) (B_amounts : Nat → Int32) (C_nights : Int32) (C_netWidth : Int32) (C_shows : Int32) (C_fallen : Int32) (x1 : Int32) (r : Int32) (hf : f_X3_fromCash B_balances x1 = some (r)) : Met l yX3_fromCash wsX3_fromCash ({ frames := 2, cells := 0, slots := 0, locals := 42 } : Room) (va_Pc [.ref (a 0), .int x1] (wk_B (dC, dI) Y (wX3 Y a T_count T_weights T_strengths T_heights T_wages T_nightsToHeal B_accounts B_balances B_balancesAtClosing B_entries B_debited B_credited B_amounts C_nights C_netWidth C_shows C_fallen))) (vp_Si (fun r2 => r2 = r)) 0 0 (fun _ => False) := by
  refine Met.ofW (cc := cX3_fromCash) (maxL := 2) (ret := (some .int)) (by decide) rfl ?_
  intro p e s m args below meth c s₁ B hml hv
  obtain ⟨rfl, hP, hK⟩ := hv
  have hx := B.exec
  have hb := B.bytes
  have hr := B.returns
  have hts := atoms_spec (ws := wsX3_fromCash) B.pre
  have hown : s.vm.findClass RX3 = some m.cls := findClass_of_methodNamed B.named
  have hlocks := B.notSynchronized
  have C0 : wk_C p s m _ meth c cX3_fromCash 2 (some .int) wsX3_fromCash RX3 := ⟨hx, hb, hml, hr, hlocks, hown, hts⟩
  have hP : va_P (dC, dI) vwCl [(a 0, .inr (5, [.ref (a 1), .ref (a 7), .int C_nights, .int C_netWidth, .int C_shows, .int C_fallen])), (a 1, .inr (9, [.int T_count, .ref (a 2), .ref (a 3), .ref (a 4), .ref (a 5), .ref (a 6)])), (a 2, .inl (Y 0, 6, .inl T_weights)), (a 3, .inl (Y 0, 6, .inl T_strengths)), (a 4, .inl (Y 0, 6, .inl T_heights)), (a 5, .inl (Y 0, 6, .inl T_wages)), (a 6, .inl (Y 0, 6, .inl T_nightsToHeal)), (a 7, .inr (4, [.int B_accounts, .ref (a 8), .ref (a 9), .int B_entries, .ref (a 10), .ref (a 11), .ref (a 12)])), (a 8, .inl (Y 0, 11, .inl B_balances)), (a 9, .inl (Y 0, 11, .inl B_balancesAtClosing)), (a 10, .inl (Y 0, 60, .inl B_debited)), (a 11, .inl (Y 0, 60, .inl B_credited)), (a 12, .inl (Y 0, 60, .inl B_amounts))] s.heap := hP
  have hl := lv_entry ([.ref (a 0), .int x1]) (n := 2) (Nat.le_of_ble_eq_true rfl)
  rw [lg_entry_eq]
  generalize (lg_sl ([.ref (a 0), .int x1]) ++ List.replicate (2 - (lg_sl ([.ref (a 0), .int x1])).length) Slot.unset).toArray = ls at hl ⊢
  have hl : lv_has ls 2 [(0, .ref (a 0)), (1, .int x1)] := hl
  rw [f_X3_fromCash] at hf
  refine lv_iload_n hx hb dX3_fromCash_0 rfl (lv_at hl 1 rfl) ?_
  refine lv_aload_n hx hb dX3_fromCash_1 rfl (lv_at hl 0 rfl) ?_
  refine lv_iload_n hx hb dX3_fromCash_2 rfl (lv_at hl 1 rfl) ?_
  obtain ⟨r1, hr2, hf⟩ := wkb1_s hf
  have hPc := hP.sub (ws' := (wX3 Y a T_count T_weights T_strengths T_heights T_wages T_nightsToHeal B_accounts B_balances B_balancesAtClosing B_entries B_debited B_credited B_amounts C_nights C_netWidth C_shows C_fallen)) [0, 1, 2, 3, 4, 5, 6, 7, 8, 9, 10, 11, 12] rfl
  refine wk_vi (As := [.int x1]) (rest := [.int x1]) ⟨hx, hb, hml, hown, hts⟩ (c_X3_fromReserve l dC dI Y a T_count T_weights T_strengths T_heights T_wages T_nightsToHeal B_accounts B_balances B_balancesAtClosing B_entries B_debited B_credited B_amounts C_nights C_netWidth C_shows C_fallen x1 r1 hr2) (cwV 1 hts gX3_fromCash_X3_fromReserve rfl rfl rfl (by decide +kernel) ⟨Nat.le_of_ble_eq_true rfl, Nat.le_of_ble_eq_true rfl⟩) hK hPc (va_recv hK hP (ci := 5) (q0 := 0) rfl rfl) rfl hl.1 rfl (Nat.le_of_ble_eq_true rfl) dX3_fromCash_3 ⟨Nat.le_of_ble_eq_true rfl, Nat.le_of_ble_eq_true rfl⟩ ?_
  refine lv_isub hx hb dX3_fromCash_6 ?_
  refine lv_aload_n hx hb dX3_fromCash_7 rfl (lv_at hl 0 rfl) ?_
  refine va_get (D := (dC, dI)) (ci := 5) (v := .ref (a 7)) (C := RX3) (T := TX3) (N := 6) hx hb hts in_X3_fromCash_X3 hown hK hP 0 rfl rfl 1 (by decide) (hts _ lk_X3_fromCash_RX3_21) (fun _ h9 => h9) rfl dX3_fromCash_8 ?_
  refine va_get (D := (dC, dI)) (ci := 4) (v := .ref (a 8)) (C := RX2) (T := TX2) (N := 7) hx hb hts in_X3_fromCash_X2 hown hK hP 7 rfl rfl 1 (by decide) (hts _ lk_X3_fromCash_RX3_97) (fun _ h9 => h9) rfl dX3_fromCash_11 ?_
  refine lv_iconst (v := 0) hx hb dX3_fromCash_14 (by decide) ?_
  refine wk_iald hx hb hK hP 8 0 (k := 0) rfl rfl (vp_lit (by decide)) (by decide) dX3_fromCash_15 ?_
  refine va_mmin hx hb (hml.trans hl.1.symm) hown (hts _ mx_X3_fromCash_RX3_161.1) (hts _ mx_X3_fromCash_RX3_161.2.1) (hts _ mx_X3_fromCash_RX3_161.2.2.1) (hts _ mx_X3_fromCash_RX3_161.2.2.2) (Nat.le_of_ble_eq_true rfl) (Nat.le_of_ble_eq_true rfl) (Nat.le_of_ble_eq_true rfl) (Nat.le_of_ble_eq_true rfl) dX3_fromCash_16 ?_
  have e0 := wke1 hf
  subst e0
  exact W.iret (v := (if (B_balances 0) < (x1 - r1) then (B_balances 0) else (x1 - r1))) hx hb hr (fun t ht hW => ⟨(if (B_balances 0) < (x1 - r1) then (B_balances 0) else (x1 - r1)), rfl, rfl, ht⟩) (fun q h => absurd h List.not_mem_nil) dX3_fromCash_19
def f_X3_entriesOfShow (B_balances : Nat → Int32) (x1 : Int32) (x2 : Int32) : Option (Int32) :=
  if x2 = 0 then
    (wkb1 (f_J6_bitCount_0f7a4 x1) (fun r11 =>
    some ((1 + r11))))
  else
    (wkb1 (f_X3_fromReserve B_balances x2) (fun r2 =>
    if r2 ≤ 0 then
      (wkb1 (f_X3_fromCash B_balances x2) (fun r5 =>
      if r5 ≤ 0 then
        (some ((0 + 0)))
      else
        (some ((0 + 1)))))
    else
      (wkb1 (f_X3_fromCash B_balances x2) (fun r8 =>
      if r8 ≤ 0 then
        (some ((1 + 0)))
      else
        (some ((1 + 1)))))))
set_option maxHeartbeats 4000000 in
set_option maxRecDepth 100000 in
theorem c_X3_entriesOfShow (l : Launch) (dC : Nat → ClassId) (dI : Nat → Nat → Nat) (Y : Nat → ClassId) (a : Nat → Nat) (T_count : Int32) (T_weights : Nat → Int32) (T_strengths : Nat → Int32) (T_heights : Nat → Int32) (T_wages : Nat → Int32) (T_nightsToHeal : Nat → Int32) (B_accounts : Int32) (B_balances : Nat → Int32) (B_balancesAtClosing : Nat → Int32) (B_entries : Int32) (B_debited : Nat → Int32) (B_credited : Nat → Int32) (B_amounts : Nat → Int32) (C_nights : Int32) (C_netWidth : Int32) (C_shows : Int32) (C_fallen : Int32) (x1 : Int32) (x2 : Int32) (r : Int32) (hf : f_X3_entriesOfShow B_balances x1 x2 = some (r)) : Met l yX3_entriesOfShow wsX3_entriesOfShow ({ frames := 3, cells := 0, slots := 0, locals := 63 } : Room) (va_Pc [.ref (a 0), .int x1, .int x2] (wk_B (dC, dI) Y (wX3 Y a T_count T_weights T_strengths T_heights T_wages T_nightsToHeal B_accounts B_balances B_balancesAtClosing B_entries B_debited B_credited B_amounts C_nights C_netWidth C_shows C_fallen))) (vp_Si (fun r2 => r2 = r)) 0 0 (fun _ => False) := by
  refine Met.ofW (cc := cX3_entriesOfShow) (maxL := 3) (ret := (some .int)) (by decide) rfl ?_
  intro p e s m args below meth c s₁ B hml hv
  obtain ⟨rfl, hP, hK⟩ := hv
  have hx := B.exec
  have hb := B.bytes
  have hr := B.returns
  have hts := atoms_spec (ws := wsX3_entriesOfShow) B.pre
  have hown : s.vm.findClass RX3 = some m.cls := findClass_of_methodNamed B.named
  have hlocks := B.notSynchronized
  have C0 : wk_C p s m _ meth c cX3_entriesOfShow 3 (some .int) wsX3_entriesOfShow RX3 := ⟨hx, hb, hml, hr, hlocks, hown, hts⟩
  have hP : va_P (dC, dI) vwCl [(a 0, .inr (5, [.ref (a 1), .ref (a 7), .int C_nights, .int C_netWidth, .int C_shows, .int C_fallen])), (a 1, .inr (9, [.int T_count, .ref (a 2), .ref (a 3), .ref (a 4), .ref (a 5), .ref (a 6)])), (a 2, .inl (Y 0, 6, .inl T_weights)), (a 3, .inl (Y 0, 6, .inl T_strengths)), (a 4, .inl (Y 0, 6, .inl T_heights)), (a 5, .inl (Y 0, 6, .inl T_wages)), (a 6, .inl (Y 0, 6, .inl T_nightsToHeal)), (a 7, .inr (4, [.int B_accounts, .ref (a 8), .ref (a 9), .int B_entries, .ref (a 10), .ref (a 11), .ref (a 12)])), (a 8, .inl (Y 0, 11, .inl B_balances)), (a 9, .inl (Y 0, 11, .inl B_balancesAtClosing)), (a 10, .inl (Y 0, 60, .inl B_debited)), (a 11, .inl (Y 0, 60, .inl B_credited)), (a 12, .inl (Y 0, 60, .inl B_amounts))] s.heap := hP
  have hl := lv_entry ([.ref (a 0), .int x1, .int x2]) (n := 3) (Nat.le_of_ble_eq_true rfl)
  rw [lg_entry_eq]
  generalize (lg_sl ([.ref (a 0), .int x1, .int x2]) ++ List.replicate (3 - (lg_sl ([.ref (a 0), .int x1, .int x2])).length) Slot.unset).toArray = ls at hl ⊢
  have hl : lv_has ls 3 [(0, .ref (a 0)), (1, .int x1), (2, .int x2)] := hl
  rw [f_X3_entriesOfShow] at hf
  refine lv_iload_n hx hb dX3_entriesOfShow_0 rfl (lv_at hl 2 rfl) ?_
  refine lv_if_ne (tgt := 11) hx hb dX3_entriesOfShow_1 (by decide) (fun q1 => ?_) (fun q1 => ?_)
  · have hf := wk_f hf q1
    refine lv_aload_n hx hb dX3_entriesOfShow_11 rfl (lv_at hl 0 rfl) ?_
    refine lv_iload_n hx hb dX3_entriesOfShow_12 rfl (lv_at hl 2 rfl) ?_
    obtain ⟨r2, hr3, hf⟩ := wkb1_s hf
    have hPc := hP.sub (ws' := (wX3 Y a T_count T_weights T_strengths T_heights T_wages T_nightsToHeal B_accounts B_balances B_balancesAtClosing B_entries B_debited B_credited B_amounts C_nights C_netWidth C_shows C_fallen)) [0, 1, 2, 3, 4, 5, 6, 7, 8, 9, 10, 11, 12] rfl
    refine wk_vi (As := [.int x2]) (rest := []) ⟨hx, hb, hml, hown, hts⟩ (c_X3_fromReserve l dC dI Y a T_count T_weights T_strengths T_heights T_wages T_nightsToHeal B_accounts B_balances B_balancesAtClosing B_entries B_debited B_credited B_amounts C_nights C_netWidth C_shows C_fallen x2 r2 hr3) (cwV 1 hts gX3_entriesOfShow_X3_fromReserve rfl rfl rfl (by decide +kernel) ⟨Nat.le_of_ble_eq_true rfl, Nat.le_of_ble_eq_true rfl⟩) hK hPc (va_recv hK hP (ci := 5) (q0 := 0) rfl rfl) rfl hl.1 rfl (Nat.le_of_ble_eq_true rfl) dX3_entriesOfShow_13 ⟨Nat.le_of_ble_eq_true rfl, Nat.le_of_ble_eq_true rfl⟩ ?_
    refine lv_if_le (tgt := 23) hx hb dX3_entriesOfShow_16 (by decide) (fun q4 => ?_) (fun q4 => ?_)
    · have hf := wk_t hf q4
      refine lv_iconst (v := 0) hx hb dX3_entriesOfShow_23 (by decide) ?_
      refine lv_aload_n hx hb dX3_entriesOfShow_24 rfl (lv_at hl 0 rfl) ?_
      refine lv_iload_n hx hb dX3_entriesOfShow_25 rfl (lv_at hl 2 rfl) ?_
      obtain ⟨r5, hr6, hf⟩ := wkb1_s hf
      have hPc := hP.sub (ws' := (wX3 Y a T_count T_weights T_strengths T_heights T_wages T_nightsToHeal B_accounts B_balances B_balancesAtClosing B_entries B_debited B_credited B_amounts C_nights C_netWidth C_shows C_fallen)) [0, 1, 2, 3, 4, 5, 6, 7, 8, 9, 10, 11, 12] rfl
      refine wk_vi (As := [.int x2]) (rest := [.int 0]) ⟨hx, hb, hml, hown, hts⟩ (c_X3_fromCash l dC dI Y a T_count T_weights T_strengths T_heights T_wages T_nightsToHeal B_accounts B_balances B_balancesAtClosing B_entries B_debited B_credited B_amounts C_nights C_netWidth C_shows C_fallen x2 r5 hr6) (cwV 1 hts gX3_entriesOfShow_X3_fromCash rfl rfl rfl (by decide +kernel) ⟨Nat.le_of_ble_eq_true rfl, Nat.le_of_ble_eq_true rfl⟩) hK hPc (va_recv hK hP (ci := 5) (q0 := 0) rfl rfl) rfl hl.1 rfl (Nat.le_of_ble_eq_true rfl) dX3_entriesOfShow_26 ⟨Nat.le_of_ble_eq_true rfl, Nat.le_of_ble_eq_true rfl⟩ ?_
      refine lv_if_le (tgt := 36) hx hb dX3_entriesOfShow_29 (by decide) (fun q7 => ?_) (fun q7 => ?_)
      · have hf := wk_t hf q7
        refine lv_iconst (v := 0) hx hb dX3_entriesOfShow_36 (by decide) ?_
        refine lv_iadd hx hb dX3_entriesOfShow_37 ?_
        have e0 := wke1 hf
        subst e0
        exact W.iret (v := (0 + 0)) hx hb hr (fun t ht hW => ⟨(0 + 0), rfl, rfl, ht⟩) (fun q h => absurd h List.not_mem_nil) dX3_entriesOfShow_38
      · have hf := wk_f hf q7
        refine lv_iconst (v := 1) hx hb dX3_entriesOfShow_32 (by decide) ?_
        refine lv_goto (tgt := 37) hx hb dX3_entriesOfShow_33 (by decide) ?_
        refine lv_iadd hx hb dX3_entriesOfShow_37 ?_
        have e0 := wke1 hf
        subst e0
        exact W.iret (v := (0 + 1)) hx hb hr (fun t ht hW => ⟨(0 + 1), rfl, rfl, ht⟩) (fun q h => absurd h List.not_mem_nil) dX3_entriesOfShow_38
    · have hf := wk_f hf q4
      refine lv_iconst (v := 1) hx hb dX3_entriesOfShow_19 (by decide) ?_
      refine lv_goto (tgt := 24) hx hb dX3_entriesOfShow_20 (by decide) ?_
      refine lv_aload_n hx hb dX3_entriesOfShow_24 rfl (lv_at hl 0 rfl) ?_
      refine lv_iload_n hx hb dX3_entriesOfShow_25 rfl (lv_at hl 2 rfl) ?_
      obtain ⟨r8, hr9, hf⟩ := wkb1_s hf
      have hPc := hP.sub (ws' := (wX3 Y a T_count T_weights T_strengths T_heights T_wages T_nightsToHeal B_accounts B_balances B_balancesAtClosing B_entries B_debited B_credited B_amounts C_nights C_netWidth C_shows C_fallen)) [0, 1, 2, 3, 4, 5, 6, 7, 8, 9, 10, 11, 12] rfl
      refine wk_vi (As := [.int x2]) (rest := [.int 1]) ⟨hx, hb, hml, hown, hts⟩ (c_X3_fromCash l dC dI Y a T_count T_weights T_strengths T_heights T_wages T_nightsToHeal B_accounts B_balances B_balancesAtClosing B_entries B_debited B_credited B_amounts C_nights C_netWidth C_shows C_fallen x2 r8 hr9) (cwV 1 hts gX3_entriesOfShow_X3_fromCash rfl rfl rfl (by decide +kernel) ⟨Nat.le_of_ble_eq_true rfl, Nat.le_of_ble_eq_true rfl⟩) hK hPc (va_recv hK hP (ci := 5) (q0 := 0) rfl rfl) rfl hl.1 rfl (Nat.le_of_ble_eq_true rfl) dX3_entriesOfShow_26 ⟨Nat.le_of_ble_eq_true rfl, Nat.le_of_ble_eq_true rfl⟩ ?_
      refine lv_if_le (tgt := 36) hx hb dX3_entriesOfShow_29 (by decide) (fun q10 => ?_) (fun q10 => ?_)
      · have hf := wk_t hf q10
        refine lv_iconst (v := 0) hx hb dX3_entriesOfShow_36 (by decide) ?_
        refine lv_iadd hx hb dX3_entriesOfShow_37 ?_
        have e0 := wke1 hf
        subst e0
        exact W.iret (v := (1 + 0)) hx hb hr (fun t ht hW => ⟨(1 + 0), rfl, rfl, ht⟩) (fun q h => absurd h List.not_mem_nil) dX3_entriesOfShow_38
      · have hf := wk_f hf q10
        refine lv_iconst (v := 1) hx hb dX3_entriesOfShow_32 (by decide) ?_
        refine lv_goto (tgt := 37) hx hb dX3_entriesOfShow_33 (by decide) ?_
        refine lv_iadd hx hb dX3_entriesOfShow_37 ?_
        have e0 := wke1 hf
        subst e0
        exact W.iret (v := (1 + 1)) hx hb hr (fun t ht hW => ⟨(1 + 1), rfl, rfl, ht⟩) (fun q h => absurd h List.not_mem_nil) dX3_entriesOfShow_38
  · have hf := wk_t hf q1
    refine lv_iconst (v := 1) hx hb dX3_entriesOfShow_4 (by decide) ?_
    refine lv_iload_n hx hb dX3_entriesOfShow_5 rfl (lv_at hl 1 rfl) ?_
    obtain ⟨r11, hr12, hf⟩ := wkb1_s hf
    have hPc := hP.sub (ws' := ([] : va_W)) [] rfl
    refine wk_si (As := [.int x1]) (rest := [.int 1]) ⟨hx, hb, hml, hown, hts⟩ (c_J6_bitCount_0f7a4 l dC dI Y x1 r11 hr12) (va_cwS 1 hts gX3_entriesOfShow_J6_bitCount_0f7a4 rfl rfl rfl (by decide +kernel) ⟨Nat.le_of_ble_eq_true rfl, Nat.le_of_ble_eq_true rfl⟩) hK hPc rfl hl.1 rfl (Nat.le_of_ble_eq_true rfl) dX3_entriesOfShow_6 ⟨Nat.le_of_ble_eq_true rfl, Nat.le_of_ble_eq_true rfl⟩ ?_
    refine lv_iadd hx hb dX3_entriesOfShow_9 ?_
    have e0 := wke1 hf
    subst e0
    exact W.iret (v := (1 + r11)) hx hb hr (fun t ht hW => ⟨(1 + r11), rfl, rfl, ht⟩) (fun q h => absurd h List.not_mem_nil) dX3_entriesOfShow_10
theorem lk_X3_refusalToHire_RX3_12 : Cond.fieldLink RX3 12 "CircusLedger$Circus" "troupe" "LCircusLedger$Troupe;" ∈ wsX3_refusalToHire := by decide +kernel
theorem lk_X3_refusalToHire_RX3_49 : Cond.fieldLink RX3 49 "CircusLedger$Refusal" "ARGUMENT" "LCircusLedger$Refusal;" ∈ wsX3_refusalToHire := by decide +kernel
theorem lk_X3_refusalToHire_RX3_55 : Cond.fieldLink RX3 55 "CircusLedger$Troupe" "count" "I" ∈ wsX3_refusalToHire := by decide +kernel
theorem lk_X3_refusalToHire_RX3_58 : Cond.fieldLink RX3 58 "CircusLedger$Refusal" "STATE" "LCircusLedger$Refusal;" ∈ wsX3_refusalToHire := by decide +kernel
theorem lk_X3_refusalToHire_RX3_61 : Cond.fieldLink RX3 61 "CircusLedger$Refusal" "NONE" "LCircusLedger$Refusal;" ∈ wsX3_refusalToHire := by decide +kernel
theorem in_X3_refusalToHire_X3 : ∀ w ∈ u_ws RX3 TX3 6, w ∈ wsX3_refusalToHire := by decide +kernel
theorem in_X3_refusalToHire_X9 : ∀ w ∈ u_ws RX9 TX9 6, w ∈ wsX3_refusalToHire := by decide +kernel
def f_X3_refusalToHire_L49 (T_count : Int32) (x1 : Int32) (x2 : Int32) (x3 : Int32) (x4 : Int32)  : Option (Nat) :=
    some (2)
def f_X3_refusalToHire (T_count : Int32) (x1 : Int32) (x2 : Int32) (x3 : Int32) (x4 : Int32) : Option (Nat) :=
  wkb1 (f_X3_isBetween x1 30 120) (fun r1 =>
  if r1 = 0 then
    (f_X3_refusalToHire_L49 T_count x1 x2 x3 x4)
  else
    (wkb1 (f_X3_isBetween x2 0 400) (fun r4 =>
    if r4 = 0 then
      (f_X3_refusalToHire_L49 T_count x1 x2 x3 x4)
    else
      (wkb1 (f_X3_isBetween x3 100 200) (fun r7 =>
      if r7 = 0 then
        (f_X3_refusalToHire_L49 T_count x1 x2 x3 x4)
      else
        (wkb1 (f_X3_isBetween x4 1 50) (fun r10 =>
        if r10 = 0 then
          (f_X3_refusalToHire_L49 T_count x1 x2 x3 x4)
        else
          (if T_count < 6 then
            (some (0))
          else
            (some (3))))))))))
set_option maxHeartbeats 4000000 in
set_option maxRecDepth 100000 in
theorem wl_X3_refusalToHire_L49 {p : Program} {l : Launch} {e : Env} {s : State} {m : MethodId} {args : Array Value} {below : List Frame} {meth : Method} {c : Code} {dC : Nat → ClassId} {dI : Nat → Nat → Nat} {Y : Nat → ClassId} {a : Nat → Nat} {g : Nat → Nat → Nat} {T_count : Int32} {T_weights : Nat → Int32} {T_strengths : Nat → Int32} {T_heights : Nat → Int32} {T_wages : Nat → Int32} {T_nightsToHeal : Nat → Int32} {B_accounts : Int32} {B_balances : Nat → Int32} {B_balancesAtClosing : Nat → Int32} {B_entries : Int32} {B_debited : Nat → Int32} {B_credited : Nat → Int32} {B_amounts : Nat → Int32} {C_nights : Int32} {C_netWidth : Int32} {C_shows : Int32} {C_fallen : Int32} {x1 : Int32} {x2 : Int32} {x3 : Int32} {x4 : Int32} {r : Nat}  (C0 : wk_C p s m args meth c cX3_refusalToHire 6 (some (.object "CircusLedger$Refusal")) wsX3_refusalToHire RX3) (hK : va_K (dC, dI) vwCl (vTy Y) s) (hP : va_P (dC, dI) vwCl (wX3 Y a T_count T_weights T_strengths T_heights T_wages T_nightsToHeal B_accounts B_balances B_balancesAtClosing B_entries B_debited B_credited B_amounts C_nights C_netWidth C_shows C_fallen) s.heap) (hT : wk_T g (fun _ => False) s s.heap) : f_X3_refusalToHire_L49 T_count x1 x2 x3 x4  = some (r) → ∀ (ls : Array Slot), lv_has ls 6 [(0, .ref (a 0))] → W p l e (headSpec wsX3_refusalToHire ({ frames := 1, cells := 0, slots := 0, locals := 22 } : Room)).room s m args below meth c s.heap [] 0 0 (MQ below (va_Se (g 0) (fun r2 => r2 = some r)) args s 0 0 (fun _ => False)) (F0 m 49 ls []) := by
  obtain ⟨hx, hb, hml, hr, hlocks, hown, hts⟩ := id C0
  have hS : va_S (fun _ : Nat => False) s.heap s.heap [] := va_S.rf
  intro  hf ls hl
  rw [f_X3_refusalToHire_L49] at hf
  have hP : va_P (dC, dI) vwCl [(a 0, .inr (5, [.ref (a 1), .ref (a 7), .int C_nights, .int C_netWidth, .int C_shows, .int C_fallen])), (a 1, .inr (9, [.int T_count, .ref (a 2), .ref (a 3), .ref (a 4), .ref (a 5), .ref (a 6)])), (a 2, .inl (Y 0, 6, .inl T_weights)), (a 3, .inl (Y 0, 6, .inl T_strengths)), (a 4, .inl (Y 0, 6, .inl T_heights)), (a 5, .inl (Y 0, 6, .inl T_wages)), (a 6, .inl (Y 0, 6, .inl T_nightsToHeal)), (a 7, .inr (4, [.int B_accounts, .ref (a 8), .ref (a 9), .int B_entries, .ref (a 10), .ref (a 11), .ref (a 12)])), (a 8, .inl (Y 0, 11, .inl B_balances)), (a 9, .inl (Y 0, 11, .inl B_balancesAtClosing)), (a 10, .inl (Y 0, 60, .inl B_debited)), (a 11, .inl (Y 0, 60, .inl B_credited)), (a 12, .inl (Y 0, 60, .inl B_amounts))] s.heap := hP
  refine lv_iconst (v := 0) hx hb dX3_refusalToHire_49 (by decide) ?_
  refine lv_istore (lv' := [(5, .int 0), (0, .ref (a 0))]) hx hb dX3_refusalToHire_50 hl (by decide) rfl (fun ls hl => ?_)
  refine lv_iload hx hb dX3_refusalToHire_52 (lv_at hl 0 rfl) ?_
  refine lv_if_ne (tgt := 61) hx hb dX3_refusalToHire_54 (by decide) (fun q9 => absurd q9 (by decide)) (fun _ => ?_)
  refine va_gets (v := .ref (g 0 2)) hx hb (hT.1.1 2 (by decide)).1 hS hown (hts _ lk_X3_refusalToHire_RX3_49) (fun _ h9 => h9) dX3_refusalToHire_57 ?_
  have e0 := wke1 hf
  subst e0
  exact W.aret (v := .ref (g 0 2)) hx hb hr (Or.inl ⟨_, rfl⟩) (Or.inr ⟨_, rfl⟩) (fun t ht hW => ⟨some 2, rfl, rfl, ht⟩) (fun q h => absurd h List.not_mem_nil) dX3_refusalToHire_60
set_option maxHeartbeats 4000000 in
set_option maxRecDepth 100000 in
theorem c_X3_refusalToHire (l : Launch) (dC : Nat → ClassId) (dI : Nat → Nat → Nat) (Y : Nat → ClassId) (g : Nat → Nat → Nat) (a : Nat → Nat) (T_count : Int32) (T_weights : Nat → Int32) (T_strengths : Nat → Int32) (T_heights : Nat → Int32) (T_wages : Nat → Int32) (T_nightsToHeal : Nat → Int32) (B_accounts : Int32) (B_balances : Nat → Int32) (B_balancesAtClosing : Nat → Int32) (B_entries : Int32) (B_debited : Nat → Int32) (B_credited : Nat → Int32) (B_amounts : Nat → Int32) (C_nights : Int32) (C_netWidth : Int32) (C_shows : Int32) (C_fallen : Int32) (x1 : Int32) (x2 : Int32) (x3 : Int32) (x4 : Int32) (r : Nat) (hf : f_X3_refusalToHire T_count x1 x2 x3 x4 = some (r)) : Met l yX3_refusalToHire wsX3_refusalToHire ({ frames := 1, cells := 0, slots := 0, locals := 22 } : Room) (va_Pc [.ref (a 0), .int x1, .int x2, .int x3, .int x4] (wk_BT (dC, dI) Y g (wX3 Y a T_count T_weights T_strengths T_heights T_wages T_nightsToHeal B_accounts B_balances B_balancesAtClosing B_entries B_debited B_credited B_amounts C_nights C_netWidth C_shows C_fallen))) (va_Se (g 0) (fun r2 => r2 = some r)) 0 0 (fun _ => False) := by
  refine Met.ofW (cc := cX3_refusalToHire) (maxL := 6) (ret := (some (.object "CircusLedger$Refusal"))) (by decide) rfl ?_
  intro p e s m args below meth c s₁ B hml hv
  obtain ⟨rfl, ⟨hP, hK⟩, hT⟩ := hv
  have hx := B.exec
  have hb := B.bytes
  have hr := B.returns
  have hts := atoms_spec (ws := wsX3_refusalToHire) B.pre
  have hown : s.vm.findClass RX3 = some m.cls := findClass_of_methodNamed B.named
  have hlocks := B.notSynchronized
  have C0 : wk_C p s m _ meth c cX3_refusalToHire 6 (some (.object "CircusLedger$Refusal")) wsX3_refusalToHire RX3 := ⟨hx, hb, hml, hr, hlocks, hown, hts⟩
  have hP : va_P (dC, dI) vwCl [(a 0, .inr (5, [.ref (a 1), .ref (a 7), .int C_nights, .int C_netWidth, .int C_shows, .int C_fallen])), (a 1, .inr (9, [.int T_count, .ref (a 2), .ref (a 3), .ref (a 4), .ref (a 5), .ref (a 6)])), (a 2, .inl (Y 0, 6, .inl T_weights)), (a 3, .inl (Y 0, 6, .inl T_strengths)), (a 4, .inl (Y 0, 6, .inl T_heights)), (a 5, .inl (Y 0, 6, .inl T_wages)), (a 6, .inl (Y 0, 6, .inl T_nightsToHeal)), (a 7, .inr (4, [.int B_accounts, .ref (a 8), .ref (a 9), .int B_entries, .ref (a 10), .ref (a 11), .ref (a 12)])), (a 8, .inl (Y 0, 11, .inl B_balances)), (a 9, .inl (Y 0, 11, .inl B_balancesAtClosing)), (a 10, .inl (Y 0, 60, .inl B_debited)), (a 11, .inl (Y 0, 60, .inl B_credited)), (a 12, .inl (Y 0, 60, .inl B_amounts))] s.heap := hP
  have hS : va_S (fun _ : Nat => False) s.heap s.heap [] := va_S.rf
  have hl := lv_entry ([.ref (a 0), .int x1, .int x2, .int x3, .int x4]) (n := 6) (Nat.le_of_ble_eq_true rfl)
  rw [lg_entry_eq]
  generalize (lg_sl ([.ref (a 0), .int x1, .int x2, .int x3, .int x4]) ++ List.replicate (6 - (lg_sl ([.ref (a 0), .int x1, .int x2, .int x3, .int x4])).length) Slot.unset).toArray = ls at hl ⊢
  have hl : lv_has ls 6 [(0, .ref (a 0)), (1, .int x1), (2, .int x2), (3, .int x3), (4, .int x4)] := hl
  rw [f_X3_refusalToHire] at hf
  refine lv_iload_n hx hb dX3_refusalToHire_0 rfl (lv_at hl 1 rfl) ?_
  refine lv_bipush (v := 30) hx hb dX3_refusalToHire_1 (by decide) ?_
  refine lv_bipush (v := 120) hx hb dX3_refusalToHire_3 (by decide) ?_
  obtain ⟨r1, hr2, hf⟩ := wkb1_s hf
  have hPc := hP.sub (ws' := ([] : va_W)) [] rfl
  refine wk_si (As := [.int x1, .int 30, .int 120]) (rest := []) ⟨hx, hb, hml, hown, hts⟩ (c_X3_isBetween l dC dI Y x1 30 120 r1 hr2) (va_cwS 3 hts gX3_refusalToHire_X3_isBetween rfl rfl rfl (by decide +kernel) ⟨Nat.le_of_ble_eq_true rfl, Nat.le_of_ble_eq_true rfl⟩) hK hPc rfl hl.1 rfl (Nat.le_of_ble_eq_true rfl) dX3_refusalToHire_5 ⟨Nat.le_of_ble_eq_true rfl, Nat.le_of_ble_eq_true rfl⟩ ?_
  refine lv_if_eq (tgt := 49) hx hb dX3_refusalToHire_8 (by decide) (fun q3 => ?_) (fun q3 => ?_)
  · have hf := wk_t hf q3
    exact wl_X3_refusalToHire_L49 C0 hK hP hT  hf ls (lv_sub hl [0] rfl)
  · have hf := wk_f hf q3
    refine lv_iload_n hx hb dX3_refusalToHire_11 rfl (lv_at hl 2 rfl) ?_
    refine lv_iconst (v := 0) hx hb dX3_refusalToHire_12 (by decide) ?_
    refine lv_sipush (v := 400) hx hb dX3_refusalToHire_13 (by decide) ?_
    obtain ⟨r4, hr5, hf⟩ := wkb1_s hf
    have hPc := hP.sub (ws' := ([] : va_W)) [] rfl
    refine wk_si (As := [.int x2, .int 0, .int 400]) (rest := []) ⟨hx, hb, hml, hown, hts⟩ (c_X3_isBetween l dC dI Y x2 0 400 r4 hr5) (va_cwS 3 hts gX3_refusalToHire_X3_isBetween rfl rfl rfl (by decide +kernel) ⟨Nat.le_of_ble_eq_true rfl, Nat.le_of_ble_eq_true rfl⟩) hK hPc rfl hl.1 rfl (Nat.le_of_ble_eq_true rfl) dX3_refusalToHire_16 ⟨Nat.le_of_ble_eq_true rfl, Nat.le_of_ble_eq_true rfl⟩ ?_
    refine lv_if_eq (tgt := 49) hx hb dX3_refusalToHire_19 (by decide) (fun q6 => ?_) (fun q6 => ?_)
    · have hf := wk_t hf q6
      exact wl_X3_refusalToHire_L49 C0 hK hP hT  hf ls (lv_sub hl [0] rfl)
    · have hf := wk_f hf q6
      refine lv_iload_n hx hb dX3_refusalToHire_22 rfl (lv_at hl 3 rfl) ?_
      refine lv_bipush (v := 100) hx hb dX3_refusalToHire_23 (by decide) ?_
      refine lv_sipush (v := 200) hx hb dX3_refusalToHire_25 (by decide) ?_
      obtain ⟨r7, hr8, hf⟩ := wkb1_s hf
      have hPc := hP.sub (ws' := ([] : va_W)) [] rfl
      refine wk_si (As := [.int x3, .int 100, .int 200]) (rest := []) ⟨hx, hb, hml, hown, hts⟩ (c_X3_isBetween l dC dI Y x3 100 200 r7 hr8) (va_cwS 3 hts gX3_refusalToHire_X3_isBetween rfl rfl rfl (by decide +kernel) ⟨Nat.le_of_ble_eq_true rfl, Nat.le_of_ble_eq_true rfl⟩) hK hPc rfl hl.1 rfl (Nat.le_of_ble_eq_true rfl) dX3_refusalToHire_28 ⟨Nat.le_of_ble_eq_true rfl, Nat.le_of_ble_eq_true rfl⟩ ?_
      refine lv_if_eq (tgt := 49) hx hb dX3_refusalToHire_31 (by decide) (fun q9 => ?_) (fun q9 => ?_)
      · have hf := wk_t hf q9
        exact wl_X3_refusalToHire_L49 C0 hK hP hT  hf ls (lv_sub hl [0] rfl)
      · have hf := wk_f hf q9
        refine lv_iload hx hb dX3_refusalToHire_34 (lv_at hl 4 rfl) ?_
        refine lv_iconst (v := 1) hx hb dX3_refusalToHire_36 (by decide) ?_
        refine lv_bipush (v := 50) hx hb dX3_refusalToHire_37 (by decide) ?_
        obtain ⟨r10, hr11, hf⟩ := wkb1_s hf
        have hPc := hP.sub (ws' := ([] : va_W)) [] rfl
        refine wk_si (As := [.int x4, .int 1, .int 50]) (rest := []) ⟨hx, hb, hml, hown, hts⟩ (c_X3_isBetween l dC dI Y x4 1 50 r10 hr11) (va_cwS 3 hts gX3_refusalToHire_X3_isBetween rfl rfl rfl (by decide +kernel) ⟨Nat.le_of_ble_eq_true rfl, Nat.le_of_ble_eq_true rfl⟩) hK hPc rfl hl.1 rfl (Nat.le_of_ble_eq_true rfl) dX3_refusalToHire_39 ⟨Nat.le_of_ble_eq_true rfl, Nat.le_of_ble_eq_true rfl⟩ ?_
        refine lv_if_eq (tgt := 49) hx hb dX3_refusalToHire_42 (by decide) (fun q12 => ?_) (fun q12 => ?_)
        · have hf := wk_t hf q12
          exact wl_X3_refusalToHire_L49 C0 hK hP hT  hf ls (lv_sub hl [0] rfl)
        · have hf := wk_f hf q12
          refine lv_iconst (v := 1) hx hb dX3_refusalToHire_45 (by decide) ?_
          refine lv_goto (tgt := 50) hx hb dX3_refusalToHire_46 (by decide) ?_
          refine lv_istore (lv' := [(5, .int 1), (0, .ref (a 0)), (1, .int x1), (2, .int x2), (3, .int x3), (4, .int x4)]) hx hb dX3_refusalToHire_50 hl (by decide) rfl (fun ls hl => ?_)
          refine lv_iload hx hb dX3_refusalToHire_52 (lv_at hl 0 rfl) ?_
          refine lv_if_ne (tgt := 61) hx hb dX3_refusalToHire_54 (by decide) (fun _ => ?_) (fun q9 => absurd q9 (by decide))
          refine lv_aload_n hx hb dX3_refusalToHire_61 rfl (lv_at hl 1 rfl) ?_
          refine va_get (D := (dC, dI)) (ci := 5) (v := .ref (a 1)) (C := RX3) (T := TX3) (N := 6) hx hb hts in_X3_refusalToHire_X3 hown hK hP 0 rfl rfl 0 (by decide) (hts _ lk_X3_refusalToHire_RX3_12) (fun _ h9 => h9) rfl dX3_refusalToHire_62 ?_
          refine va_get (D := (dC, dI)) (ci := 9) (v := .int T_count) (C := RX9) (T := TX9) (N := 6) hx hb hts in_X3_refusalToHire_X9 hown hK hP 1 rfl rfl 0 (by decide) (hts _ lk_X3_refusalToHire_RX3_55) (fun _ h9 => h9) rfl dX3_refusalToHire_65 ?_
          refine lv_bipush (v := 6) hx hb dX3_refusalToHire_68 (by decide) ?_
          refine lv_icmp_lt (tgt := 79) hx hb dX3_refusalToHire_70 (by decide) (fun q13 => ?_) (fun q13 => ?_)
          · have hf := wk_t hf q13
            refine va_gets (v := .ref (g 0 0)) hx hb (hT.1.1 0 (by decide)).1 hS hown (hts _ lk_X3_refusalToHire_RX3_61) (fun _ h9 => h9) dX3_refusalToHire_79 ?_
            have e0 := wke1 hf
            subst e0
            exact W.aret (v := .ref (g 0 0)) hx hb hr (Or.inl ⟨_, rfl⟩) (Or.inr ⟨_, rfl⟩) (fun t ht hW => ⟨some 0, rfl, rfl, ht⟩) (fun q h => absurd h List.not_mem_nil) dX3_refusalToHire_82
          · have hf := wk_f hf q13
            refine va_gets (v := .ref (g 0 3)) hx hb (hT.1.1 3 (by decide)).1 hS hown (hts _ lk_X3_refusalToHire_RX3_58) (fun _ h9 => h9) dX3_refusalToHire_73 ?_
            refine lv_goto (tgt := 82) hx hb dX3_refusalToHire_76 (by decide) ?_
            have e0 := wke1 hf
            subst e0
            exact W.aret (v := .ref (g 0 3)) hx hb hr (Or.inl ⟨_, rfl⟩) (Or.inr ⟨_, rfl⟩) (fun t ht hW => ⟨some 3, rfl, rfl, ht⟩) (fun q h => absurd h List.not_mem_nil) dX3_refusalToHire_82
theorem lk_X3_hire_RX3_12 : Cond.fieldLink RX3 12 "CircusLedger$Circus" "troupe" "LCircusLedger$Troupe;" ∈ wsX3_hire := by decide +kernel
theorem lk_X3_hire_RX3_21 : Cond.fieldLink RX3 21 "CircusLedger$Circus" "books" "LCircusLedger$Books;" ∈ wsX3_hire := by decide +kernel
theorem in_X3_hire_X3 : ∀ w ∈ u_ws RX3 TX3 6, w ∈ wsX3_hire := by decide +kernel
def f_X3_hire (T_count : Int32) (T_weights : Nat → Int32) (T_strengths : Nat → Int32) (T_heights : Nat → Int32) (T_wages : Nat → Int32) (B_accounts : Int32) (x1 : Int32) (x2 : Int32) (x3 : Int32) (x4 : Int32) : Option (Int32 × Int32 × (Nat → Int32) × (Nat → Int32) × (Nat → Int32) × (Nat → Int32) × Int32) :=
  wkb1 (f_X2_openAccount B_accounts) (fun w1 =>
  wkb6 (f_X9_add T_count T_weights T_strengths T_heights T_wages x1 x2 x3 x4) (fun r3 w4 w5 w6 w7 w8 =>
  some (r3, w4, w5, w6, w7, w8, w1)))
set_option maxHeartbeats 4000000 in
set_option maxRecDepth 100000 in
theorem c_X3_hire (l : Launch) (dC : Nat → ClassId) (dI : Nat → Nat → Nat) (Y : Nat → ClassId) (a : Nat → Nat) (T_count : Int32) (T_weights : Nat → Int32) (T_strengths : Nat → Int32) (T_heights : Nat → Int32) (T_wages : Nat → Int32) (T_nightsToHeal : Nat → Int32) (B_accounts : Int32) (B_balances : Nat → Int32) (B_balancesAtClosing : Nat → Int32) (B_entries : Int32) (B_debited : Nat → Int32) (B_credited : Nat → Int32) (B_amounts : Nat → Int32) (C_nights : Int32) (C_netWidth : Int32) (C_shows : Int32) (C_fallen : Int32) (x1 : Int32) (x2 : Int32) (x3 : Int32) (x4 : Int32) (sz : Nat) (r : Int32) (zT_count : Int32) (zT_weights : Nat → Int32) (zT_strengths : Nat → Int32) (zT_heights : Nat → Int32) (zT_wages : Nat → Int32) (zB_accounts : Int32) (hf : f_X3_hire T_count T_weights T_strengths T_heights T_wages B_accounts x1 x2 x3 x4 = some (r, zT_count, zT_weights, zT_strengths, zT_heights, zT_wages, zB_accounts)) : Met l yX3_hire wsX3_hire ({ frames := 1, cells := 0, slots := 0, locals := 25 } : Room) (va_Pc [.ref (a 0), .int x1, .int x2, .int x3, .int x4] (wk_E (dC, dI) Y (wX3 Y a T_count T_weights T_strengths T_heights T_wages T_nightsToHeal B_accounts B_balances B_balancesAtClosing B_entries B_debited B_credited B_amounts C_nights C_netWidth C_shows C_fallen) sz)) (va_Qi (fun r2 (_ : Unit) => r2 = r) (fun _ t => wk_X (dC, dI) Y (wX3 Y a zT_count zT_weights zT_strengths zT_heights zT_wages T_nightsToHeal zB_accounts B_balances B_balancesAtClosing B_entries B_debited B_credited B_amounts C_nights C_netWidth C_shows C_fallen) (va_A (wX3 Y a T_count T_weights T_strengths T_heights T_wages T_nightsToHeal B_accounts B_balances B_balancesAtClosing B_entries B_debited B_credited B_amounts C_nights C_netWidth C_shows C_fallen) sz) t) (va_A (wX3 Y a T_count T_weights T_strengths T_heights T_wages T_nightsToHeal B_accounts B_balances B_balancesAtClosing B_entries B_debited B_credited B_amounts C_nights C_netWidth C_shows C_fallen) sz)) 0 0 (va_A (wX3 Y a T_count T_weights T_strengths T_heights T_wages T_nightsToHeal B_accounts B_balances B_balancesAtClosing B_entries B_debited B_credited B_amounts C_nights C_netWidth C_shows C_fallen) sz) := by
  refine Met.ofW (cc := cX3_hire) (maxL := 5) (ret := (some .int)) (by decide) rfl ?_
  intro p e s m args below meth c s₁ B hml hv
  obtain ⟨rfl, hsz, hP, hK, hD0⟩ := hv
  have hx := B.exec
  have hb := B.bytes
  have hr := B.returns
  have hts := atoms_spec (ws := wsX3_hire) B.pre
  have hown : s.vm.findClass RX3 = some m.cls := findClass_of_methodNamed B.named
  have hlocks := B.notSynchronized
  have C0 : wk_C p s m _ meth c cX3_hire 5 (some .int) wsX3_hire RX3 := ⟨hx, hb, hml, hr, hlocks, hown, hts⟩
  subst hsz
  have hD := hD0.self (sz := s.heap.size)
  generalize hAe : va_A (wX3 Y a T_count T_weights T_strengths T_heights T_wages T_nightsToHeal B_accounts B_balances B_balancesAtClosing B_entries B_debited B_credited B_amounts C_nights C_netWidth C_shows C_fallen) s.heap.size = A at hD ⊢
  have hA : ∀ q : Nat, s.heap.size ≤ q → A q := fun q h => by rw [← hAe]; exact Or.inr h
  have hS : va_S A s.heap s.heap [] := va_S.rf
  obtain ⟨H, hHe⟩ : ∃ H, H = s.heap := ⟨_, rfl⟩
  have hS : va_S A s.heap H [] := by rw [hHe]; exact hS
  have hP : va_P (dC, dI) vwCl [(a 0, .inr (5, [.ref (a 1), .ref (a 7), .int C_nights, .int C_netWidth, .int C_shows, .int C_fallen])), (a 1, .inr (9, [.int T_count, .ref (a 2), .ref (a 3), .ref (a 4), .ref (a 5), .ref (a 6)])), (a 2, .inl (Y 0, 6, .inl T_weights)), (a 3, .inl (Y 0, 6, .inl T_strengths)), (a 4, .inl (Y 0, 6, .inl T_heights)), (a 5, .inl (Y 0, 6, .inl T_wages)), (a 6, .inl (Y 0, 6, .inl T_nightsToHeal)), (a 7, .inr (4, [.int B_accounts, .ref (a 8), .ref (a 9), .int B_entries, .ref (a 10), .ref (a 11), .ref (a 12)])), (a 8, .inl (Y 0, 11, .inl B_balances)), (a 9, .inl (Y 0, 11, .inl B_balancesAtClosing)), (a 10, .inl (Y 0, 60, .inl B_debited)), (a 11, .inl (Y 0, 60, .inl B_credited)), (a 12, .inl (Y 0, 60, .inl B_amounts))] H := by rw [hHe]; exact hP
  have hD : va_D A [(a 0, .inr (5, [.ref (a 1), .ref (a 7), .int C_nights, .int C_netWidth, .int C_shows, .int C_fallen])), (a 1, .inr (9, [.int T_count, .ref (a 2), .ref (a 3), .ref (a 4), .ref (a 5), .ref (a 6)])), (a 2, .inl (Y 0, 6, .inl T_weights)), (a 3, .inl (Y 0, 6, .inl T_strengths)), (a 4, .inl (Y 0, 6, .inl T_heights)), (a 5, .inl (Y 0, 6, .inl T_wages)), (a 6, .inl (Y 0, 6, .inl T_nightsToHeal)), (a 7, .inr (4, [.int B_accounts, .ref (a 8), .ref (a 9), .int B_entries, .ref (a 10), .ref (a 11), .ref (a 12)])), (a 8, .inl (Y 0, 11, .inl B_balances)), (a 9, .inl (Y 0, 11, .inl B_balancesAtClosing)), (a 10, .inl (Y 0, 60, .inl B_debited)), (a 11, .inl (Y 0, 60, .inl B_credited)), (a 12, .inl (Y 0, 60, .inl B_amounts))] := hD
  obtain ⟨locs, hlo⟩ : ∃ locs : List Loc, locs = [] := ⟨_, rfl⟩
  have hS : va_S A s.heap H locs := by rw [hlo]; exact hS
  have hl := lv_entry ([.ref (a 0), .int x1, .int x2, .int x3, .int x4]) (n := 5) (Nat.le_of_ble_eq_true rfl)
  rw [lg_entry_eq]
  generalize (lg_sl ([.ref (a 0), .int x1, .int x2, .int x3, .int x4]) ++ List.replicate (5 - (lg_sl ([.ref (a 0), .int x1, .int x2, .int x3, .int x4])).length) Slot.unset).toArray = ls at hl ⊢
  have hl : lv_has ls 5 [(0, .ref (a 0)), (1, .int x1), (2, .int x2), (3, .int x3), (4, .int x4)] := hl
  refine wk_start hHe hlo ?_
  rw [f_X3_hire] at hf
  refine lv_aload_n hx hb dX3_hire_0 rfl (lv_at hl 0 rfl) ?_
  refine va_get (D := (dC, dI)) (ci := 5) (v := .ref (a 7)) (C := RX3) (T := TX3) (N := 6) hx hb hts in_X3_hire_X3 hown hK hP 0 rfl rfl 1 (by decide) (hts _ lk_X3_hire_RX3_21) (fun _ h9 => h9) rfl dX3_hire_1 ?_
  obtain ⟨w1, hr2, hf⟩ := wkb1_s hf
  refine wk_evv (As := []) (rest := []) (wc := (wX2 Y (fun k => a (k + 7)) B_accounts B_balances B_balancesAtClosing B_entries B_debited B_credited B_amounts)) (w1 := (wX2 Y (fun k => a (k + 7)) w1 B_balances B_balancesAtClosing B_entries B_debited B_credited B_amounts)) (wr := [(a 0, .inr (5, [.ref (a 1), .ref (a 7), .int C_nights, .int C_netWidth, .int C_shows, .int C_fallen])), (a 1, .inr (9, [.int T_count, .ref (a 2), .ref (a 3), .ref (a 4), .ref (a 5), .ref (a 6)])), (a 2, .inl (Y 0, 6, .inl T_weights)), (a 3, .inl (Y 0, 6, .inl T_strengths)), (a 4, .inl (Y 0, 6, .inl T_heights)), (a 5, .inl (Y 0, 6, .inl T_wages)), (a 6, .inl (Y 0, 6, .inl T_nightsToHeal))]) ⟨hx, hb, hml, hown, hts⟩ (c_X2_openAccount l dC dI Y (fun k => a (k + 7)) B_accounts B_balances B_balancesAtClosing B_entries B_debited B_credited B_amounts H.size w1 hr2) (cwV 0 hts gX3_hire_X2_openAccount rfl rfl rfl (by decide +kernel) ⟨Nat.le_of_ble_eq_true rfl, Nat.le_of_ble_eq_true rfl⟩) hK hP hD hS hA [7, 8, 9, 10, 11, 12] [0, 1, 2, 3, 4, 5, 6] rfl rfl (by decide) (by decide) (by decide) (va_recv hK hP (ci := 4) (q0 := 7) rfl rfl) rfl hl.1 rfl (Nat.le_of_ble_eq_true rfl) dX3_hire_4 ⟨Nat.le_of_ble_eq_true rfl, Nat.le_of_ble_eq_true rfl⟩ (fun H locs hP hD hS => ?_)
  have hP : va_P (dC, dI) vwCl [(a 0, .inr (5, [.ref (a 1), .ref (a 7), .int C_nights, .int C_netWidth, .int C_shows, .int C_fallen])), (a 1, .inr (9, [.int T_count, .ref (a 2), .ref (a 3), .ref (a 4), .ref (a 5), .ref (a 6)])), (a 2, .inl (Y 0, 6, .inl T_weights)), (a 3, .inl (Y 0, 6, .inl T_strengths)), (a 4, .inl (Y 0, 6, .inl T_heights)), (a 5, .inl (Y 0, 6, .inl T_wages)), (a 6, .inl (Y 0, 6, .inl T_nightsToHeal)), (a 7, .inr (4, [.int w1, .ref (a 8), .ref (a 9), .int B_entries, .ref (a 10), .ref (a 11), .ref (a 12)])), (a 8, .inl (Y 0, 11, .inl B_balances)), (a 9, .inl (Y 0, 11, .inl B_balancesAtClosing)), (a 10, .inl (Y 0, 60, .inl B_debited)), (a 11, .inl (Y 0, 60, .inl B_credited)), (a 12, .inl (Y 0, 60, .inl B_amounts))] H := hP
  have hD : va_D A [(a 0, .inr (5, [.ref (a 1), .ref (a 7), .int C_nights, .int C_netWidth, .int C_shows, .int C_fallen])), (a 1, .inr (9, [.int T_count, .ref (a 2), .ref (a 3), .ref (a 4), .ref (a 5), .ref (a 6)])), (a 2, .inl (Y 0, 6, .inl T_weights)), (a 3, .inl (Y 0, 6, .inl T_strengths)), (a 4, .inl (Y 0, 6, .inl T_heights)), (a 5, .inl (Y 0, 6, .inl T_wages)), (a 6, .inl (Y 0, 6, .inl T_nightsToHeal)), (a 7, .inr (4, [.int w1, .ref (a 8), .ref (a 9), .int B_entries, .ref (a 10), .ref (a 11), .ref (a 12)])), (a 8, .inl (Y 0, 11, .inl B_balances)), (a 9, .inl (Y 0, 11, .inl B_balancesAtClosing)), (a 10, .inl (Y 0, 60, .inl B_debited)), (a 11, .inl (Y 0, 60, .inl B_credited)), (a 12, .inl (Y 0, 60, .inl B_amounts))] := hD
  refine lv_aload_n hx hb dX3_hire_7 rfl (lv_at hl 0 rfl) ?_
  refine va_get (D := (dC, dI)) (ci := 5) (v := .ref (a 1)) (C := RX3) (T := TX3) (N := 6) hx hb hts in_X3_hire_X3 hown hK hP 0 rfl rfl 0 (by decide) (hts _ lk_X3_hire_RX3_12) (fun _ h9 => h9) rfl dX3_hire_8 ?_
  refine lv_iload_n hx hb dX3_hire_11 rfl (lv_at hl 1 rfl) ?_
  refine lv_iload_n hx hb dX3_hire_12 rfl (lv_at hl 2 rfl) ?_
  refine lv_iload_n hx hb dX3_hire_13 rfl (lv_at hl 3 rfl) ?_
  refine lv_iload hx hb dX3_hire_14 (lv_at hl 4 rfl) ?_
  obtain ⟨r3, w4, w5, w6, w7, w8, hr9, hf⟩ := wkb6_s hf
  refine wk_evi (As := [.int x1, .int x2, .int x3, .int x4]) (rest := []) (wc := (wX9 Y (fun k => a (k + 1)) T_count T_weights T_strengths T_heights T_wages T_nightsToHeal)) (w1 := (wX9 Y (fun k => a (k + 1)) w4 w5 w6 w7 w8 T_nightsToHeal)) (wr := [(a 0, .inr (5, [.ref (a 1), .ref (a 7), .int C_nights, .int C_netWidth, .int C_shows, .int C_fallen])), (a 7, .inr (4, [.int w1, .ref (a 8), .ref (a 9), .int B_entries, .ref (a 10), .ref (a 11), .ref (a 12)])), (a 8, .inl (Y 0, 11, .inl B_balances)), (a 9, .inl (Y 0, 11, .inl B_balancesAtClosing)), (a 10, .inl (Y 0, 60, .inl B_debited)), (a 11, .inl (Y 0, 60, .inl B_credited)), (a 12, .inl (Y 0, 60, .inl B_amounts))]) ⟨hx, hb, hml, hown, hts⟩ (c_X9_add l dC dI Y (fun k => a (k + 1)) T_count T_weights T_strengths T_heights T_wages T_nightsToHeal x1 x2 x3 x4 H.size r3 w4 w5 w6 w7 w8 hr9) (cwV 4 hts gX3_hire_X9_add rfl rfl rfl (by decide +kernel) ⟨Nat.le_of_ble_eq_true rfl, Nat.le_of_ble_eq_true rfl⟩) hK hP hD hS hA [1, 2, 3, 4, 5, 6] [0, 7, 8, 9, 10, 11, 12] rfl rfl (by decide) (by decide) (by decide) (va_recv hK hP (ci := 9) (q0 := 1) rfl rfl) rfl hl.1 rfl (Nat.le_of_ble_eq_true rfl) dX3_hire_16 ⟨Nat.le_of_ble_eq_true rfl, Nat.le_of_ble_eq_true rfl⟩ (fun H locs hP hD hS => ?_)
  have hP : va_P (dC, dI) vwCl [(a 0, .inr (5, [.ref (a 1), .ref (a 7), .int C_nights, .int C_netWidth, .int C_shows, .int C_fallen])), (a 7, .inr (4, [.int w1, .ref (a 8), .ref (a 9), .int B_entries, .ref (a 10), .ref (a 11), .ref (a 12)])), (a 8, .inl (Y 0, 11, .inl B_balances)), (a 9, .inl (Y 0, 11, .inl B_balancesAtClosing)), (a 10, .inl (Y 0, 60, .inl B_debited)), (a 11, .inl (Y 0, 60, .inl B_credited)), (a 12, .inl (Y 0, 60, .inl B_amounts)), (a 1, .inr (9, [.int w4, .ref (a 2), .ref (a 3), .ref (a 4), .ref (a 5), .ref (a 6)])), (a 2, .inl (Y 0, 6, .inl w5)), (a 3, .inl (Y 0, 6, .inl w6)), (a 4, .inl (Y 0, 6, .inl w7)), (a 5, .inl (Y 0, 6, .inl w8)), (a 6, .inl (Y 0, 6, .inl T_nightsToHeal))] H := hP
  have hD : va_D A [(a 0, .inr (5, [.ref (a 1), .ref (a 7), .int C_nights, .int C_netWidth, .int C_shows, .int C_fallen])), (a 7, .inr (4, [.int w1, .ref (a 8), .ref (a 9), .int B_entries, .ref (a 10), .ref (a 11), .ref (a 12)])), (a 8, .inl (Y 0, 11, .inl B_balances)), (a 9, .inl (Y 0, 11, .inl B_balancesAtClosing)), (a 10, .inl (Y 0, 60, .inl B_debited)), (a 11, .inl (Y 0, 60, .inl B_credited)), (a 12, .inl (Y 0, 60, .inl B_amounts)), (a 1, .inr (9, [.int w4, .ref (a 2), .ref (a 3), .ref (a 4), .ref (a 5), .ref (a 6)])), (a 2, .inl (Y 0, 6, .inl w5)), (a 3, .inl (Y 0, 6, .inl w6)), (a 4, .inl (Y 0, 6, .inl w7)), (a 5, .inl (Y 0, 6, .inl w8)), (a 6, .inl (Y 0, 6, .inl T_nightsToHeal))] := hD
  obtain ⟨e0, e1, e2, e3, e4, e5, e6⟩ := wke7 hf
  subst e0
  subst e1
  subst e2
  subst e3
  subst e4
  subst e5
  subst e6
  have hP9 := hP.sub (ws' := (wX3 Y a w4 w5 w6 w7 w8 T_nightsToHeal w1 B_balances B_balancesAtClosing B_entries B_debited B_credited B_amounts C_nights C_netWidth C_shows C_fallen)) [0, 7, 8, 9, 10, 11, 12, 1, 2, 3, 4, 5, 6] rfl
  have hD9 := hD.sub (ws' := (wX3 Y a w4 w5 w6 w7 w8 T_nightsToHeal w1 B_balances B_balancesAtClosing B_entries B_debited B_credited B_amounts C_nights C_netWidth C_shows C_fallen)) [0, 7, 8, 9, 10, 11, 12, 1, 2, 3, 4, 5, 6] (by decide) rfl
  exact W.iret (v := r3) hx hb hr (fun t ht hW => ⟨⟨r3, (), rfl, rfl, by rw [ht]; exact hP9, va_K.moved hW.alike hK, hD9⟩, hS.F ht⟩) hS.2.2 dX3_hire_19
theorem lk_X3_refusalToBook_RX3_21 : Cond.fieldLink RX3 21 "CircusLedger$Circus" "books" "LCircusLedger$Books;" ∈ wsX3_refusalToBook := by decide +kernel
theorem lk_X3_refusalToBook_RX3_49 : Cond.fieldLink RX3 49 "CircusLedger$Refusal" "ARGUMENT" "LCircusLedger$Refusal;" ∈ wsX3_refusalToBook := by decide +kernel
theorem lk_X3_refusalToBook_RX3_58 : Cond.fieldLink RX3 58 "CircusLedger$Refusal" "STATE" "LCircusLedger$Refusal;" ∈ wsX3_refusalToBook := by decide +kernel
theorem lk_X3_refusalToBook_RX3_61 : Cond.fieldLink RX3 61 "CircusLedger$Refusal" "NONE" "LCircusLedger$Refusal;" ∈ wsX3_refusalToBook := by decide +kernel
theorem lk_X3_refusalToBook_RX3_75 : Cond.fieldLink RX3 75 "CircusLedger$Refusal" "INDEX" "LCircusLedger$Refusal;" ∈ wsX3_refusalToBook := by decide +kernel
theorem lk_X3_refusalToBook_RX3_85 : Cond.fieldLink RX3 85 "CircusLedger$Refusal" "UNSUPPORTED" "LCircusLedger$Refusal;" ∈ wsX3_refusalToBook := by decide +kernel
theorem in_X3_refusalToBook_X3 : ∀ w ∈ u_ws RX3 TX3 6, w ∈ wsX3_refusalToBook := by decide +kernel
def f_X3_refusalToBook (B_accounts : Int32) (B_balances : Nat → Int32) (B_entries : Int32) (x1 : Int32) (x2 : Int32) (x3 : Int32) : Option (Nat) :=
  wkb1 (f_X2_has B_accounts x1) (fun r1 =>
  if r1 = 0 then
    (some (1))
  else
    (wkb1 (f_X2_has B_accounts x2) (fun r4 =>
    if r4 = 0 then
      (some (1))
    else
      (if x1 = x2 then
        (some (2))
      else
        (wkb1 (f_X3_isBetween x3 1 9999) (fun r8 =>
        if r8 = 0 then
          (some (2))
        else
          (wkb1 (f_X2_hasRoomFor B_entries 1) (fun r11 =>
          if r11 = 0 then
            (some (3))
          else
            (wkb1 (f_X2_overdraws B_balances x2 x3) (fun r14 =>
            if r14 = 0 then
              (some (0))
            else
              (some (4))))))))))))
set_option maxHeartbeats 4000000 in
set_option maxRecDepth 100000 in
theorem c_X3_refusalToBook (l : Launch) (dC : Nat → ClassId) (dI : Nat → Nat → Nat) (Y : Nat → ClassId) (g : Nat → Nat → Nat) (a : Nat → Nat) (T_count : Int32) (T_weights : Nat → Int32) (T_strengths : Nat → Int32) (T_heights : Nat → Int32) (T_wages : Nat → Int32) (T_nightsToHeal : Nat → Int32) (B_accounts : Int32) (B_balances : Nat → Int32) (B_balancesAtClosing : Nat → Int32) (B_entries : Int32) (B_debited : Nat → Int32) (B_credited : Nat → Int32) (B_amounts : Nat → Int32) (C_nights : Int32) (C_netWidth : Int32) (C_shows : Int32) (C_fallen : Int32) (x1 : Int32) (x2 : Int32) (x3 : Int32) (r : Nat) (hf : f_X3_refusalToBook B_accounts B_balances B_entries x1 x2 x3 = some (r)) : Met l yX3_refusalToBook wsX3_refusalToBook ({ frames := 1, cells := 0, slots := 0, locals := 22 } : Room) (va_Pc [.ref (a 0), .int x1, .int x2, .int x3] (wk_BT (dC, dI) Y g (wX3 Y a T_count T_weights T_strengths T_heights T_wages T_nightsToHeal B_accounts B_balances B_balancesAtClosing B_entries B_debited B_credited B_amounts C_nights C_netWidth C_shows C_fallen))) (va_Se (g 0) (fun r2 => r2 = some r)) 0 0 (fun _ => False) := by
  refine Met.ofW (cc := cX3_refusalToBook) (maxL := 4) (ret := (some (.object "CircusLedger$Refusal"))) (by decide) rfl ?_
  intro p e s m args below meth c s₁ B hml hv
  obtain ⟨rfl, ⟨hP, hK⟩, hT⟩ := hv
  have hx := B.exec
  have hb := B.bytes
  have hr := B.returns
  have hts := atoms_spec (ws := wsX3_refusalToBook) B.pre
  have hown : s.vm.findClass RX3 = some m.cls := findClass_of_methodNamed B.named
  have hlocks := B.notSynchronized
  have C0 : wk_C p s m _ meth c cX3_refusalToBook 4 (some (.object "CircusLedger$Refusal")) wsX3_refusalToBook RX3 := ⟨hx, hb, hml, hr, hlocks, hown, hts⟩
  have hP : va_P (dC, dI) vwCl [(a 0, .inr (5, [.ref (a 1), .ref (a 7), .int C_nights, .int C_netWidth, .int C_shows, .int C_fallen])), (a 1, .inr (9, [.int T_count, .ref (a 2), .ref (a 3), .ref (a 4), .ref (a 5), .ref (a 6)])), (a 2, .inl (Y 0, 6, .inl T_weights)), (a 3, .inl (Y 0, 6, .inl T_strengths)), (a 4, .inl (Y 0, 6, .inl T_heights)), (a 5, .inl (Y 0, 6, .inl T_wages)), (a 6, .inl (Y 0, 6, .inl T_nightsToHeal)), (a 7, .inr (4, [.int B_accounts, .ref (a 8), .ref (a 9), .int B_entries, .ref (a 10), .ref (a 11), .ref (a 12)])), (a 8, .inl (Y 0, 11, .inl B_balances)), (a 9, .inl (Y 0, 11, .inl B_balancesAtClosing)), (a 10, .inl (Y 0, 60, .inl B_debited)), (a 11, .inl (Y 0, 60, .inl B_credited)), (a 12, .inl (Y 0, 60, .inl B_amounts))] s.heap := hP
  have hS : va_S (fun _ : Nat => False) s.heap s.heap [] := va_S.rf
  have hl := lv_entry ([.ref (a 0), .int x1, .int x2, .int x3]) (n := 4) (Nat.le_of_ble_eq_true rfl)
  rw [lg_entry_eq]
  generalize (lg_sl ([.ref (a 0), .int x1, .int x2, .int x3]) ++ List.replicate (4 - (lg_sl ([.ref (a 0), .int x1, .int x2, .int x3])).length) Slot.unset).toArray = ls at hl ⊢
  have hl : lv_has ls 4 [(0, .ref (a 0)), (1, .int x1), (2, .int x2), (3, .int x3)] := hl
  rw [f_X3_refusalToBook] at hf
  refine lv_aload_n hx hb dX3_refusalToBook_0 rfl (lv_at hl 0 rfl) ?_
  refine va_get (D := (dC, dI)) (ci := 5) (v := .ref (a 7)) (C := RX3) (T := TX3) (N := 6) hx hb hts in_X3_refusalToBook_X3 hown hK hP 0 rfl rfl 1 (by decide) (hts _ lk_X3_refusalToBook_RX3_21) (fun _ h9 => h9) rfl dX3_refusalToBook_1 ?_
  refine lv_iload_n hx hb dX3_refusalToBook_4 rfl (lv_at hl 1 rfl) ?_
  obtain ⟨r1, hr2, hf⟩ := wkb1_s hf
  have hPc := hP.sub (ws' := (wX2 Y (fun k => a (k + 7)) B_accounts B_balances B_balancesAtClosing B_entries B_debited B_credited B_amounts)) [7, 8, 9, 10, 11, 12] rfl
  refine wk_vi (As := [.int x1]) (rest := []) ⟨hx, hb, hml, hown, hts⟩ (c_X2_has l dC dI Y (fun k => a (k + 7)) B_accounts B_balances B_balancesAtClosing B_entries B_debited B_credited B_amounts x1 r1 hr2) (cwV 1 hts gX3_refusalToBook_X2_has rfl rfl rfl (by decide +kernel) ⟨Nat.le_of_ble_eq_true rfl, Nat.le_of_ble_eq_true rfl⟩) hK hPc (va_recv hK hP (ci := 4) (q0 := 7) rfl rfl) rfl hl.1 rfl (Nat.le_of_ble_eq_true rfl) dX3_refusalToBook_5 ⟨Nat.le_of_ble_eq_true rfl, Nat.le_of_ble_eq_true rfl⟩ ?_
  refine lv_if_eq (tgt := 22) hx hb dX3_refusalToBook_8 (by decide) (fun q3 => ?_) (fun q3 => ?_)
  · have hf := wk_t hf q3
    refine va_gets (v := .ref (g 0 1)) hx hb (hT.1.1 1 (by decide)).1 hS hown (hts _ lk_X3_refusalToBook_RX3_75) (fun _ h9 => h9) dX3_refusalToBook_22 ?_
    have e0 := wke1 hf
    subst e0
    exact W.aret (v := .ref (g 0 1)) hx hb hr (Or.inl ⟨_, rfl⟩) (Or.inr ⟨_, rfl⟩) (fun t ht hW => ⟨some 1, rfl, rfl, ht⟩) (fun q h => absurd h List.not_mem_nil) dX3_refusalToBook_25
  · have hf := wk_f hf q3
    refine lv_aload_n hx hb dX3_refusalToBook_11 rfl (lv_at hl 0 rfl) ?_
    refine va_get (D := (dC, dI)) (ci := 5) (v := .ref (a 7)) (C := RX3) (T := TX3) (N := 6) hx hb hts in_X3_refusalToBook_X3 hown hK hP 0 rfl rfl 1 (by decide) (hts _ lk_X3_refusalToBook_RX3_21) (fun _ h9 => h9) rfl dX3_refusalToBook_12 ?_
    refine lv_iload_n hx hb dX3_refusalToBook_15 rfl (lv_at hl 2 rfl) ?_
    obtain ⟨r4, hr5, hf⟩ := wkb1_s hf
    have hPc := hP.sub (ws' := (wX2 Y (fun k => a (k + 7)) B_accounts B_balances B_balancesAtClosing B_entries B_debited B_credited B_amounts)) [7, 8, 9, 10, 11, 12] rfl
    refine wk_vi (As := [.int x2]) (rest := []) ⟨hx, hb, hml, hown, hts⟩ (c_X2_has l dC dI Y (fun k => a (k + 7)) B_accounts B_balances B_balancesAtClosing B_entries B_debited B_credited B_amounts x2 r4 hr5) (cwV 1 hts gX3_refusalToBook_X2_has rfl rfl rfl (by decide +kernel) ⟨Nat.le_of_ble_eq_true rfl, Nat.le_of_ble_eq_true rfl⟩) hK hPc (va_recv hK hP (ci := 4) (q0 := 7) rfl rfl) rfl hl.1 rfl (Nat.le_of_ble_eq_true rfl) dX3_refusalToBook_16 ⟨Nat.le_of_ble_eq_true rfl, Nat.le_of_ble_eq_true rfl⟩ ?_
    refine lv_if_ne (tgt := 26) hx hb dX3_refusalToBook_19 (by decide) (fun q6 => ?_) (fun q6 => ?_)
    · have hf := wk_f hf q6
      refine lv_iload_n hx hb dX3_refusalToBook_26 rfl (lv_at hl 1 rfl) ?_
      refine lv_iload_n hx hb dX3_refusalToBook_27 rfl (lv_at hl 2 rfl) ?_
      refine lv_icmp_eq (tgt := 42) hx hb dX3_refusalToBook_28 (by decide) (fun q7 => ?_) (fun q7 => ?_)
      · have hf := wk_t hf q7
        refine va_gets (v := .ref (g 0 2)) hx hb (hT.1.1 2 (by decide)).1 hS hown (hts _ lk_X3_refusalToBook_RX3_49) (fun _ h9 => h9) dX3_refusalToBook_42 ?_
        have e0 := wke1 hf
        subst e0
        exact W.aret (v := .ref (g 0 2)) hx hb hr (Or.inl ⟨_, rfl⟩) (Or.inr ⟨_, rfl⟩) (fun t ht hW => ⟨some 2, rfl, rfl, ht⟩) (fun q h => absurd h List.not_mem_nil) dX3_refusalToBook_45
      · have hf := wk_f hf q7
        refine lv_iload_n hx hb dX3_refusalToBook_31 rfl (lv_at hl 3 rfl) ?_
        refine lv_iconst (v := 1) hx hb dX3_refusalToBook_32 (by decide) ?_
        refine lv_sipush (v := 9999) hx hb dX3_refusalToBook_33 (by decide) ?_
        obtain ⟨r8, hr9, hf⟩ := wkb1_s hf
        have hPc := hP.sub (ws' := ([] : va_W)) [] rfl
        refine wk_si (As := [.int x3, .int 1, .int 9999]) (rest := []) ⟨hx, hb, hml, hown, hts⟩ (c_X3_isBetween l dC dI Y x3 1 9999 r8 hr9) (va_cwS 3 hts gX3_refusalToBook_X3_isBetween rfl rfl rfl (by decide +kernel) ⟨Nat.le_of_ble_eq_true rfl, Nat.le_of_ble_eq_true rfl⟩) hK hPc rfl hl.1 rfl (Nat.le_of_ble_eq_true rfl) dX3_refusalToBook_36 ⟨Nat.le_of_ble_eq_true rfl, Nat.le_of_ble_eq_true rfl⟩ ?_
        refine lv_if_ne (tgt := 46) hx hb dX3_refusalToBook_39 (by decide) (fun q10 => ?_) (fun q10 => ?_)
        · have hf := wk_f hf q10
          refine lv_aload_n hx hb dX3_refusalToBook_46 rfl (lv_at hl 0 rfl) ?_
          refine va_get (D := (dC, dI)) (ci := 5) (v := .ref (a 7)) (C := RX3) (T := TX3) (N := 6) hx hb hts in_X3_refusalToBook_X3 hown hK hP 0 rfl rfl 1 (by decide) (hts _ lk_X3_refusalToBook_RX3_21) (fun _ h9 => h9) rfl dX3_refusalToBook_47 ?_
          refine lv_iconst (v := 1) hx hb dX3_refusalToBook_50 (by decide) ?_
          obtain ⟨r11, hr12, hf⟩ := wkb1_s hf
          have hPc := hP.sub (ws' := (wX2 Y (fun k => a (k + 7)) B_accounts B_balances B_balancesAtClosing B_entries B_debited B_credited B_amounts)) [7, 8, 9, 10, 11, 12] rfl
          refine wk_vi (As := [.int 1]) (rest := []) ⟨hx, hb, hml, hown, hts⟩ (c_X2_hasRoomFor l dC dI Y (fun k => a (k + 7)) B_accounts B_balances B_balancesAtClosing B_entries B_debited B_credited B_amounts 1 r11 hr12) (cwV 1 hts gX3_refusalToBook_X2_hasRoomFor rfl rfl rfl (by decide +kernel) ⟨Nat.le_of_ble_eq_true rfl, Nat.le_of_ble_eq_true rfl⟩) hK hPc (va_recv hK hP (ci := 4) (q0 := 7) rfl rfl) rfl hl.1 rfl (Nat.le_of_ble_eq_true rfl) dX3_refusalToBook_51 ⟨Nat.le_of_ble_eq_true rfl, Nat.le_of_ble_eq_true rfl⟩ ?_
          refine lv_if_ne (tgt := 61) hx hb dX3_refusalToBook_54 (by decide) (fun q13 => ?_) (fun q13 => ?_)
          · have hf := wk_f hf q13
            refine lv_aload_n hx hb dX3_refusalToBook_61 rfl (lv_at hl 0 rfl) ?_
            refine va_get (D := (dC, dI)) (ci := 5) (v := .ref (a 7)) (C := RX3) (T := TX3) (N := 6) hx hb hts in_X3_refusalToBook_X3 hown hK hP 0 rfl rfl 1 (by decide) (hts _ lk_X3_refusalToBook_RX3_21) (fun _ h9 => h9) rfl dX3_refusalToBook_62 ?_
            refine lv_iload_n hx hb dX3_refusalToBook_65 rfl (lv_at hl 2 rfl) ?_
            refine lv_iload_n hx hb dX3_refusalToBook_66 rfl (lv_at hl 3 rfl) ?_
            obtain ⟨r14, hr15, hf⟩ := wkb1_s hf
            have hPc := hP.sub (ws' := (wX2 Y (fun k => a (k + 7)) B_accounts B_balances B_balancesAtClosing B_entries B_debited B_credited B_amounts)) [7, 8, 9, 10, 11, 12] rfl
            refine wk_vi (As := [.int x2, .int x3]) (rest := []) ⟨hx, hb, hml, hown, hts⟩ (c_X2_overdraws l dC dI Y (fun k => a (k + 7)) B_accounts B_balances B_balancesAtClosing B_entries B_debited B_credited B_amounts x2 x3 r14 hr15) (cwV 2 hts gX3_refusalToBook_X2_overdraws rfl rfl rfl (by decide +kernel) ⟨Nat.le_of_ble_eq_true rfl, Nat.le_of_ble_eq_true rfl⟩) hK hPc (va_recv hK hP (ci := 4) (q0 := 7) rfl rfl) rfl hl.1 rfl (Nat.le_of_ble_eq_true rfl) dX3_refusalToBook_67 ⟨Nat.le_of_ble_eq_true rfl, Nat.le_of_ble_eq_true rfl⟩ ?_
            refine lv_if_eq (tgt := 79) hx hb dX3_refusalToBook_70 (by decide) (fun q16 => ?_) (fun q16 => ?_)
            · have hf := wk_t hf q16
              refine va_gets (v := .ref (g 0 0)) hx hb (hT.1.1 0 (by decide)).1 hS hown (hts _ lk_X3_refusalToBook_RX3_61) (fun _ h9 => h9) dX3_refusalToBook_79 ?_
              have e0 := wke1 hf
              subst e0
              exact W.aret (v := .ref (g 0 0)) hx hb hr (Or.inl ⟨_, rfl⟩) (Or.inr ⟨_, rfl⟩) (fun t ht hW => ⟨some 0, rfl, rfl, ht⟩) (fun q h => absurd h List.not_mem_nil) dX3_refusalToBook_82
            · have hf := wk_f hf q16
              refine va_gets (v := .ref (g 0 4)) hx hb (hT.1.1 4 (by decide)).1 hS hown (hts _ lk_X3_refusalToBook_RX3_85) (fun _ h9 => h9) dX3_refusalToBook_73 ?_
              refine lv_goto (tgt := 82) hx hb dX3_refusalToBook_76 (by decide) ?_
              have e0 := wke1 hf
              subst e0
              exact W.aret (v := .ref (g 0 4)) hx hb hr (Or.inl ⟨_, rfl⟩) (Or.inr ⟨_, rfl⟩) (fun t ht hW => ⟨some 4, rfl, rfl, ht⟩) (fun q h => absurd h List.not_mem_nil) dX3_refusalToBook_82
          · have hf := wk_t hf q13
            refine va_gets (v := .ref (g 0 3)) hx hb (hT.1.1 3 (by decide)).1 hS hown (hts _ lk_X3_refusalToBook_RX3_58) (fun _ h9 => h9) dX3_refusalToBook_57 ?_
            have e0 := wke1 hf
            subst e0
            exact W.aret (v := .ref (g 0 3)) hx hb hr (Or.inl ⟨_, rfl⟩) (Or.inr ⟨_, rfl⟩) (fun t ht hW => ⟨some 3, rfl, rfl, ht⟩) (fun q h => absurd h List.not_mem_nil) dX3_refusalToBook_60
        · have hf := wk_t hf q10
          refine va_gets (v := .ref (g 0 2)) hx hb (hT.1.1 2 (by decide)).1 hS hown (hts _ lk_X3_refusalToBook_RX3_49) (fun _ h9 => h9) dX3_refusalToBook_42 ?_
          have e0 := wke1 hf
          subst e0
          exact W.aret (v := .ref (g 0 2)) hx hb hr (Or.inl ⟨_, rfl⟩) (Or.inr ⟨_, rfl⟩) (fun t ht hW => ⟨some 2, rfl, rfl, ht⟩) (fun q h => absurd h List.not_mem_nil) dX3_refusalToBook_45
    · have hf := wk_t hf q6
      refine va_gets (v := .ref (g 0 1)) hx hb (hT.1.1 1 (by decide)).1 hS hown (hts _ lk_X3_refusalToBook_RX3_75) (fun _ h9 => h9) dX3_refusalToBook_22 ?_
      have e0 := wke1 hf
      subst e0
      exact W.aret (v := .ref (g 0 1)) hx hb hr (Or.inl ⟨_, rfl⟩) (Or.inr ⟨_, rfl⟩) (fun t ht hW => ⟨some 1, rfl, rfl, ht⟩) (fun q h => absurd h List.not_mem_nil) dX3_refusalToBook_25
theorem lk_X3_refusalToPay_RX3_12 : Cond.fieldLink RX3 12 "CircusLedger$Circus" "troupe" "LCircusLedger$Troupe;" ∈ wsX3_refusalToPay := by decide +kernel
theorem lk_X3_refusalToPay_RX3_75 : Cond.fieldLink RX3 75 "CircusLedger$Refusal" "INDEX" "LCircusLedger$Refusal;" ∈ wsX3_refusalToPay := by decide +kernel
theorem in_X3_refusalToPay_X3 : ∀ w ∈ u_ws RX3 TX3 6, w ∈ wsX3_refusalToPay := by decide +kernel
def f_X3_refusalToPay (T_count : Int32) (B_accounts : Int32) (B_balances : Nat → Int32) (B_entries : Int32) (x1 : Int32) (x2 : Int32) : Option (Nat) :=
  wkb1 (f_X9_has T_count x1) (fun r1 =>
  if r1 = 0 then
    (some (1))
  else
    (wkb1 (f_X3_refusalToBook B_accounts B_balances B_entries (5 + x1) 0 x2) (fun r4 =>
    some (r4))))
set_option maxHeartbeats 4000000 in
set_option maxRecDepth 100000 in
theorem c_X3_refusalToPay (l : Launch) (dC : Nat → ClassId) (dI : Nat → Nat → Nat) (Y : Nat → ClassId) (g : Nat → Nat → Nat) (a : Nat → Nat) (T_count : Int32) (T_weights : Nat → Int32) (T_strengths : Nat → Int32) (T_heights : Nat → Int32) (T_wages : Nat → Int32) (T_nightsToHeal : Nat → Int32) (B_accounts : Int32) (B_balances : Nat → Int32) (B_balancesAtClosing : Nat → Int32) (B_entries : Int32) (B_debited : Nat → Int32) (B_credited : Nat → Int32) (B_amounts : Nat → Int32) (C_nights : Int32) (C_netWidth : Int32) (C_shows : Int32) (C_fallen : Int32) (x1 : Int32) (x2 : Int32) (r : Nat) (hf : f_X3_refusalToPay T_count B_accounts B_balances B_entries x1 x2 = some (r)) : Met l yX3_refusalToPay wsX3_refusalToPay ({ frames := 2, cells := 0, slots := 0, locals := 45 } : Room) (va_Pc [.ref (a 0), .int x1, .int x2] (wk_BT (dC, dI) Y g (wX3 Y a T_count T_weights T_strengths T_heights T_wages T_nightsToHeal B_accounts B_balances B_balancesAtClosing B_entries B_debited B_credited B_amounts C_nights C_netWidth C_shows C_fallen))) (va_Se (g 0) (fun r2 => r2 = some r)) 0 0 (fun _ => False) := by
  refine Met.ofW (cc := cX3_refusalToPay) (maxL := 3) (ret := (some (.object "CircusLedger$Refusal"))) (by decide) rfl ?_
  intro p e s m args below meth c s₁ B hml hv
  obtain ⟨rfl, ⟨hP, hK⟩, hT⟩ := hv
  have hx := B.exec
  have hb := B.bytes
  have hr := B.returns
  have hts := atoms_spec (ws := wsX3_refusalToPay) B.pre
  have hown : s.vm.findClass RX3 = some m.cls := findClass_of_methodNamed B.named
  have hlocks := B.notSynchronized
  have C0 : wk_C p s m _ meth c cX3_refusalToPay 3 (some (.object "CircusLedger$Refusal")) wsX3_refusalToPay RX3 := ⟨hx, hb, hml, hr, hlocks, hown, hts⟩
  have hP : va_P (dC, dI) vwCl [(a 0, .inr (5, [.ref (a 1), .ref (a 7), .int C_nights, .int C_netWidth, .int C_shows, .int C_fallen])), (a 1, .inr (9, [.int T_count, .ref (a 2), .ref (a 3), .ref (a 4), .ref (a 5), .ref (a 6)])), (a 2, .inl (Y 0, 6, .inl T_weights)), (a 3, .inl (Y 0, 6, .inl T_strengths)), (a 4, .inl (Y 0, 6, .inl T_heights)), (a 5, .inl (Y 0, 6, .inl T_wages)), (a 6, .inl (Y 0, 6, .inl T_nightsToHeal)), (a 7, .inr (4, [.int B_accounts, .ref (a 8), .ref (a 9), .int B_entries, .ref (a 10), .ref (a 11), .ref (a 12)])), (a 8, .inl (Y 0, 11, .inl B_balances)), (a 9, .inl (Y 0, 11, .inl B_balancesAtClosing)), (a 10, .inl (Y 0, 60, .inl B_debited)), (a 11, .inl (Y 0, 60, .inl B_credited)), (a 12, .inl (Y 0, 60, .inl B_amounts))] s.heap := hP
  have hS : va_S (fun _ : Nat => False) s.heap s.heap [] := va_S.rf
  have hl := lv_entry ([.ref (a 0), .int x1, .int x2]) (n := 3) (Nat.le_of_ble_eq_true rfl)
  rw [lg_entry_eq]
  generalize (lg_sl ([.ref (a 0), .int x1, .int x2]) ++ List.replicate (3 - (lg_sl ([.ref (a 0), .int x1, .int x2])).length) Slot.unset).toArray = ls at hl ⊢
  have hl : lv_has ls 3 [(0, .ref (a 0)), (1, .int x1), (2, .int x2)] := hl
  rw [f_X3_refusalToPay] at hf
  refine lv_aload_n hx hb dX3_refusalToPay_0 rfl (lv_at hl 0 rfl) ?_
  refine va_get (D := (dC, dI)) (ci := 5) (v := .ref (a 1)) (C := RX3) (T := TX3) (N := 6) hx hb hts in_X3_refusalToPay_X3 hown hK hP 0 rfl rfl 0 (by decide) (hts _ lk_X3_refusalToPay_RX3_12) (fun _ h9 => h9) rfl dX3_refusalToPay_1 ?_
  refine lv_iload_n hx hb dX3_refusalToPay_4 rfl (lv_at hl 1 rfl) ?_
  obtain ⟨r1, hr2, hf⟩ := wkb1_s hf
  have hPc := hP.sub (ws' := (wX9 Y (fun k => a (k + 1)) T_count T_weights T_strengths T_heights T_wages T_nightsToHeal)) [1, 2, 3, 4, 5, 6] rfl
  refine wk_vi (As := [.int x1]) (rest := []) ⟨hx, hb, hml, hown, hts⟩ (c_X9_has l dC dI Y (fun k => a (k + 1)) T_count T_weights T_strengths T_heights T_wages T_nightsToHeal x1 r1 hr2) (cwV 1 hts gX3_refusalToPay_X9_has rfl rfl rfl (by decide +kernel) ⟨Nat.le_of_ble_eq_true rfl, Nat.le_of_ble_eq_true rfl⟩) hK hPc (va_recv hK hP (ci := 9) (q0 := 1) rfl rfl) rfl hl.1 rfl (Nat.le_of_ble_eq_true rfl) dX3_refusalToPay_5 ⟨Nat.le_of_ble_eq_true rfl, Nat.le_of_ble_eq_true rfl⟩ ?_
  refine lv_if_ne (tgt := 15) hx hb dX3_refusalToPay_8 (by decide) (fun q3 => ?_) (fun q3 => ?_)
  · have hf := wk_f hf q3
    refine lv_aload_n hx hb dX3_refusalToPay_15 rfl (lv_at hl 0 rfl) ?_
    refine lv_iconst (v := 5) hx hb dX3_refusalToPay_16 (by decide) ?_
    refine lv_iload_n hx hb dX3_refusalToPay_17 rfl (lv_at hl 1 rfl) ?_
    refine lv_iadd hx hb dX3_refusalToPay_18 ?_
    refine lv_iconst (v := 0) hx hb dX3_refusalToPay_19 (by decide) ?_
    refine lv_iload_n hx hb dX3_refusalToPay_20 rfl (lv_at hl 2 rfl) ?_
    obtain ⟨r4, hr5, hf⟩ := wkb1_s hf
    have hPc := hP.sub (ws' := (wX3 Y a T_count T_weights T_strengths T_heights T_wages T_nightsToHeal B_accounts B_balances B_balancesAtClosing B_entries B_debited B_credited B_amounts C_nights C_netWidth C_shows C_fallen)) [0, 1, 2, 3, 4, 5, 6, 7, 8, 9, 10, 11, 12] rfl
    refine wk_veT (As := [.int (5 + x1), .int 0, .int x2]) (rest := []) ⟨hx, hb, hml, hown, hts⟩ (c_X3_refusalToBook l dC dI Y g a T_count T_weights T_strengths T_heights T_wages T_nightsToHeal B_accounts B_balances B_balancesAtClosing B_entries B_debited B_credited B_amounts C_nights C_netWidth C_shows C_fallen (5 + x1) 0 x2 r4 hr5) (cwV 3 hts gX3_refusalToPay_X3_refusalToBook rfl rfl rfl (by decide +kernel) ⟨Nat.le_of_ble_eq_true rfl, Nat.le_of_ble_eq_true rfl⟩) hK hPc hT hS (va_recv hK hP (ci := 5) (q0 := 0) rfl rfl) rfl hl.1 rfl (Nat.le_of_ble_eq_true rfl) dX3_refusalToPay_21 ⟨Nat.le_of_ble_eq_true rfl, Nat.le_of_ble_eq_true rfl⟩ ?_
    have e0 := wke1 hf
    subst e0
    exact W.aret (v := .ref (g 0 r4)) hx hb hr (Or.inl ⟨_, rfl⟩) (Or.inr ⟨_, rfl⟩) (fun t ht hW => ⟨some r4, rfl, rfl, ht⟩) (fun q h => absurd h List.not_mem_nil) dX3_refusalToPay_24
  · have hf := wk_t hf q3
    refine va_gets (v := .ref (g 0 1)) hx hb (hT.1.1 1 (by decide)).1 hS hown (hts _ lk_X3_refusalToPay_RX3_75) (fun _ h9 => h9) dX3_refusalToPay_11 ?_
    have e0 := wke1 hf
    subst e0
    exact W.aret (v := .ref (g 0 1)) hx hb hr (Or.inl ⟨_, rfl⟩) (Or.inr ⟨_, rfl⟩) (fun t ht hW => ⟨some 1, rfl, rfl, ht⟩) (fun q h => absurd h List.not_mem_nil) dX3_refusalToPay_14
theorem lk_X3_pay_RX3_21 : Cond.fieldLink RX3 21 "CircusLedger$Circus" "books" "LCircusLedger$Books;" ∈ wsX3_pay := by decide +kernel
theorem lk_X3_pay_RX3_97 : Cond.fieldLink RX3 97 "CircusLedger$Books" "balances" "[I" ∈ wsX3_pay := by decide +kernel
theorem in_X3_pay_X2 : ∀ w ∈ u_ws RX2 TX2 7, w ∈ wsX3_pay := by decide +kernel
theorem in_X3_pay_X3 : ∀ w ∈ u_ws RX3 TX3 6, w ∈ wsX3_pay := by decide +kernel
def f_X3_pay (B_balances : Nat → Int32) (B_entries : Int32) (B_debited : Nat → Int32) (B_credited : Nat → Int32) (B_amounts : Nat → Int32) (x1 : Int32) (x2 : Int32) : Option (Int32 × (Nat → Int32) × Int32 × (Nat → Int32) × (Nat → Int32) × (Nat → Int32)) :=
  wkb6 (f_X2_book B_balances B_entries B_debited B_credited B_amounts (5 + x1) 0 x2) (fun r1 w2 w3 w4 w5 w6 =>
  gin (5 + x1) 11 (some ((w2 (5 + x1).toNatClampNeg), w2, w3, w4, w5, w6)))
set_option maxHeartbeats 4000000 in
set_option maxRecDepth 100000 in
theorem c_X3_pay (l : Launch) (dC : Nat → ClassId) (dI : Nat → Nat → Nat) (Y : Nat → ClassId) (a : Nat → Nat) (T_count : Int32) (T_weights : Nat → Int32) (T_strengths : Nat → Int32) (T_heights : Nat → Int32) (T_wages : Nat → Int32) (T_nightsToHeal : Nat → Int32) (B_accounts : Int32) (B_balances : Nat → Int32) (B_balancesAtClosing : Nat → Int32) (B_entries : Int32) (B_debited : Nat → Int32) (B_credited : Nat → Int32) (B_amounts : Nat → Int32) (C_nights : Int32) (C_netWidth : Int32) (C_shows : Int32) (C_fallen : Int32) (x1 : Int32) (x2 : Int32) (sz : Nat) (r : Int32) (zB_balances : Nat → Int32) (zB_entries : Int32) (zB_debited : Nat → Int32) (zB_credited : Nat → Int32) (zB_amounts : Nat → Int32) (hf : f_X3_pay B_balances B_entries B_debited B_credited B_amounts x1 x2 = some (r, zB_balances, zB_entries, zB_debited, zB_credited, zB_amounts)) : Met l yX3_pay wsX3_pay ({ frames := 1, cells := 0, slots := 0, locals := 24 } : Room) (va_Pc [.ref (a 0), .int x1, .int x2] (wk_E (dC, dI) Y (wX3 Y a T_count T_weights T_strengths T_heights T_wages T_nightsToHeal B_accounts B_balances B_balancesAtClosing B_entries B_debited B_credited B_amounts C_nights C_netWidth C_shows C_fallen) sz)) (va_Qi (fun r2 (_ : Unit) => r2 = r) (fun _ t => wk_X (dC, dI) Y (wX3 Y a T_count T_weights T_strengths T_heights T_wages T_nightsToHeal B_accounts zB_balances B_balancesAtClosing zB_entries zB_debited zB_credited zB_amounts C_nights C_netWidth C_shows C_fallen) (va_A (wX3 Y a T_count T_weights T_strengths T_heights T_wages T_nightsToHeal B_accounts B_balances B_balancesAtClosing B_entries B_debited B_credited B_amounts C_nights C_netWidth C_shows C_fallen) sz) t) (va_A (wX3 Y a T_count T_weights T_strengths T_heights T_wages T_nightsToHeal B_accounts B_balances B_balancesAtClosing B_entries B_debited B_credited B_amounts C_nights C_netWidth C_shows C_fallen) sz)) 0 0 (va_A (wX3 Y a T_count T_weights T_strengths T_heights T_wages T_nightsToHeal B_accounts B_balances B_balancesAtClosing B_entries B_debited B_credited B_amounts C_nights C_netWidth C_shows C_fallen) sz) := by
  refine Met.ofW (cc := cX3_pay) (maxL := 4) (ret := (some .int)) (by decide) rfl ?_
  intro p e s m args below meth c s₁ B hml hv
  obtain ⟨rfl, hsz, hP, hK, hD0⟩ := hv
  have hx := B.exec
  have hb := B.bytes
  have hr := B.returns
  have hts := atoms_spec (ws := wsX3_pay) B.pre
  have hown : s.vm.findClass RX3 = some m.cls := findClass_of_methodNamed B.named
  have hlocks := B.notSynchronized
  have C0 : wk_C p s m _ meth c cX3_pay 4 (some .int) wsX3_pay RX3 := ⟨hx, hb, hml, hr, hlocks, hown, hts⟩
  subst hsz
  have hD := hD0.self (sz := s.heap.size)
  generalize hAe : va_A (wX3 Y a T_count T_weights T_strengths T_heights T_wages T_nightsToHeal B_accounts B_balances B_balancesAtClosing B_entries B_debited B_credited B_amounts C_nights C_netWidth C_shows C_fallen) s.heap.size = A at hD ⊢
  have hA : ∀ q : Nat, s.heap.size ≤ q → A q := fun q h => by rw [← hAe]; exact Or.inr h
  have hS : va_S A s.heap s.heap [] := va_S.rf
  obtain ⟨H, hHe⟩ : ∃ H, H = s.heap := ⟨_, rfl⟩
  have hS : va_S A s.heap H [] := by rw [hHe]; exact hS
  have hP : va_P (dC, dI) vwCl [(a 0, .inr (5, [.ref (a 1), .ref (a 7), .int C_nights, .int C_netWidth, .int C_shows, .int C_fallen])), (a 1, .inr (9, [.int T_count, .ref (a 2), .ref (a 3), .ref (a 4), .ref (a 5), .ref (a 6)])), (a 2, .inl (Y 0, 6, .inl T_weights)), (a 3, .inl (Y 0, 6, .inl T_strengths)), (a 4, .inl (Y 0, 6, .inl T_heights)), (a 5, .inl (Y 0, 6, .inl T_wages)), (a 6, .inl (Y 0, 6, .inl T_nightsToHeal)), (a 7, .inr (4, [.int B_accounts, .ref (a 8), .ref (a 9), .int B_entries, .ref (a 10), .ref (a 11), .ref (a 12)])), (a 8, .inl (Y 0, 11, .inl B_balances)), (a 9, .inl (Y 0, 11, .inl B_balancesAtClosing)), (a 10, .inl (Y 0, 60, .inl B_debited)), (a 11, .inl (Y 0, 60, .inl B_credited)), (a 12, .inl (Y 0, 60, .inl B_amounts))] H := by rw [hHe]; exact hP
  have hD : va_D A [(a 0, .inr (5, [.ref (a 1), .ref (a 7), .int C_nights, .int C_netWidth, .int C_shows, .int C_fallen])), (a 1, .inr (9, [.int T_count, .ref (a 2), .ref (a 3), .ref (a 4), .ref (a 5), .ref (a 6)])), (a 2, .inl (Y 0, 6, .inl T_weights)), (a 3, .inl (Y 0, 6, .inl T_strengths)), (a 4, .inl (Y 0, 6, .inl T_heights)), (a 5, .inl (Y 0, 6, .inl T_wages)), (a 6, .inl (Y 0, 6, .inl T_nightsToHeal)), (a 7, .inr (4, [.int B_accounts, .ref (a 8), .ref (a 9), .int B_entries, .ref (a 10), .ref (a 11), .ref (a 12)])), (a 8, .inl (Y 0, 11, .inl B_balances)), (a 9, .inl (Y 0, 11, .inl B_balancesAtClosing)), (a 10, .inl (Y 0, 60, .inl B_debited)), (a 11, .inl (Y 0, 60, .inl B_credited)), (a 12, .inl (Y 0, 60, .inl B_amounts))] := hD
  obtain ⟨locs, hlo⟩ : ∃ locs : List Loc, locs = [] := ⟨_, rfl⟩
  have hS : va_S A s.heap H locs := by rw [hlo]; exact hS
  have hl := lv_entry ([.ref (a 0), .int x1, .int x2]) (n := 4) (Nat.le_of_ble_eq_true rfl)
  rw [lg_entry_eq]
  generalize (lg_sl ([.ref (a 0), .int x1, .int x2]) ++ List.replicate (4 - (lg_sl ([.ref (a 0), .int x1, .int x2])).length) Slot.unset).toArray = ls at hl ⊢
  have hl : lv_has ls 4 [(0, .ref (a 0)), (1, .int x1), (2, .int x2)] := hl
  refine wk_start hHe hlo ?_
  rw [f_X3_pay] at hf
  refine lv_iconst (v := 5) hx hb dX3_pay_0 (by decide) ?_
  refine lv_iload_n hx hb dX3_pay_1 rfl (lv_at hl 1 rfl) ?_
  refine lv_iadd hx hb dX3_pay_2 ?_
  refine lv_istore_n (lv' := [(3, .int (5 + x1)), (0, .ref (a 0)), (1, .int x1), (2, .int x2)]) hx hb dX3_pay_3 rfl hl (by decide) rfl (fun ls hl => ?_)
  refine lv_aload_n hx hb dX3_pay_4 rfl (lv_at hl 1 rfl) ?_
  refine va_get (D := (dC, dI)) (ci := 5) (v := .ref (a 7)) (C := RX3) (T := TX3) (N := 6) hx hb hts in_X3_pay_X3 hown hK hP 0 rfl rfl 1 (by decide) (hts _ lk_X3_pay_RX3_21) (fun _ h9 => h9) rfl dX3_pay_5 ?_
  refine lv_iload_n hx hb dX3_pay_8 rfl (lv_at hl 0 rfl) ?_
  refine lv_iconst (v := 0) hx hb dX3_pay_9 (by decide) ?_
  refine lv_iload_n hx hb dX3_pay_10 rfl (lv_at hl 3 rfl) ?_
  obtain ⟨r1, w2, w3, w4, w5, w6, hr7, hf⟩ := wkb6_s hf
  refine wk_evi (As := [.int (5 + x1), .int 0, .int x2]) (rest := []) (wc := (wX2 Y (fun k => a (k + 7)) B_accounts B_balances B_balancesAtClosing B_entries B_debited B_credited B_amounts)) (w1 := (wX2 Y (fun k => a (k + 7)) B_accounts w2 B_balancesAtClosing w3 w4 w5 w6)) (wr := [(a 0, .inr (5, [.ref (a 1), .ref (a 7), .int C_nights, .int C_netWidth, .int C_shows, .int C_fallen])), (a 1, .inr (9, [.int T_count, .ref (a 2), .ref (a 3), .ref (a 4), .ref (a 5), .ref (a 6)])), (a 2, .inl (Y 0, 6, .inl T_weights)), (a 3, .inl (Y 0, 6, .inl T_strengths)), (a 4, .inl (Y 0, 6, .inl T_heights)), (a 5, .inl (Y 0, 6, .inl T_wages)), (a 6, .inl (Y 0, 6, .inl T_nightsToHeal))]) ⟨hx, hb, hml, hown, hts⟩ (c_X2_book l dC dI Y (fun k => a (k + 7)) B_accounts B_balances B_balancesAtClosing B_entries B_debited B_credited B_amounts (5 + x1) 0 x2 H.size r1 w2 w3 w4 w5 w6 hr7) (cwV 3 hts gX3_pay_X2_book rfl rfl rfl (by decide +kernel) ⟨Nat.le_of_ble_eq_true rfl, Nat.le_of_ble_eq_true rfl⟩) hK hP hD hS hA [7, 8, 9, 10, 11, 12] [0, 1, 2, 3, 4, 5, 6] rfl rfl (by decide) (by decide) (by decide) (va_recv hK hP (ci := 4) (q0 := 7) rfl rfl) rfl hl.1 rfl (Nat.le_of_ble_eq_true rfl) dX3_pay_11 ⟨Nat.le_of_ble_eq_true rfl, Nat.le_of_ble_eq_true rfl⟩ (fun H locs hP hD hS => ?_)
  have hP : va_P (dC, dI) vwCl [(a 0, .inr (5, [.ref (a 1), .ref (a 7), .int C_nights, .int C_netWidth, .int C_shows, .int C_fallen])), (a 1, .inr (9, [.int T_count, .ref (a 2), .ref (a 3), .ref (a 4), .ref (a 5), .ref (a 6)])), (a 2, .inl (Y 0, 6, .inl T_weights)), (a 3, .inl (Y 0, 6, .inl T_strengths)), (a 4, .inl (Y 0, 6, .inl T_heights)), (a 5, .inl (Y 0, 6, .inl T_wages)), (a 6, .inl (Y 0, 6, .inl T_nightsToHeal)), (a 7, .inr (4, [.int B_accounts, .ref (a 8), .ref (a 9), .int w3, .ref (a 10), .ref (a 11), .ref (a 12)])), (a 8, .inl (Y 0, 11, .inl w2)), (a 9, .inl (Y 0, 11, .inl B_balancesAtClosing)), (a 10, .inl (Y 0, 60, .inl w4)), (a 11, .inl (Y 0, 60, .inl w5)), (a 12, .inl (Y 0, 60, .inl w6))] H := hP
  have hD : va_D A [(a 0, .inr (5, [.ref (a 1), .ref (a 7), .int C_nights, .int C_netWidth, .int C_shows, .int C_fallen])), (a 1, .inr (9, [.int T_count, .ref (a 2), .ref (a 3), .ref (a 4), .ref (a 5), .ref (a 6)])), (a 2, .inl (Y 0, 6, .inl T_weights)), (a 3, .inl (Y 0, 6, .inl T_strengths)), (a 4, .inl (Y 0, 6, .inl T_heights)), (a 5, .inl (Y 0, 6, .inl T_wages)), (a 6, .inl (Y 0, 6, .inl T_nightsToHeal)), (a 7, .inr (4, [.int B_accounts, .ref (a 8), .ref (a 9), .int w3, .ref (a 10), .ref (a 11), .ref (a 12)])), (a 8, .inl (Y 0, 11, .inl w2)), (a 9, .inl (Y 0, 11, .inl B_balancesAtClosing)), (a 10, .inl (Y 0, 60, .inl w4)), (a 11, .inl (Y 0, 60, .inl w5)), (a 12, .inl (Y 0, 60, .inl w6))] := hD
  refine lv_pop hx hb dX3_pay_14 rfl ?_
  refine lv_aload_n hx hb dX3_pay_15 rfl (lv_at hl 1 rfl) ?_
  refine va_get (D := (dC, dI)) (ci := 5) (v := .ref (a 7)) (C := RX3) (T := TX3) (N := 6) hx hb hts in_X3_pay_X3 hown hK hP 0 rfl rfl 1 (by decide) (hts _ lk_X3_pay_RX3_21) (fun _ h9 => h9) rfl dX3_pay_16 ?_
  refine va_get (D := (dC, dI)) (ci := 4) (v := .ref (a 8)) (C := RX2) (T := TX2) (N := 7) hx hb hts in_X3_pay_X2 hown hK hP 7 rfl rfl 1 (by decide) (hts _ lk_X3_pay_RX3_97) (fun _ h9 => h9) rfl dX3_pay_19 ?_
  refine lv_iload_n hx hb dX3_pay_22 rfl (lv_at hl 0 rfl) ?_
  obtain ⟨h8, hf⟩ := gin_s hf
  refine wk_iald hx hb hK hP 8 0 rfl rfl h8 rfl dX3_pay_23 ?_
  obtain ⟨e0, e1, e2, e3, e4, e5⟩ := wke6 hf
  subst e0
  subst e1
  subst e2
  subst e3
  subst e4
  subst e5
  have hP9 := hP.sub (ws' := (wX3 Y a T_count T_weights T_strengths T_heights T_wages T_nightsToHeal B_accounts w2 B_balancesAtClosing w3 w4 w5 w6 C_nights C_netWidth C_shows C_fallen)) [0, 1, 2, 3, 4, 5, 6, 7, 8, 9, 10, 11, 12] rfl
  have hD9 := hD.sub (ws' := (wX3 Y a T_count T_weights T_strengths T_heights T_wages T_nightsToHeal B_accounts w2 B_balancesAtClosing w3 w4 w5 w6 C_nights C_netWidth C_shows C_fallen)) [0, 1, 2, 3, 4, 5, 6, 7, 8, 9, 10, 11, 12] (by decide) rfl
  exact W.iret (v := (w2 (5 + x1).toNatClampNeg)) hx hb hr (fun t ht hW => ⟨⟨(w2 (5 + x1).toNatClampNeg), (), rfl, rfl, by rw [ht]; exact hP9, va_K.moved hW.alike hK, hD9⟩, hS.F ht⟩) hS.2.2 dX3_pay_24
theorem lk_X3_refusalToShow_RX3_12 : Cond.fieldLink RX3 12 "CircusLedger$Circus" "troupe" "LCircusLedger$Troupe;" ∈ wsX3_refusalToShow := by decide +kernel
theorem lk_X3_refusalToShow_RX3_21 : Cond.fieldLink RX3 21 "CircusLedger$Circus" "books" "LCircusLedger$Books;" ∈ wsX3_refusalToShow := by decide +kernel
theorem lk_X3_refusalToShow_RX3_49 : Cond.fieldLink RX3 49 "CircusLedger$Refusal" "ARGUMENT" "LCircusLedger$Refusal;" ∈ wsX3_refusalToShow := by decide +kernel
theorem lk_X3_refusalToShow_RX3_58 : Cond.fieldLink RX3 58 "CircusLedger$Refusal" "STATE" "LCircusLedger$Refusal;" ∈ wsX3_refusalToShow := by decide +kernel
theorem lk_X3_refusalToShow_RX3_61 : Cond.fieldLink RX3 61 "CircusLedger$Refusal" "NONE" "LCircusLedger$Refusal;" ∈ wsX3_refusalToShow := by decide +kernel
theorem lk_X3_refusalToShow_RX3_85 : Cond.fieldLink RX3 85 "CircusLedger$Refusal" "UNSUPPORTED" "LCircusLedger$Refusal;" ∈ wsX3_refusalToShow := by decide +kernel
theorem in_X3_refusalToShow_X3 : ∀ w ∈ u_ws RX3 TX3 6, w ∈ wsX3_refusalToShow := by decide +kernel
def f_X3_refusalToShow (T_count : Int32) (T_weights : Nat → Int32) (T_strengths : Nat → Int32) (T_nightsToHeal : Nat → Int32) (B_balances : Nat → Int32) (B_entries : Int32) (x1 : Int32) : Option (Nat) :=
  wkb1 (f_X9_isSet T_count x1) (fun r1 =>
  if r1 = 0 then
    (some (2))
  else
    (wkb1 (f_X9_fitSet T_count T_nightsToHeal) (fun r4 =>
    if (x1 &&& r4) = x1 then
      (wkb1 (f_X9_damagesOf T_count T_weights T_strengths x1) (fun r7 =>
      wkb1 (f_X3_entriesOfShow B_balances x1 r7) (fun r9 =>
      wkb1 (f_X2_hasRoomFor B_entries r9) (fun r11 =>
      if r11 = 0 then
        (some (3))
      else
        (some (0))))))
    else
      (some (4)))))
set_option maxHeartbeats 4000000 in
set_option maxRecDepth 100000 in
theorem c_X3_refusalToShow (l : Launch) (dC : Nat → ClassId) (dI : Nat → Nat → Nat) (Y : Nat → ClassId) (g : Nat → Nat → Nat) (a : Nat → Nat) (T_count : Int32) (T_weights : Nat → Int32) (T_strengths : Nat → Int32) (T_heights : Nat → Int32) (T_wages : Nat → Int32) (T_nightsToHeal : Nat → Int32) (B_accounts : Int32) (B_balances : Nat → Int32) (B_balancesAtClosing : Nat → Int32) (B_entries : Int32) (B_debited : Nat → Int32) (B_credited : Nat → Int32) (B_amounts : Nat → Int32) (C_nights : Int32) (C_netWidth : Int32) (C_shows : Int32) (C_fallen : Int32) (x1 : Int32) (r : Nat) (hf : f_X3_refusalToShow T_count T_weights T_strengths T_nightsToHeal B_balances B_entries x1 = some (r)) : Met l yX3_refusalToShow wsX3_refusalToShow ({ frames := 4, cells := 0, slots := 0, locals := 93 } : Room) (va_Pc [.ref (a 0), .int x1] (wk_BT (dC, dI) Y g (wX3 Y a T_count T_weights T_strengths T_heights T_wages T_nightsToHeal B_accounts B_balances B_balancesAtClosing B_entries B_debited B_credited B_amounts C_nights C_netWidth C_shows C_fallen))) (va_Se (g 0) (fun r2 => r2 = some r)) 0 0 (fun _ => False) := by
  refine Met.ofW (cc := cX3_refusalToShow) (maxL := 3) (ret := (some (.object "CircusLedger$Refusal"))) (by decide) rfl ?_
  intro p e s m args below meth c s₁ B hml hv
  obtain ⟨rfl, ⟨hP, hK⟩, hT⟩ := hv
  have hx := B.exec
  have hb := B.bytes
  have hr := B.returns
  have hts := atoms_spec (ws := wsX3_refusalToShow) B.pre
  have hown : s.vm.findClass RX3 = some m.cls := findClass_of_methodNamed B.named
  have hlocks := B.notSynchronized
  have C0 : wk_C p s m _ meth c cX3_refusalToShow 3 (some (.object "CircusLedger$Refusal")) wsX3_refusalToShow RX3 := ⟨hx, hb, hml, hr, hlocks, hown, hts⟩
  have hP : va_P (dC, dI) vwCl [(a 0, .inr (5, [.ref (a 1), .ref (a 7), .int C_nights, .int C_netWidth, .int C_shows, .int C_fallen])), (a 1, .inr (9, [.int T_count, .ref (a 2), .ref (a 3), .ref (a 4), .ref (a 5), .ref (a 6)])), (a 2, .inl (Y 0, 6, .inl T_weights)), (a 3, .inl (Y 0, 6, .inl T_strengths)), (a 4, .inl (Y 0, 6, .inl T_heights)), (a 5, .inl (Y 0, 6, .inl T_wages)), (a 6, .inl (Y 0, 6, .inl T_nightsToHeal)), (a 7, .inr (4, [.int B_accounts, .ref (a 8), .ref (a 9), .int B_entries, .ref (a 10), .ref (a 11), .ref (a 12)])), (a 8, .inl (Y 0, 11, .inl B_balances)), (a 9, .inl (Y 0, 11, .inl B_balancesAtClosing)), (a 10, .inl (Y 0, 60, .inl B_debited)), (a 11, .inl (Y 0, 60, .inl B_credited)), (a 12, .inl (Y 0, 60, .inl B_amounts))] s.heap := hP
  have hS : va_S (fun _ : Nat => False) s.heap s.heap [] := va_S.rf
  have hl := lv_entry ([.ref (a 0), .int x1]) (n := 3) (Nat.le_of_ble_eq_true rfl)
  rw [lg_entry_eq]
  generalize (lg_sl ([.ref (a 0), .int x1]) ++ List.replicate (3 - (lg_sl ([.ref (a 0), .int x1])).length) Slot.unset).toArray = ls at hl ⊢
  have hl : lv_has ls 3 [(0, .ref (a 0)), (1, .int x1)] := hl
  rw [f_X3_refusalToShow] at hf
  refine lv_aload_n hx hb dX3_refusalToShow_0 rfl (lv_at hl 0 rfl) ?_
  refine va_get (D := (dC, dI)) (ci := 5) (v := .ref (a 1)) (C := RX3) (T := TX3) (N := 6) hx hb hts in_X3_refusalToShow_X3 hown hK hP 0 rfl rfl 0 (by decide) (hts _ lk_X3_refusalToShow_RX3_12) (fun _ h9 => h9) rfl dX3_refusalToShow_1 ?_
  refine lv_iload_n hx hb dX3_refusalToShow_4 rfl (lv_at hl 1 rfl) ?_
  obtain ⟨r1, hr2, hf⟩ := wkb1_s hf
  have hPc := hP.sub (ws' := (wX9 Y (fun k => a (k + 1)) T_count T_weights T_strengths T_heights T_wages T_nightsToHeal)) [1, 2, 3, 4, 5, 6] rfl
  refine wk_vi (As := [.int x1]) (rest := []) ⟨hx, hb, hml, hown, hts⟩ (c_X9_isSet l dC dI Y (fun k => a (k + 1)) T_count T_weights T_strengths T_heights T_wages T_nightsToHeal x1 r1 hr2) (cwV 1 hts gX3_refusalToShow_X9_isSet rfl rfl rfl (by decide +kernel) ⟨Nat.le_of_ble_eq_true rfl, Nat.le_of_ble_eq_true rfl⟩) hK hPc (va_recv hK hP (ci := 9) (q0 := 1) rfl rfl) rfl hl.1 rfl (Nat.le_of_ble_eq_true rfl) dX3_refusalToShow_5 ⟨Nat.le_of_ble_eq_true rfl, Nat.le_of_ble_eq_true rfl⟩ ?_
  refine lv_if_ne (tgt := 15) hx hb dX3_refusalToShow_8 (by decide) (fun q3 => ?_) (fun q3 => ?_)
  · have hf := wk_f hf q3
    refine lv_iload_n hx hb dX3_refusalToShow_15 rfl (lv_at hl 1 rfl) ?_
    refine lv_aload_n hx hb dX3_refusalToShow_16 rfl (lv_at hl 0 rfl) ?_
    refine va_get (D := (dC, dI)) (ci := 5) (v := .ref (a 1)) (C := RX3) (T := TX3) (N := 6) hx hb hts in_X3_refusalToShow_X3 hown hK hP 0 rfl rfl 0 (by decide) (hts _ lk_X3_refusalToShow_RX3_12) (fun _ h9 => h9) rfl dX3_refusalToShow_17 ?_
    obtain ⟨r4, hr5, hf⟩ := wkb1_s hf
    have hPc := hP.sub (ws' := (wX9 Y (fun k => a (k + 1)) T_count T_weights T_strengths T_heights T_wages T_nightsToHeal)) [1, 2, 3, 4, 5, 6] rfl
    refine wk_vi (As := []) (rest := [.int x1]) ⟨hx, hb, hml, hown, hts⟩ (c_X9_fitSet l dC dI Y (fun k => a (k + 1)) T_count T_weights T_strengths T_heights T_wages T_nightsToHeal r4 hr5) (cwV 0 hts gX3_refusalToShow_X9_fitSet rfl rfl rfl (by decide +kernel) ⟨Nat.le_of_ble_eq_true rfl, Nat.le_of_ble_eq_true rfl⟩) hK hPc (va_recv hK hP (ci := 9) (q0 := 1) rfl rfl) rfl hl.1 rfl (Nat.le_of_ble_eq_true rfl) dX3_refusalToShow_20 ⟨Nat.le_of_ble_eq_true rfl, Nat.le_of_ble_eq_true rfl⟩ ?_
    refine lv_iand hx hb dX3_refusalToShow_23 ?_
    refine lv_iload_n hx hb dX3_refusalToShow_24 rfl (lv_at hl 1 rfl) ?_
    refine lv_icmp_eq (tgt := 32) hx hb dX3_refusalToShow_25 (by decide) (fun q6 => ?_) (fun q6 => ?_)
    · have hf := wk_t hf q6
      refine lv_aload_n hx hb dX3_refusalToShow_32 rfl (lv_at hl 0 rfl) ?_
      refine lv_iload_n hx hb dX3_refusalToShow_33 rfl (lv_at hl 1 rfl) ?_
      refine lv_aload_n hx hb dX3_refusalToShow_34 rfl (lv_at hl 0 rfl) ?_
      refine va_get (D := (dC, dI)) (ci := 5) (v := .ref (a 1)) (C := RX3) (T := TX3) (N := 6) hx hb hts in_X3_refusalToShow_X3 hown hK hP 0 rfl rfl 0 (by decide) (hts _ lk_X3_refusalToShow_RX3_12) (fun _ h9 => h9) rfl dX3_refusalToShow_35 ?_
      refine lv_iload_n hx hb dX3_refusalToShow_38 rfl (lv_at hl 1 rfl) ?_
      obtain ⟨r7, hr8, hf⟩ := wkb1_s hf
      have hPc := hP.sub (ws' := (wX9 Y (fun k => a (k + 1)) T_count T_weights T_strengths T_heights T_wages T_nightsToHeal)) [1, 2, 3, 4, 5, 6] rfl
      refine wk_vi (As := [.int x1]) (rest := [.int x1, .ref (a 0)]) ⟨hx, hb, hml, hown, hts⟩ (c_X9_damagesOf l dC dI Y (fun k => a (k + 1)) T_count T_weights T_strengths T_heights T_wages T_nightsToHeal x1 r7 hr8) (cwV 1 hts gX3_refusalToShow_X9_damagesOf rfl rfl rfl (by decide +kernel) ⟨Nat.le_of_ble_eq_true rfl, Nat.le_of_ble_eq_true rfl⟩) hK hPc (va_recv hK hP (ci := 9) (q0 := 1) rfl rfl) rfl hl.1 rfl (Nat.le_of_ble_eq_true rfl) dX3_refusalToShow_39 ⟨Nat.le_of_ble_eq_true rfl, Nat.le_of_ble_eq_true rfl⟩ ?_
      obtain ⟨r9, hr10, hf⟩ := wkb1_s hf
      have hPc := hP.sub (ws' := (wX3 Y a T_count T_weights T_strengths T_heights T_wages T_nightsToHeal B_accounts B_balances B_balancesAtClosing B_entries B_debited B_credited B_amounts C_nights C_netWidth C_shows C_fallen)) [0, 1, 2, 3, 4, 5, 6, 7, 8, 9, 10, 11, 12] rfl
      refine wk_vi (As := [.int x1, .int r7]) (rest := []) ⟨hx, hb, hml, hown, hts⟩ (c_X3_entriesOfShow l dC dI Y a T_count T_weights T_strengths T_heights T_wages T_nightsToHeal B_accounts B_balances B_balancesAtClosing B_entries B_debited B_credited B_amounts C_nights C_netWidth C_shows C_fallen x1 r7 r9 hr10) (cwV 2 hts gX3_refusalToShow_X3_entriesOfShow rfl rfl rfl (by decide +kernel) ⟨Nat.le_of_ble_eq_true rfl, Nat.le_of_ble_eq_true rfl⟩) hK hPc (va_recv hK hP (ci := 5) (q0 := 0) rfl rfl) rfl hl.1 rfl (Nat.le_of_ble_eq_true rfl) dX3_refusalToShow_42 ⟨Nat.le_of_ble_eq_true rfl, Nat.le_of_ble_eq_true rfl⟩ ?_
      refine lv_istore_n (lv' := [(2, .int r9), (0, .ref (a 0)), (1, .int x1)]) hx hb dX3_refusalToShow_45 rfl hl (by decide) rfl (fun ls hl => ?_)
      refine lv_aload_n hx hb dX3_refusalToShow_46 rfl (lv_at hl 1 rfl) ?_
      refine va_get (D := (dC, dI)) (ci := 5) (v := .ref (a 7)) (C := RX3) (T := TX3) (N := 6) hx hb hts in_X3_refusalToShow_X3 hown hK hP 0 rfl rfl 1 (by decide) (hts _ lk_X3_refusalToShow_RX3_21) (fun _ h9 => h9) rfl dX3_refusalToShow_47 ?_
      refine lv_iload_n hx hb dX3_refusalToShow_50 rfl (lv_at hl 0 rfl) ?_
      obtain ⟨r11, hr12, hf⟩ := wkb1_s hf
      have hPc := hP.sub (ws' := (wX2 Y (fun k => a (k + 7)) B_accounts B_balances B_balancesAtClosing B_entries B_debited B_credited B_amounts)) [7, 8, 9, 10, 11, 12] rfl
      refine wk_vi (As := [.int r9]) (rest := []) ⟨hx, hb, hml, hown, hts⟩ (c_X2_hasRoomFor l dC dI Y (fun k => a (k + 7)) B_accounts B_balances B_balancesAtClosing B_entries B_debited B_credited B_amounts r9 r11 hr12) (cwV 1 hts gX3_refusalToShow_X2_hasRoomFor rfl rfl rfl (by decide +kernel) ⟨Nat.le_of_ble_eq_true rfl, Nat.le_of_ble_eq_true rfl⟩) hK hPc (va_recv hK hP (ci := 4) (q0 := 7) rfl rfl) rfl hl.1 rfl (Nat.le_of_ble_eq_true rfl) dX3_refusalToShow_51 ⟨Nat.le_of_ble_eq_true rfl, Nat.le_of_ble_eq_true rfl⟩ ?_
      refine lv_if_eq (tgt := 63) hx hb dX3_refusalToShow_54 (by decide) (fun q13 => ?_) (fun q13 => ?_)
      · have hf := wk_t hf q13
        refine va_gets (v := .ref (g 0 3)) hx hb (hT.1.1 3 (by decide)).1 hS hown (hts _ lk_X3_refusalToShow_RX3_58) (fun _ h9 => h9) dX3_refusalToShow_63 ?_
        have e0 := wke1 hf
        subst e0
        exact W.aret (v := .ref (g 0 3)) hx hb hr (Or.inl ⟨_, rfl⟩) (Or.inr ⟨_, rfl⟩) (fun t ht hW => ⟨some 3, rfl, rfl, ht⟩) (fun q h => absurd h List.not_mem_nil) dX3_refusalToShow_66
      · have hf := wk_f hf q13
        refine va_gets (v := .ref (g 0 0)) hx hb (hT.1.1 0 (by decide)).1 hS hown (hts _ lk_X3_refusalToShow_RX3_61) (fun _ h9 => h9) dX3_refusalToShow_57 ?_
        refine lv_goto (tgt := 66) hx hb dX3_refusalToShow_60 (by decide) ?_
        have e0 := wke1 hf
        subst e0
        exact W.aret (v := .ref (g 0 0)) hx hb hr (Or.inl ⟨_, rfl⟩) (Or.inr ⟨_, rfl⟩) (fun t ht hW => ⟨some 0, rfl, rfl, ht⟩) (fun q h => absurd h List.not_mem_nil) dX3_refusalToShow_66
    · have hf := wk_f hf q6
      refine va_gets (v := .ref (g 0 4)) hx hb (hT.1.1 4 (by decide)).1 hS hown (hts _ lk_X3_refusalToShow_RX3_85) (fun _ h9 => h9) dX3_refusalToShow_28 ?_
      have e0 := wke1 hf
      subst e0
      exact W.aret (v := .ref (g 0 4)) hx hb hr (Or.inl ⟨_, rfl⟩) (Or.inr ⟨_, rfl⟩) (fun t ht hW => ⟨some 4, rfl, rfl, ht⟩) (fun q h => absurd h List.not_mem_nil) dX3_refusalToShow_31
  · have hf := wk_t hf q3
    refine va_gets (v := .ref (g 0 2)) hx hb (hT.1.1 2 (by decide)).1 hS hown (hts _ lk_X3_refusalToShow_RX3_49) (fun _ h9 => h9) dX3_refusalToShow_11 ?_
    have e0 := wke1 hf
    subst e0
    exact W.aret (v := .ref (g 0 2)) hx hb hr (Or.inl ⟨_, rfl⟩) (Or.inr ⟨_, rfl⟩) (fun t ht hW => ⟨some 2, rfl, rfl, ht⟩) (fun q h => absurd h List.not_mem_nil) dX3_refusalToShow_14
theorem lk_X3_bookSuccess_RX3_12 : Cond.fieldLink RX3 12 "CircusLedger$Circus" "troupe" "LCircusLedger$Troupe;" ∈ wsX3_bookSuccess := by decide +kernel
theorem lk_X3_bookSuccess_RX3_21 : Cond.fieldLink RX3 21 "CircusLedger$Circus" "books" "LCircusLedger$Books;" ∈ wsX3_bookSuccess := by decide +kernel
theorem lk_X3_bookSuccess_RX3_55 : Cond.fieldLink RX3 55 "CircusLedger$Troupe" "count" "I" ∈ wsX3_bookSuccess := by decide +kernel
theorem lk_X3_bookSuccess_RX3_151 : Cond.fieldLink RX3 151 "CircusLedger$Troupe" "wages" "[I" ∈ wsX3_bookSuccess := by decide +kernel
theorem in_X3_bookSuccess_X3 : ∀ w ∈ u_ws RX3 TX3 6, w ∈ wsX3_bookSuccess := by decide +kernel
theorem in_X3_bookSuccess_X9 : ∀ w ∈ u_ws RX9 TX9 6, w ∈ wsX3_bookSuccess := by decide +kernel
def f_X3_bookSuccess_L25 (T_count : Int32) (T_heights : Nat → Int32) (T_wages : Nat → Int32) (x1 : Int32) : Nat → Int32 → Int32 → (Nat → Int32) → Int32 → (Nat → Int32) → (Nat → Int32) → (Nat → Int32) → Option (Int32 × (Nat → Int32) × Int32 × (Nat → Int32) × (Nat → Int32) × (Nat → Int32))
  | 0, _, _, _, _, _, _, _ => none
  | nn + 1, x2, x3, B_balances, B_entries, B_debited, B_credited, B_amounts =>
    if T_count ≤ x3 then
      (some (x2, B_balances, B_entries, B_debited, B_credited, B_amounts))
    else
      (wkb1 (f_X9_isMember T_count x1 x3) (fun r2 =>
      if r2 = 0 then
        (f_X3_bookSuccess_L25 T_count T_heights T_wages x1 nn x2 (x3 + 1) B_balances B_entries B_debited B_credited B_amounts)
      else
        (gin x3 6 (wkb6 (f_X2_book B_balances B_entries B_debited B_credited B_amounts 4 (5 + x3) (T_wages x3.toNatClampNeg)) (fun r6 w7 w8 w9 w10 w11 =>
        f_X3_bookSuccess_L25 T_count T_heights T_wages x1 nn x2 (x3 + 1) w7 w8 w9 w10 w11)))))
def f_X3_bookSuccess (T_count : Int32) (T_heights : Nat → Int32) (T_wages : Nat → Int32) (B_balances : Nat → Int32) (B_entries : Int32) (B_debited : Nat → Int32) (B_credited : Nat → Int32) (B_amounts : Nat → Int32) (x1 : Int32) : Option (Int32 × (Nat → Int32) × Int32 × (Nat → Int32) × (Nat → Int32) × (Nat → Int32)) :=
  wkb1 (f_X9_heightOf T_count T_heights x1) (fun r1 =>
  wkb6 (f_X2_book B_balances B_entries B_debited B_credited B_amounts 0 2 (r1 / 10)) (fun r3 w4 w5 w6 w7 w8 =>
  f_X3_bookSuccess_L25 T_count T_heights T_wages x1 FU (r1 / 10) 0 w4 w5 w6 w7 w8))
set_option maxHeartbeats 4000000 in
set_option maxRecDepth 100000 in
theorem wl_X3_bookSuccess_L25 {p : Program} {l : Launch} {e : Env} {s : State} {m : MethodId} {args : Array Value} {below : List Frame} {meth : Method} {c : Code} {dC : Nat → ClassId} {dI : Nat → Nat → Nat} {Y : Nat → ClassId} {a : Nat → Nat} {T_count : Int32} {T_weights : Nat → Int32} {T_strengths : Nat → Int32} {T_heights : Nat → Int32} {T_wages : Nat → Int32} {T_nightsToHeal : Nat → Int32} {B_accounts : Int32} {B_balancesAtClosing : Nat → Int32} {C_nights : Int32} {C_netWidth : Int32} {C_shows : Int32} {C_fallen : Int32} {x1 : Int32} {r : Int32} {zB_balances : Nat → Int32} {zB_entries : Int32} {zB_debited : Nat → Int32} {zB_credited : Nat → Int32} {zB_amounts : Nat → Int32}  (C0 : wk_C p s m args meth c cX3_bookSuccess 4 (some .int) wsX3_bookSuccess RX3) {A : Nat → Prop} (hK : va_K (dC, dI) vwCl (vTy Y) s) (hA : ∀ q, s.heap.size ≤ q → A q) : ∀ (nn : Nat) (x2 : Int32) (x3 : Int32)  (B_balances : Nat → Int32) (B_entries : Int32) (B_debited : Nat → Int32) (B_credited : Nat → Int32) (B_amounts : Nat → Int32), f_X3_bookSuccess_L25 T_count T_heights T_wages x1 nn x2 x3 B_balances B_entries B_debited B_credited B_amounts = some (r, zB_balances, zB_entries, zB_debited, zB_credited, zB_amounts) → ∀ (H : Heap) (locs : List Loc), va_P (dC, dI) vwCl (wX3 Y a T_count T_weights T_strengths T_heights T_wages T_nightsToHeal B_accounts B_balances B_balancesAtClosing B_entries B_debited B_credited B_amounts C_nights C_netWidth C_shows C_fallen) H → va_D A (wX3 Y a T_count T_weights T_strengths T_heights T_wages T_nightsToHeal B_accounts B_balances B_balancesAtClosing B_entries B_debited B_credited B_amounts C_nights C_netWidth C_shows C_fallen) → va_S A s.heap H locs → ∀ (ls : Array Slot), lv_has ls 4 [(0, .ref (a 0)), (1, .int x1), (2, .int x2), (3, .int x3)] → W p l e (headSpec wsX3_bookSuccess ({ frames := 2, cells := 0, slots := 0, locals := 45 } : Room)).room s m args below meth c H locs 0 0 (MQ below (va_Qi (fun r2 (_ : Unit) => r2 = r) (fun _ t => wk_X (dC, dI) Y (wX3 Y a T_count T_weights T_strengths T_heights T_wages T_nightsToHeal B_accounts zB_balances B_balancesAtClosing zB_entries zB_debited zB_credited zB_amounts C_nights C_netWidth C_shows C_fallen) A t) A) args s 0 0 A) (F0 m 25 ls []) := by
  have C0 := C0
  obtain ⟨hx, hb, hml, hr, hlocks, hown, hts⟩ := id C0
  intro nn
  induction nn with
  | zero =>
    intro x2 x3 B_balances B_entries B_debited B_credited B_amounts hf
    rw [f_X3_bookSuccess_L25] at hf
    cases hf
  | succ nn ih =>
    intro x2 x3 B_balances B_entries B_debited B_credited B_amounts hf H locs hP hD hS ls hl
    rw [f_X3_bookSuccess_L25] at hf
    have hP : va_P (dC, dI) vwCl [(a 0, .inr (5, [.ref (a 1), .ref (a 7), .int C_nights, .int C_netWidth, .int C_shows, .int C_fallen])), (a 1, .inr (9, [.int T_count, .ref (a 2), .ref (a 3), .ref (a 4), .ref (a 5), .ref (a 6)])), (a 2, .inl (Y 0, 6, .inl T_weights)), (a 3, .inl (Y 0, 6, .inl T_strengths)), (a 4, .inl (Y 0, 6, .inl T_heights)), (a 5, .inl (Y 0, 6, .inl T_wages)), (a 6, .inl (Y 0, 6, .inl T_nightsToHeal)), (a 7, .inr (4, [.int B_accounts, .ref (a 8), .ref (a 9), .int B_entries, .ref (a 10), .ref (a 11), .ref (a 12)])), (a 8, .inl (Y 0, 11, .inl B_balances)), (a 9, .inl (Y 0, 11, .inl B_balancesAtClosing)), (a 10, .inl (Y 0, 60, .inl B_debited)), (a 11, .inl (Y 0, 60, .inl B_credited)), (a 12, .inl (Y 0, 60, .inl B_amounts))] H := hP
    have hD : va_D A [(a 0, .inr (5, [.ref (a 1), .ref (a 7), .int C_nights, .int C_netWidth, .int C_shows, .int C_fallen])), (a 1, .inr (9, [.int T_count, .ref (a 2), .ref (a 3), .ref (a 4), .ref (a 5), .ref (a 6)])), (a 2, .inl (Y 0, 6, .inl T_weights)), (a 3, .inl (Y 0, 6, .inl T_strengths)), (a 4, .inl (Y 0, 6, .inl T_heights)), (a 5, .inl (Y 0, 6, .inl T_wages)), (a 6, .inl (Y 0, 6, .inl T_nightsToHeal)), (a 7, .inr (4, [.int B_accounts, .ref (a 8), .ref (a 9), .int B_entries, .ref (a 10), .ref (a 11), .ref (a 12)])), (a 8, .inl (Y 0, 11, .inl B_balances)), (a 9, .inl (Y 0, 11, .inl B_balancesAtClosing)), (a 10, .inl (Y 0, 60, .inl B_debited)), (a 11, .inl (Y 0, 60, .inl B_credited)), (a 12, .inl (Y 0, 60, .inl B_amounts))] := hD
    refine lv_iload_n hx hb dX3_bookSuccess_25 rfl (lv_at hl 3 rfl) ?_
    refine lv_aload_n hx hb dX3_bookSuccess_26 rfl (lv_at hl 0 rfl) ?_
    refine va_get (D := (dC, dI)) (ci := 5) (v := .ref (a 1)) (C := RX3) (T := TX3) (N := 6) hx hb hts in_X3_bookSuccess_X3 hown hK hP 0 rfl rfl 0 (by decide) (hts _ lk_X3_bookSuccess_RX3_12) (fun _ h9 => h9) rfl dX3_bookSuccess_27 ?_
    refine va_get (D := (dC, dI)) (ci := 9) (v := .int T_count) (C := RX9) (T := TX9) (N := 6) hx hb hts in_X3_bookSuccess_X9 hown hK hP 1 rfl rfl 0 (by decide) (hts _ lk_X3_bookSuccess_RX3_55) (fun _ h9 => h9) rfl dX3_bookSuccess_30 ?_
    refine lv_icmp_ge (tgt := 75) hx hb dX3_bookSuccess_33 (by decide) (fun q1 => ?_) (fun q1 => ?_)
    · have hf := wk_t hf q1
      refine lv_iload_n hx hb dX3_bookSuccess_75 rfl (lv_at hl 2 rfl) ?_
      obtain ⟨e0, e1, e2, e3, e4, e5⟩ := wke6 hf
      subst e0
      subst e1
      subst e2
      subst e3
      subst e4
      subst e5
      have hP9 := hP.sub (ws' := (wX3 Y a T_count T_weights T_strengths T_heights T_wages T_nightsToHeal B_accounts B_balances B_balancesAtClosing B_entries B_debited B_credited B_amounts C_nights C_netWidth C_shows C_fallen)) [0, 1, 2, 3, 4, 5, 6, 7, 8, 9, 10, 11, 12] rfl
      have hD9 := hD.sub (ws' := (wX3 Y a T_count T_weights T_strengths T_heights T_wages T_nightsToHeal B_accounts B_balances B_balancesAtClosing B_entries B_debited B_credited B_amounts C_nights C_netWidth C_shows C_fallen)) [0, 1, 2, 3, 4, 5, 6, 7, 8, 9, 10, 11, 12] (by decide) rfl
      exact W.iret (v := x2) hx hb hr (fun t ht hW => ⟨⟨x2, (), rfl, rfl, by rw [ht]; exact hP9, va_K.moved hW.alike hK, hD9⟩, hS.F ht⟩) hS.2.2 dX3_bookSuccess_76
    · have hf := wk_f hf q1
      refine lv_aload_n hx hb dX3_bookSuccess_36 rfl (lv_at hl 0 rfl) ?_
      refine va_get (D := (dC, dI)) (ci := 5) (v := .ref (a 1)) (C := RX3) (T := TX3) (N := 6) hx hb hts in_X3_bookSuccess_X3 hown hK hP 0 rfl rfl 0 (by decide) (hts _ lk_X3_bookSuccess_RX3_12) (fun _ h9 => h9) rfl dX3_bookSuccess_37 ?_
      refine lv_iload_n hx hb dX3_bookSuccess_40 rfl (lv_at hl 1 rfl) ?_
      refine lv_iload_n hx hb dX3_bookSuccess_41 rfl (lv_at hl 3 rfl) ?_
      obtain ⟨r2, hr3, hf⟩ := wkb1_s hf
      have hPc := hP.sub (ws' := (wX9 Y (fun k => a (k + 1)) T_count T_weights T_strengths T_heights T_wages T_nightsToHeal)) [1, 2, 3, 4, 5, 6] rfl
      refine wk_vi (As := [.int x1, .int x3]) (rest := []) ⟨hx, hb, hml, hown, hts⟩ (c_X9_isMember l dC dI Y (fun k => a (k + 1)) T_count T_weights T_strengths T_heights T_wages T_nightsToHeal x1 x3 r2 hr3) (cwV 2 hts gX3_bookSuccess_X9_isMember rfl rfl rfl (by decide +kernel) ⟨Nat.le_of_ble_eq_true rfl, Nat.le_of_ble_eq_true rfl⟩) hK hPc (va_recv hK hP (ci := 9) (q0 := 1) rfl rfl) rfl hl.1 rfl (Nat.le_of_ble_eq_true rfl) dX3_bookSuccess_42 ⟨Nat.le_of_ble_eq_true rfl, Nat.le_of_ble_eq_true rfl⟩ ?_
      refine lv_if_eq (tgt := 69) hx hb dX3_bookSuccess_45 (by decide) (fun q4 => ?_) (fun q4 => ?_)
      · have hf := wk_t hf q4
        refine lv_iinc (v := (x3 + 1)) (lv' := [(3, .int (x3 + 1)), (0, .ref (a 0)), (1, .int x1), (2, .int x2)]) hx hb dX3_bookSuccess_69 hl (k := 3) rfl rfl (by decide) rfl (fun ls hl => ?_)
        refine lv_goto (tgt := 25) hx hb dX3_bookSuccess_72 (by decide) ?_
        exact ih x2 (x3 + 1) B_balances B_entries B_debited B_credited B_amounts hf H locs hP hD hS ls (lv_sub hl [1, 2, 3, 0] rfl)
      · have hf := wk_f hf q4
        refine lv_aload_n hx hb dX3_bookSuccess_48 rfl (lv_at hl 0 rfl) ?_
        refine va_get (D := (dC, dI)) (ci := 5) (v := .ref (a 7)) (C := RX3) (T := TX3) (N := 6) hx hb hts in_X3_bookSuccess_X3 hown hK hP 0 rfl rfl 1 (by decide) (hts _ lk_X3_bookSuccess_RX3_21) (fun _ h9 => h9) rfl dX3_bookSuccess_49 ?_
        refine lv_iconst (v := 4) hx hb dX3_bookSuccess_52 (by decide) ?_
        refine lv_iconst (v := 5) hx hb dX3_bookSuccess_53 (by decide) ?_
        refine lv_iload_n hx hb dX3_bookSuccess_54 rfl (lv_at hl 3 rfl) ?_
        refine lv_iadd hx hb dX3_bookSuccess_55 ?_
        refine lv_aload_n hx hb dX3_bookSuccess_56 rfl (lv_at hl 0 rfl) ?_
        refine va_get (D := (dC, dI)) (ci := 5) (v := .ref (a 1)) (C := RX3) (T := TX3) (N := 6) hx hb hts in_X3_bookSuccess_X3 hown hK hP 0 rfl rfl 0 (by decide) (hts _ lk_X3_bookSuccess_RX3_12) (fun _ h9 => h9) rfl dX3_bookSuccess_57 ?_
        refine va_get (D := (dC, dI)) (ci := 9) (v := .ref (a 5)) (C := RX9) (T := TX9) (N := 6) hx hb hts in_X3_bookSuccess_X9 hown hK hP 1 rfl rfl 4 (by decide) (hts _ lk_X3_bookSuccess_RX3_151) (fun _ h9 => h9) rfl dX3_bookSuccess_60 ?_
        refine lv_iload_n hx hb dX3_bookSuccess_63 rfl (lv_at hl 3 rfl) ?_
        obtain ⟨h5, hf⟩ := gin_s hf
        refine wk_iald hx hb hK hP 5 0 rfl rfl h5 rfl dX3_bookSuccess_64 ?_
        obtain ⟨r6, w7, w8, w9, w10, w11, hr12, hf⟩ := wkb6_s hf
        refine wk_evi (As := [.int 4, .int (5 + x3), .int (T_wages x3.toNatClampNeg)]) (rest := []) (wc := (wX2 Y (fun k => a (k + 7)) B_accounts B_balances B_balancesAtClosing B_entries B_debited B_credited B_amounts)) (w1 := (wX2 Y (fun k => a (k + 7)) B_accounts w7 B_balancesAtClosing w8 w9 w10 w11)) (wr := [(a 0, .inr (5, [.ref (a 1), .ref (a 7), .int C_nights, .int C_netWidth, .int C_shows, .int C_fallen])), (a 1, .inr (9, [.int T_count, .ref (a 2), .ref (a 3), .ref (a 4), .ref (a 5), .ref (a 6)])), (a 2, .inl (Y 0, 6, .inl T_weights)), (a 3, .inl (Y 0, 6, .inl T_strengths)), (a 4, .inl (Y 0, 6, .inl T_heights)), (a 5, .inl (Y 0, 6, .inl T_wages)), (a 6, .inl (Y 0, 6, .inl T_nightsToHeal))]) ⟨hx, hb, hml, hown, hts⟩ (c_X2_book l dC dI Y (fun k => a (k + 7)) B_accounts B_balances B_balancesAtClosing B_entries B_debited B_credited B_amounts 4 (5 + x3) (T_wages x3.toNatClampNeg) H.size r6 w7 w8 w9 w10 w11 hr12) (cwV 3 hts gX3_bookSuccess_X2_book rfl rfl rfl (by decide +kernel) ⟨Nat.le_of_ble_eq_true rfl, Nat.le_of_ble_eq_true rfl⟩) hK hP hD hS hA [7, 8, 9, 10, 11, 12] [0, 1, 2, 3, 4, 5, 6] rfl rfl (by decide) (by decide) (by decide) (va_recv hK hP (ci := 4) (q0 := 7) rfl rfl) rfl hl.1 rfl (Nat.le_of_ble_eq_true rfl) dX3_bookSuccess_65 ⟨Nat.le_of_ble_eq_true rfl, Nat.le_of_ble_eq_true rfl⟩ (fun H locs hP hD hS => ?_)
        have hP : va_P (dC, dI) vwCl [(a 0, .inr (5, [.ref (a 1), .ref (a 7), .int C_nights, .int C_netWidth, .int C_shows, .int C_fallen])), (a 1, .inr (9, [.int T_count, .ref (a 2), .ref (a 3), .ref (a 4), .ref (a 5), .ref (a 6)])), (a 2, .inl (Y 0, 6, .inl T_weights)), (a 3, .inl (Y 0, 6, .inl T_strengths)), (a 4, .inl (Y 0, 6, .inl T_heights)), (a 5, .inl (Y 0, 6, .inl T_wages)), (a 6, .inl (Y 0, 6, .inl T_nightsToHeal)), (a 7, .inr (4, [.int B_accounts, .ref (a 8), .ref (a 9), .int w8, .ref (a 10), .ref (a 11), .ref (a 12)])), (a 8, .inl (Y 0, 11, .inl w7)), (a 9, .inl (Y 0, 11, .inl B_balancesAtClosing)), (a 10, .inl (Y 0, 60, .inl w9)), (a 11, .inl (Y 0, 60, .inl w10)), (a 12, .inl (Y 0, 60, .inl w11))] H := hP
        have hD : va_D A [(a 0, .inr (5, [.ref (a 1), .ref (a 7), .int C_nights, .int C_netWidth, .int C_shows, .int C_fallen])), (a 1, .inr (9, [.int T_count, .ref (a 2), .ref (a 3), .ref (a 4), .ref (a 5), .ref (a 6)])), (a 2, .inl (Y 0, 6, .inl T_weights)), (a 3, .inl (Y 0, 6, .inl T_strengths)), (a 4, .inl (Y 0, 6, .inl T_heights)), (a 5, .inl (Y 0, 6, .inl T_wages)), (a 6, .inl (Y 0, 6, .inl T_nightsToHeal)), (a 7, .inr (4, [.int B_accounts, .ref (a 8), .ref (a 9), .int w8, .ref (a 10), .ref (a 11), .ref (a 12)])), (a 8, .inl (Y 0, 11, .inl w7)), (a 9, .inl (Y 0, 11, .inl B_balancesAtClosing)), (a 10, .inl (Y 0, 60, .inl w9)), (a 11, .inl (Y 0, 60, .inl w10)), (a 12, .inl (Y 0, 60, .inl w11))] := hD
        refine lv_pop hx hb dX3_bookSuccess_68 rfl ?_
        refine lv_iinc (v := (x3 + 1)) (lv' := [(3, .int (x3 + 1)), (0, .ref (a 0)), (1, .int x1), (2, .int x2)]) hx hb dX3_bookSuccess_69 hl (k := 3) rfl rfl (by decide) rfl (fun ls hl => ?_)
        refine lv_goto (tgt := 25) hx hb dX3_bookSuccess_72 (by decide) ?_
        exact ih x2 (x3 + 1) w7 w8 w9 w10 w11 hf H locs hP hD hS ls (lv_sub hl [1, 2, 3, 0] rfl)
set_option maxHeartbeats 4000000 in
set_option maxRecDepth 100000 in
theorem c_X3_bookSuccess (l : Launch) (dC : Nat → ClassId) (dI : Nat → Nat → Nat) (Y : Nat → ClassId) (a : Nat → Nat) (T_count : Int32) (T_weights : Nat → Int32) (T_strengths : Nat → Int32) (T_heights : Nat → Int32) (T_wages : Nat → Int32) (T_nightsToHeal : Nat → Int32) (B_accounts : Int32) (B_balances : Nat → Int32) (B_balancesAtClosing : Nat → Int32) (B_entries : Int32) (B_debited : Nat → Int32) (B_credited : Nat → Int32) (B_amounts : Nat → Int32) (C_nights : Int32) (C_netWidth : Int32) (C_shows : Int32) (C_fallen : Int32) (x1 : Int32) (sz : Nat) (r : Int32) (zB_balances : Nat → Int32) (zB_entries : Int32) (zB_debited : Nat → Int32) (zB_credited : Nat → Int32) (zB_amounts : Nat → Int32) (hf : f_X3_bookSuccess T_count T_heights T_wages B_balances B_entries B_debited B_credited B_amounts x1 = some (r, zB_balances, zB_entries, zB_debited, zB_credited, zB_amounts)) : Met l yX3_bookSuccess wsX3_bookSuccess ({ frames := 2, cells := 0, slots := 0, locals := 45 } : Room) (va_Pc [.ref (a 0), .int x1] (wk_E (dC, dI) Y (wX3 Y a T_count T_weights T_strengths T_heights T_wages T_nightsToHeal B_accounts B_balances B_balancesAtClosing B_entries B_debited B_credited B_amounts C_nights C_netWidth C_shows C_fallen) sz)) (va_Qi (fun r2 (_ : Unit) => r2 = r) (fun _ t => wk_X (dC, dI) Y (wX3 Y a T_count T_weights T_strengths T_heights T_wages T_nightsToHeal B_accounts zB_balances B_balancesAtClosing zB_entries zB_debited zB_credited zB_amounts C_nights C_netWidth C_shows C_fallen) (va_A (wX3 Y a T_count T_weights T_strengths T_heights T_wages T_nightsToHeal B_accounts B_balances B_balancesAtClosing B_entries B_debited B_credited B_amounts C_nights C_netWidth C_shows C_fallen) sz) t) (va_A (wX3 Y a T_count T_weights T_strengths T_heights T_wages T_nightsToHeal B_accounts B_balances B_balancesAtClosing B_entries B_debited B_credited B_amounts C_nights C_netWidth C_shows C_fallen) sz)) 0 0 (va_A (wX3 Y a T_count T_weights T_strengths T_heights T_wages T_nightsToHeal B_accounts B_balances B_balancesAtClosing B_entries B_debited B_credited B_amounts C_nights C_netWidth C_shows C_fallen) sz) := by
  refine Met.ofW (cc := cX3_bookSuccess) (maxL := 4) (ret := (some .int)) (by decide) rfl ?_
  intro p e s m args below meth c s₁ B hml hv
  obtain ⟨rfl, hsz, hP, hK, hD0⟩ := hv
  have hx := B.exec
  have hb := B.bytes
  have hr := B.returns
  have hts := atoms_spec (ws := wsX3_bookSuccess) B.pre
  have hown : s.vm.findClass RX3 = some m.cls := findClass_of_methodNamed B.named
  have hlocks := B.notSynchronized
  have C0 : wk_C p s m _ meth c cX3_bookSuccess 4 (some .int) wsX3_bookSuccess RX3 := ⟨hx, hb, hml, hr, hlocks, hown, hts⟩
  subst hsz
  have hD := hD0.self (sz := s.heap.size)
  generalize hAe : va_A (wX3 Y a T_count T_weights T_strengths T_heights T_wages T_nightsToHeal B_accounts B_balances B_balancesAtClosing B_entries B_debited B_credited B_amounts C_nights C_netWidth C_shows C_fallen) s.heap.size = A at hD ⊢
  have hA : ∀ q : Nat, s.heap.size ≤ q → A q := fun q h => by rw [← hAe]; exact Or.inr h
  have hS : va_S A s.heap s.heap [] := va_S.rf
  obtain ⟨H, hHe⟩ : ∃ H, H = s.heap := ⟨_, rfl⟩
  have hS : va_S A s.heap H [] := by rw [hHe]; exact hS
  have hP : va_P (dC, dI) vwCl [(a 0, .inr (5, [.ref (a 1), .ref (a 7), .int C_nights, .int C_netWidth, .int C_shows, .int C_fallen])), (a 1, .inr (9, [.int T_count, .ref (a 2), .ref (a 3), .ref (a 4), .ref (a 5), .ref (a 6)])), (a 2, .inl (Y 0, 6, .inl T_weights)), (a 3, .inl (Y 0, 6, .inl T_strengths)), (a 4, .inl (Y 0, 6, .inl T_heights)), (a 5, .inl (Y 0, 6, .inl T_wages)), (a 6, .inl (Y 0, 6, .inl T_nightsToHeal)), (a 7, .inr (4, [.int B_accounts, .ref (a 8), .ref (a 9), .int B_entries, .ref (a 10), .ref (a 11), .ref (a 12)])), (a 8, .inl (Y 0, 11, .inl B_balances)), (a 9, .inl (Y 0, 11, .inl B_balancesAtClosing)), (a 10, .inl (Y 0, 60, .inl B_debited)), (a 11, .inl (Y 0, 60, .inl B_credited)), (a 12, .inl (Y 0, 60, .inl B_amounts))] H := by rw [hHe]; exact hP
  have hD : va_D A [(a 0, .inr (5, [.ref (a 1), .ref (a 7), .int C_nights, .int C_netWidth, .int C_shows, .int C_fallen])), (a 1, .inr (9, [.int T_count, .ref (a 2), .ref (a 3), .ref (a 4), .ref (a 5), .ref (a 6)])), (a 2, .inl (Y 0, 6, .inl T_weights)), (a 3, .inl (Y 0, 6, .inl T_strengths)), (a 4, .inl (Y 0, 6, .inl T_heights)), (a 5, .inl (Y 0, 6, .inl T_wages)), (a 6, .inl (Y 0, 6, .inl T_nightsToHeal)), (a 7, .inr (4, [.int B_accounts, .ref (a 8), .ref (a 9), .int B_entries, .ref (a 10), .ref (a 11), .ref (a 12)])), (a 8, .inl (Y 0, 11, .inl B_balances)), (a 9, .inl (Y 0, 11, .inl B_balancesAtClosing)), (a 10, .inl (Y 0, 60, .inl B_debited)), (a 11, .inl (Y 0, 60, .inl B_credited)), (a 12, .inl (Y 0, 60, .inl B_amounts))] := hD
  obtain ⟨locs, hlo⟩ : ∃ locs : List Loc, locs = [] := ⟨_, rfl⟩
  have hS : va_S A s.heap H locs := by rw [hlo]; exact hS
  have hl := lv_entry ([.ref (a 0), .int x1]) (n := 4) (Nat.le_of_ble_eq_true rfl)
  rw [lg_entry_eq]
  generalize (lg_sl ([.ref (a 0), .int x1]) ++ List.replicate (4 - (lg_sl ([.ref (a 0), .int x1])).length) Slot.unset).toArray = ls at hl ⊢
  have hl : lv_has ls 4 [(0, .ref (a 0)), (1, .int x1)] := hl
  refine wk_start hHe hlo ?_
  rw [f_X3_bookSuccess] at hf
  refine lv_aload_n hx hb dX3_bookSuccess_0 rfl (lv_at hl 0 rfl) ?_
  refine va_get (D := (dC, dI)) (ci := 5) (v := .ref (a 1)) (C := RX3) (T := TX3) (N := 6) hx hb hts in_X3_bookSuccess_X3 hown hK hP 0 rfl rfl 0 (by decide) (hts _ lk_X3_bookSuccess_RX3_12) (fun _ h9 => h9) rfl dX3_bookSuccess_1 ?_
  refine lv_iload_n hx hb dX3_bookSuccess_4 rfl (lv_at hl 1 rfl) ?_
  obtain ⟨r1, hr2, hf⟩ := wkb1_s hf
  have hPc := hP.sub (ws' := (wX9 Y (fun k => a (k + 1)) T_count T_weights T_strengths T_heights T_wages T_nightsToHeal)) [1, 2, 3, 4, 5, 6] rfl
  refine wk_vi (As := [.int x1]) (rest := []) ⟨hx, hb, hml, hown, hts⟩ (c_X9_heightOf l dC dI Y (fun k => a (k + 1)) T_count T_weights T_strengths T_heights T_wages T_nightsToHeal x1 r1 hr2) (cwV 1 hts gX3_bookSuccess_X9_heightOf rfl rfl rfl (by decide +kernel) ⟨Nat.le_of_ble_eq_true rfl, Nat.le_of_ble_eq_true rfl⟩) hK hPc (va_recv hK hP (ci := 9) (q0 := 1) rfl rfl) rfl hl.1 rfl (Nat.le_of_ble_eq_true rfl) dX3_bookSuccess_5 ⟨Nat.le_of_ble_eq_true rfl, Nat.le_of_ble_eq_true rfl⟩ ?_
  refine lv_bipush (v := 10) hx hb dX3_bookSuccess_8 (by decide) ?_
  refine lv_idiv hx hb dX3_bookSuccess_10 (by decide) ?_
  refine lv_istore_n (lv' := [(2, .int (r1 / 10)), (0, .ref (a 0)), (1, .int x1)]) hx hb dX3_bookSuccess_11 rfl hl (by decide) rfl (fun ls hl => ?_)
  refine lv_aload_n hx hb dX3_bookSuccess_12 rfl (lv_at hl 1 rfl) ?_
  refine va_get (D := (dC, dI)) (ci := 5) (v := .ref (a 7)) (C := RX3) (T := TX3) (N := 6) hx hb hts in_X3_bookSuccess_X3 hown hK hP 0 rfl rfl 1 (by decide) (hts _ lk_X3_bookSuccess_RX3_21) (fun _ h9 => h9) rfl dX3_bookSuccess_13 ?_
  refine lv_iconst (v := 0) hx hb dX3_bookSuccess_16 (by decide) ?_
  refine lv_iconst (v := 2) hx hb dX3_bookSuccess_17 (by decide) ?_
  refine lv_iload_n hx hb dX3_bookSuccess_18 rfl (lv_at hl 0 rfl) ?_
  obtain ⟨r3, w4, w5, w6, w7, w8, hr9, hf⟩ := wkb6_s hf
  refine wk_evi (As := [.int 0, .int 2, .int (r1 / 10)]) (rest := []) (wc := (wX2 Y (fun k => a (k + 7)) B_accounts B_balances B_balancesAtClosing B_entries B_debited B_credited B_amounts)) (w1 := (wX2 Y (fun k => a (k + 7)) B_accounts w4 B_balancesAtClosing w5 w6 w7 w8)) (wr := [(a 0, .inr (5, [.ref (a 1), .ref (a 7), .int C_nights, .int C_netWidth, .int C_shows, .int C_fallen])), (a 1, .inr (9, [.int T_count, .ref (a 2), .ref (a 3), .ref (a 4), .ref (a 5), .ref (a 6)])), (a 2, .inl (Y 0, 6, .inl T_weights)), (a 3, .inl (Y 0, 6, .inl T_strengths)), (a 4, .inl (Y 0, 6, .inl T_heights)), (a 5, .inl (Y 0, 6, .inl T_wages)), (a 6, .inl (Y 0, 6, .inl T_nightsToHeal))]) ⟨hx, hb, hml, hown, hts⟩ (c_X2_book l dC dI Y (fun k => a (k + 7)) B_accounts B_balances B_balancesAtClosing B_entries B_debited B_credited B_amounts 0 2 (r1 / 10) H.size r3 w4 w5 w6 w7 w8 hr9) (cwV 3 hts gX3_bookSuccess_X2_book rfl rfl rfl (by decide +kernel) ⟨Nat.le_of_ble_eq_true rfl, Nat.le_of_ble_eq_true rfl⟩) hK hP hD hS hA [7, 8, 9, 10, 11, 12] [0, 1, 2, 3, 4, 5, 6] rfl rfl (by decide) (by decide) (by decide) (va_recv hK hP (ci := 4) (q0 := 7) rfl rfl) rfl hl.1 rfl (Nat.le_of_ble_eq_true rfl) dX3_bookSuccess_19 ⟨Nat.le_of_ble_eq_true rfl, Nat.le_of_ble_eq_true rfl⟩ (fun H locs hP hD hS => ?_)
  have hP : va_P (dC, dI) vwCl [(a 0, .inr (5, [.ref (a 1), .ref (a 7), .int C_nights, .int C_netWidth, .int C_shows, .int C_fallen])), (a 1, .inr (9, [.int T_count, .ref (a 2), .ref (a 3), .ref (a 4), .ref (a 5), .ref (a 6)])), (a 2, .inl (Y 0, 6, .inl T_weights)), (a 3, .inl (Y 0, 6, .inl T_strengths)), (a 4, .inl (Y 0, 6, .inl T_heights)), (a 5, .inl (Y 0, 6, .inl T_wages)), (a 6, .inl (Y 0, 6, .inl T_nightsToHeal)), (a 7, .inr (4, [.int B_accounts, .ref (a 8), .ref (a 9), .int w5, .ref (a 10), .ref (a 11), .ref (a 12)])), (a 8, .inl (Y 0, 11, .inl w4)), (a 9, .inl (Y 0, 11, .inl B_balancesAtClosing)), (a 10, .inl (Y 0, 60, .inl w6)), (a 11, .inl (Y 0, 60, .inl w7)), (a 12, .inl (Y 0, 60, .inl w8))] H := hP
  have hD : va_D A [(a 0, .inr (5, [.ref (a 1), .ref (a 7), .int C_nights, .int C_netWidth, .int C_shows, .int C_fallen])), (a 1, .inr (9, [.int T_count, .ref (a 2), .ref (a 3), .ref (a 4), .ref (a 5), .ref (a 6)])), (a 2, .inl (Y 0, 6, .inl T_weights)), (a 3, .inl (Y 0, 6, .inl T_strengths)), (a 4, .inl (Y 0, 6, .inl T_heights)), (a 5, .inl (Y 0, 6, .inl T_wages)), (a 6, .inl (Y 0, 6, .inl T_nightsToHeal)), (a 7, .inr (4, [.int B_accounts, .ref (a 8), .ref (a 9), .int w5, .ref (a 10), .ref (a 11), .ref (a 12)])), (a 8, .inl (Y 0, 11, .inl w4)), (a 9, .inl (Y 0, 11, .inl B_balancesAtClosing)), (a 10, .inl (Y 0, 60, .inl w6)), (a 11, .inl (Y 0, 60, .inl w7)), (a 12, .inl (Y 0, 60, .inl w8))] := hD
  refine lv_pop hx hb dX3_bookSuccess_22 rfl ?_
  refine lv_iconst (v := 0) hx hb dX3_bookSuccess_23 (by decide) ?_
  refine lv_istore_n (lv' := [(3, .int 0), (2, .int (r1 / 10)), (0, .ref (a 0)), (1, .int x1)]) hx hb dX3_bookSuccess_24 rfl hl (by decide) rfl (fun ls hl => ?_)
  exact wl_X3_bookSuccess_L25 C0 hK hA FU (r1 / 10) 0 w4 w5 w6 w7 w8 hf H locs hP hD hS ls (lv_sub hl [2, 3, 1, 0] rfl)
theorem lk_X3_bookFall_RX3_12 : Cond.fieldLink RX3 12 "CircusLedger$Circus" "troupe" "LCircusLedger$Troupe;" ∈ wsX3_bookFall := by decide +kernel
theorem lk_X3_bookFall_RX3_21 : Cond.fieldLink RX3 21 "CircusLedger$Circus" "books" "LCircusLedger$Books;" ∈ wsX3_bookFall := by decide +kernel
theorem lk_X3_bookFall_RX3_36 : Cond.fieldLink RX3 36 "CircusLedger$Circus" "netWidth" "I" ∈ wsX3_bookFall := by decide +kernel
theorem lk_X3_bookFall_RX3_42 : Cond.fieldLink RX3 42 "CircusLedger$Circus" "fallen" "I" ∈ wsX3_bookFall := by decide +kernel
theorem in_X3_bookFall_X3 : ∀ w ∈ u_ws RX3 TX3 6, w ∈ wsX3_bookFall := by decide +kernel
def f_X3_bookFall_L66 (T_count : Int32) (T_weights : Nat → Int32) (T_strengths : Nat → Int32) (C_netWidth : Int32) (x1 : Int32) (x2 : Int32) (x3 : Int32) (x4 : Int32) (T_nightsToHeal : (Nat → Int32)) (B_balances : (Nat → Int32)) (B_entries : Int32) (B_debited : (Nat → Int32)) (B_credited : (Nat → Int32)) (B_amounts : (Nat → Int32)) (C_fallen : Int32) : Option (Int32 × (Nat → Int32) × (Nat → Int32) × Int32 × (Nat → Int32) × (Nat → Int32) × (Nat → Int32) × Int32) :=
    wkl ((C_fallen + x3)) (fun v1 =>
    wkb1 (f_X9_injureBeside T_count T_weights T_strengths T_nightsToHeal x1 x2 C_netWidth) (fun w2 =>
    some (x4, w2, B_balances, B_entries, B_debited, B_credited, B_amounts, v1)))
def f_X3_bookFall_L49 (T_count : Int32) (T_weights : Nat → Int32) (T_strengths : Nat → Int32) (C_netWidth : Int32) (x1 : Int32) (x2 : Int32) (x3 : Int32) (x4 : Int32) (x6 : Int32) (T_nightsToHeal : (Nat → Int32)) (B_balances : (Nat → Int32)) (B_entries : Int32) (B_debited : (Nat → Int32)) (B_credited : (Nat → Int32)) (B_amounts : (Nat → Int32)) (C_fallen : Int32) : Option (Int32 × (Nat → Int32) × (Nat → Int32) × Int32 × (Nat → Int32) × (Nat → Int32) × (Nat → Int32) × Int32) :=
    if x6 ≤ 0 then
      (f_X3_bookFall_L66 T_count T_weights T_strengths C_netWidth x1 x2 x3 x4 T_nightsToHeal B_balances B_entries B_debited B_credited B_amounts C_fallen)
    else
      (wkb6 (f_X2_book B_balances B_entries B_debited B_credited B_amounts 3 0 x6) (fun r2 w3 w4 w5 w6 w7 =>
      f_X3_bookFall_L66 T_count T_weights T_strengths C_netWidth x1 x2 x3 x4 T_nightsToHeal w3 w4 w5 w6 w7 C_fallen))
def f_X3_bookFall (T_count : Int32) (T_weights : Nat → Int32) (T_strengths : Nat → Int32) (T_nightsToHeal : Nat → Int32) (B_balances : Nat → Int32) (B_entries : Int32) (B_debited : Nat → Int32) (B_credited : Nat → Int32) (B_amounts : Nat → Int32) (C_netWidth : Int32) (C_fallen : Int32) (x1 : Int32) (x2 : Int32) : Option (Int32 × (Nat → Int32) × (Nat → Int32) × Int32 × (Nat → Int32) × (Nat → Int32) × (Nat → Int32) × Int32) :=
  wkb1 (f_X9_countAbove T_count T_weights T_strengths x1 x2) (fun r1 =>
  wkb1 (f_X3_fromReserve B_balances (10 * r1)) (fun r3 =>
  wkb1 (f_X3_fromCash B_balances (10 * r1)) (fun r5 =>
  if r3 ≤ 0 then
    (f_X3_bookFall_L49 T_count T_weights T_strengths C_netWidth x1 x2 r1 (10 * r1) r5 T_nightsToHeal B_balances B_entries B_debited B_credited B_amounts C_fallen)
  else
    (wkb6 (f_X2_book B_balances B_entries B_debited B_credited B_amounts 3 1 r3) (fun r8 w9 w10 w11 w12 w13 =>
    f_X3_bookFall_L49 T_count T_weights T_strengths C_netWidth x1 x2 r1 (10 * r1) r5 T_nightsToHeal w9 w10 w11 w12 w13 C_fallen)))))
set_option maxHeartbeats 4000000 in
set_option maxRecDepth 100000 in
theorem wl_X3_bookFall_L66 {p : Program} {l : Launch} {e : Env} {s : State} {m : MethodId} {args : Array Value} {below : List Frame} {meth : Method} {c : Code} {dC : Nat → ClassId} {dI : Nat → Nat → Nat} {Y : Nat → ClassId} {a : Nat → Nat} {T_count : Int32} {T_weights : Nat → Int32} {T_strengths : Nat → Int32} {T_heights : Nat → Int32} {T_wages : Nat → Int32} {B_accounts : Int32} {B_balancesAtClosing : Nat → Int32} {C_nights : Int32} {C_netWidth : Int32} {C_shows : Int32} {x1 : Int32} {x2 : Int32} {r : Int32} {zT_nightsToHeal : Nat → Int32} {zB_balances : Nat → Int32} {zB_entries : Int32} {zB_debited : Nat → Int32} {zB_credited : Nat → Int32} {zB_amounts : Nat → Int32} {zC_fallen : Int32}  (C0 : wk_C p s m args meth c cX3_bookFall 7 (some .int) wsX3_bookFall RX3) {A : Nat → Prop} (hK : va_K (dC, dI) vwCl (vTy Y) s) (hA : ∀ q, s.heap.size ≤ q → A q) : ∀ (x3 : Int32) (x4 : Int32)  (T_nightsToHeal : Nat → Int32) (B_balances : Nat → Int32) (B_entries : Int32) (B_debited : Nat → Int32) (B_credited : Nat → Int32) (B_amounts : Nat → Int32) (C_fallen : Int32), f_X3_bookFall_L66 T_count T_weights T_strengths C_netWidth x1 x2 x3 x4 T_nightsToHeal B_balances B_entries B_debited B_credited B_amounts C_fallen = some (r, zT_nightsToHeal, zB_balances, zB_entries, zB_debited, zB_credited, zB_amounts, zC_fallen) → ∀ (H : Heap) (locs : List Loc), va_P (dC, dI) vwCl (wX3 Y a T_count T_weights T_strengths T_heights T_wages T_nightsToHeal B_accounts B_balances B_balancesAtClosing B_entries B_debited B_credited B_amounts C_nights C_netWidth C_shows C_fallen) H → va_D A (wX3 Y a T_count T_weights T_strengths T_heights T_wages T_nightsToHeal B_accounts B_balances B_balancesAtClosing B_entries B_debited B_credited B_amounts C_nights C_netWidth C_shows C_fallen) → va_S A s.heap H locs → ∀ (ls : Array Slot), lv_has ls 7 [(0, .ref (a 0)), (1, .int x1), (2, .int x2), (3, .int x3), (4, .int x4)] → W p l e (headSpec wsX3_bookFall ({ frames := 3, cells := 0, slots := 0, locals := 73 } : Room)).room s m args below meth c H locs 0 0 (MQ below (va_Qi (fun r2 (_ : Unit) => r2 = r) (fun _ t => wk_X (dC, dI) Y (wX3 Y a T_count T_weights T_strengths T_heights T_wages zT_nightsToHeal B_accounts zB_balances B_balancesAtClosing zB_entries zB_debited zB_credited zB_amounts C_nights C_netWidth C_shows zC_fallen) A t) A) args s 0 0 A) (F0 m 66 ls []) := by
  obtain ⟨hx, hb, hml, hr, hlocks, hown, hts⟩ := id C0
  intro x3 x4 T_nightsToHeal B_balances B_entries B_debited B_credited B_amounts C_fallen hf H locs hP hD hS ls hl
  rw [f_X3_bookFall_L66] at hf
  have hP : va_P (dC, dI) vwCl [(a 0, .inr (5, [.ref (a 1), .ref (a 7), .int C_nights, .int C_netWidth, .int C_shows, .int C_fallen])), (a 1, .inr (9, [.int T_count, .ref (a 2), .ref (a 3), .ref (a 4), .ref (a 5), .ref (a 6)])), (a 2, .inl (Y 0, 6, .inl T_weights)), (a 3, .inl (Y 0, 6, .inl T_strengths)), (a 4, .inl (Y 0, 6, .inl T_heights)), (a 5, .inl (Y 0, 6, .inl T_wages)), (a 6, .inl (Y 0, 6, .inl T_nightsToHeal)), (a 7, .inr (4, [.int B_accounts, .ref (a 8), .ref (a 9), .int B_entries, .ref (a 10), .ref (a 11), .ref (a 12)])), (a 8, .inl (Y 0, 11, .inl B_balances)), (a 9, .inl (Y 0, 11, .inl B_balancesAtClosing)), (a 10, .inl (Y 0, 60, .inl B_debited)), (a 11, .inl (Y 0, 60, .inl B_credited)), (a 12, .inl (Y 0, 60, .inl B_amounts))] H := hP
  have hD : va_D A [(a 0, .inr (5, [.ref (a 1), .ref (a 7), .int C_nights, .int C_netWidth, .int C_shows, .int C_fallen])), (a 1, .inr (9, [.int T_count, .ref (a 2), .ref (a 3), .ref (a 4), .ref (a 5), .ref (a 6)])), (a 2, .inl (Y 0, 6, .inl T_weights)), (a 3, .inl (Y 0, 6, .inl T_strengths)), (a 4, .inl (Y 0, 6, .inl T_heights)), (a 5, .inl (Y 0, 6, .inl T_wages)), (a 6, .inl (Y 0, 6, .inl T_nightsToHeal)), (a 7, .inr (4, [.int B_accounts, .ref (a 8), .ref (a 9), .int B_entries, .ref (a 10), .ref (a 11), .ref (a 12)])), (a 8, .inl (Y 0, 11, .inl B_balances)), (a 9, .inl (Y 0, 11, .inl B_balancesAtClosing)), (a 10, .inl (Y 0, 60, .inl B_debited)), (a 11, .inl (Y 0, 60, .inl B_credited)), (a 12, .inl (Y 0, 60, .inl B_amounts))] := hD
  refine lv_aload_n hx hb dX3_bookFall_66 rfl (lv_at hl 0 rfl) ?_
  refine lv_dup hx hb dX3_bookFall_67 rfl ?_
  refine va_get (D := (dC, dI)) (ci := 5) (v := .int C_fallen) (C := RX3) (T := TX3) (N := 6) hx hb hts in_X3_bookFall_X3 hown hK hP 0 rfl rfl 5 (by decide) (hts _ lk_X3_bookFall_RX3_42) (fun _ h9 => h9) rfl dX3_bookFall_68 ?_
  refine lv_iload_n hx hb dX3_bookFall_71 rfl (lv_at hl 3 rfl) ?_
  refine lv_iadd hx hb dX3_bookFall_72 ?_
  refine lv_topi (fun v1 ev1 => ?_)
  have hf := wkl_s hf ev1
  refine va_put (D := (dC, dI)) (ci := 5) (v := .int v1) (ty := .int) (C := RX3) (T := TX3) (N := 6) hx hb hts in_X3_bookFall_X3 tyX3 tyX3_ok nmX3 hown hK hP hD hS 0 rfl rfl 5 (by decide) (hts _ lk_X3_bookFall_RX3_42) (fun _ h9 => h9) rfl (by decide +kernel) rfl rfl (Nat.le_of_ble_eq_true rfl) dX3_bookFall_73 (fun H locs hP hD hS => ?_)
  have hP : va_P (dC, dI) vwCl [(a 0, .inr (5, [.ref (a 1), .ref (a 7), .int C_nights, .int C_netWidth, .int C_shows, .int v1])), (a 1, .inr (9, [.int T_count, .ref (a 2), .ref (a 3), .ref (a 4), .ref (a 5), .ref (a 6)])), (a 2, .inl (Y 0, 6, .inl T_weights)), (a 3, .inl (Y 0, 6, .inl T_strengths)), (a 4, .inl (Y 0, 6, .inl T_heights)), (a 5, .inl (Y 0, 6, .inl T_wages)), (a 6, .inl (Y 0, 6, .inl T_nightsToHeal)), (a 7, .inr (4, [.int B_accounts, .ref (a 8), .ref (a 9), .int B_entries, .ref (a 10), .ref (a 11), .ref (a 12)])), (a 8, .inl (Y 0, 11, .inl B_balances)), (a 9, .inl (Y 0, 11, .inl B_balancesAtClosing)), (a 10, .inl (Y 0, 60, .inl B_debited)), (a 11, .inl (Y 0, 60, .inl B_credited)), (a 12, .inl (Y 0, 60, .inl B_amounts))] H := hP
  have hD : va_D A [(a 0, .inr (5, [.ref (a 1), .ref (a 7), .int C_nights, .int C_netWidth, .int C_shows, .int v1])), (a 1, .inr (9, [.int T_count, .ref (a 2), .ref (a 3), .ref (a 4), .ref (a 5), .ref (a 6)])), (a 2, .inl (Y 0, 6, .inl T_weights)), (a 3, .inl (Y 0, 6, .inl T_strengths)), (a 4, .inl (Y 0, 6, .inl T_heights)), (a 5, .inl (Y 0, 6, .inl T_wages)), (a 6, .inl (Y 0, 6, .inl T_nightsToHeal)), (a 7, .inr (4, [.int B_accounts, .ref (a 8), .ref (a 9), .int B_entries, .ref (a 10), .ref (a 11), .ref (a 12)])), (a 8, .inl (Y 0, 11, .inl B_balances)), (a 9, .inl (Y 0, 11, .inl B_balancesAtClosing)), (a 10, .inl (Y 0, 60, .inl B_debited)), (a 11, .inl (Y 0, 60, .inl B_credited)), (a 12, .inl (Y 0, 60, .inl B_amounts))] := hD
  refine lv_aload_n hx hb dX3_bookFall_76 rfl (lv_at hl 0 rfl) ?_
  refine va_get (D := (dC, dI)) (ci := 5) (v := .ref (a 1)) (C := RX3) (T := TX3) (N := 6) hx hb hts in_X3_bookFall_X3 hown hK hP 0 rfl rfl 0 (by decide) (hts _ lk_X3_bookFall_RX3_12) (fun _ h9 => h9) rfl dX3_bookFall_77 ?_
  refine lv_iload_n hx hb dX3_bookFall_80 rfl (lv_at hl 1 rfl) ?_
  refine lv_iload_n hx hb dX3_bookFall_81 rfl (lv_at hl 2 rfl) ?_
  refine lv_aload_n hx hb dX3_bookFall_82 rfl (lv_at hl 0 rfl) ?_
  refine va_get (D := (dC, dI)) (ci := 5) (v := .int C_netWidth) (C := RX3) (T := TX3) (N := 6) hx hb hts in_X3_bookFall_X3 hown hK hP 0 rfl rfl 3 (by decide) (hts _ lk_X3_bookFall_RX3_36) (fun _ h9 => h9) rfl dX3_bookFall_83 ?_
  obtain ⟨w2, hr3, hf⟩ := wkb1_s hf
  refine wk_evv (As := [.int x1, .int x2, .int C_netWidth]) (rest := []) (wc := (wX9 Y (fun k => a (k + 1)) T_count T_weights T_strengths T_heights T_wages T_nightsToHeal)) (w1 := (wX9 Y (fun k => a (k + 1)) T_count T_weights T_strengths T_heights T_wages w2)) (wr := [(a 0, .inr (5, [.ref (a 1), .ref (a 7), .int C_nights, .int C_netWidth, .int C_shows, .int v1])), (a 7, .inr (4, [.int B_accounts, .ref (a 8), .ref (a 9), .int B_entries, .ref (a 10), .ref (a 11), .ref (a 12)])), (a 8, .inl (Y 0, 11, .inl B_balances)), (a 9, .inl (Y 0, 11, .inl B_balancesAtClosing)), (a 10, .inl (Y 0, 60, .inl B_debited)), (a 11, .inl (Y 0, 60, .inl B_credited)), (a 12, .inl (Y 0, 60, .inl B_amounts))]) ⟨hx, hb, hml, hown, hts⟩ (c_X9_injureBeside l dC dI Y (fun k => a (k + 1)) T_count T_weights T_strengths T_heights T_wages T_nightsToHeal x1 x2 C_netWidth H.size w2 hr3) (cwV 3 hts gX3_bookFall_X9_injureBeside rfl rfl rfl (by decide +kernel) ⟨Nat.le_of_ble_eq_true rfl, Nat.le_of_ble_eq_true rfl⟩) hK hP hD hS hA [1, 2, 3, 4, 5, 6] [0, 7, 8, 9, 10, 11, 12] rfl rfl (by decide) (by decide) (by decide) (va_recv hK hP (ci := 9) (q0 := 1) rfl rfl) rfl hl.1 rfl (Nat.le_of_ble_eq_true rfl) dX3_bookFall_86 ⟨Nat.le_of_ble_eq_true rfl, Nat.le_of_ble_eq_true rfl⟩ (fun H locs hP hD hS => ?_)
  have hP : va_P (dC, dI) vwCl [(a 0, .inr (5, [.ref (a 1), .ref (a 7), .int C_nights, .int C_netWidth, .int C_shows, .int v1])), (a 7, .inr (4, [.int B_accounts, .ref (a 8), .ref (a 9), .int B_entries, .ref (a 10), .ref (a 11), .ref (a 12)])), (a 8, .inl (Y 0, 11, .inl B_balances)), (a 9, .inl (Y 0, 11, .inl B_balancesAtClosing)), (a 10, .inl (Y 0, 60, .inl B_debited)), (a 11, .inl (Y 0, 60, .inl B_credited)), (a 12, .inl (Y 0, 60, .inl B_amounts)), (a 1, .inr (9, [.int T_count, .ref (a 2), .ref (a 3), .ref (a 4), .ref (a 5), .ref (a 6)])), (a 2, .inl (Y 0, 6, .inl T_weights)), (a 3, .inl (Y 0, 6, .inl T_strengths)), (a 4, .inl (Y 0, 6, .inl T_heights)), (a 5, .inl (Y 0, 6, .inl T_wages)), (a 6, .inl (Y 0, 6, .inl w2))] H := hP
  have hD : va_D A [(a 0, .inr (5, [.ref (a 1), .ref (a 7), .int C_nights, .int C_netWidth, .int C_shows, .int v1])), (a 7, .inr (4, [.int B_accounts, .ref (a 8), .ref (a 9), .int B_entries, .ref (a 10), .ref (a 11), .ref (a 12)])), (a 8, .inl (Y 0, 11, .inl B_balances)), (a 9, .inl (Y 0, 11, .inl B_balancesAtClosing)), (a 10, .inl (Y 0, 60, .inl B_debited)), (a 11, .inl (Y 0, 60, .inl B_credited)), (a 12, .inl (Y 0, 60, .inl B_amounts)), (a 1, .inr (9, [.int T_count, .ref (a 2), .ref (a 3), .ref (a 4), .ref (a 5), .ref (a 6)])), (a 2, .inl (Y 0, 6, .inl T_weights)), (a 3, .inl (Y 0, 6, .inl T_strengths)), (a 4, .inl (Y 0, 6, .inl T_heights)), (a 5, .inl (Y 0, 6, .inl T_wages)), (a 6, .inl (Y 0, 6, .inl w2))] := hD
  refine lv_iload hx hb dX3_bookFall_89 (lv_at hl 4 rfl) ?_
  obtain ⟨e0, e1, e2, e3, e4, e5, e6, e7⟩ := wke8 hf
  subst e0
  subst e1
  subst e2
  subst e3
  subst e4
  subst e5
  subst e6
  subst e7
  have hP9 := hP.sub (ws' := (wX3 Y a T_count T_weights T_strengths T_heights T_wages w2 B_accounts B_balances B_balancesAtClosing B_entries B_debited B_credited B_amounts C_nights C_netWidth C_shows v1)) [0, 7, 8, 9, 10, 11, 12, 1, 2, 3, 4, 5, 6] rfl
  have hD9 := hD.sub (ws' := (wX3 Y a T_count T_weights T_strengths T_heights T_wages w2 B_accounts B_balances B_balancesAtClosing B_entries B_debited B_credited B_amounts C_nights C_netWidth C_shows v1)) [0, 7, 8, 9, 10, 11, 12, 1, 2, 3, 4, 5, 6] (by decide) rfl
  exact W.iret (v := x4) hx hb hr (fun t ht hW => ⟨⟨x4, (), rfl, rfl, by rw [ht]; exact hP9, va_K.moved hW.alike hK, hD9⟩, hS.F ht⟩) hS.2.2 dX3_bookFall_91
set_option maxHeartbeats 4000000 in
set_option maxRecDepth 100000 in
theorem wl_X3_bookFall_L49 {p : Program} {l : Launch} {e : Env} {s : State} {m : MethodId} {args : Array Value} {below : List Frame} {meth : Method} {c : Code} {dC : Nat → ClassId} {dI : Nat → Nat → Nat} {Y : Nat → ClassId} {a : Nat → Nat} {T_count : Int32} {T_weights : Nat → Int32} {T_strengths : Nat → Int32} {T_heights : Nat → Int32} {T_wages : Nat → Int32} {B_accounts : Int32} {B_balancesAtClosing : Nat → Int32} {C_nights : Int32} {C_netWidth : Int32} {C_shows : Int32} {x1 : Int32} {x2 : Int32} {r : Int32} {zT_nightsToHeal : Nat → Int32} {zB_balances : Nat → Int32} {zB_entries : Int32} {zB_debited : Nat → Int32} {zB_credited : Nat → Int32} {zB_amounts : Nat → Int32} {zC_fallen : Int32}  (C0 : wk_C p s m args meth c cX3_bookFall 7 (some .int) wsX3_bookFall RX3) {A : Nat → Prop} (hK : va_K (dC, dI) vwCl (vTy Y) s) (hA : ∀ q, s.heap.size ≤ q → A q) : ∀ (x3 : Int32) (x4 : Int32) (x6 : Int32)  (T_nightsToHeal : Nat → Int32) (B_balances : Nat → Int32) (B_entries : Int32) (B_debited : Nat → Int32) (B_credited : Nat → Int32) (B_amounts : Nat → Int32) (C_fallen : Int32), f_X3_bookFall_L49 T_count T_weights T_strengths C_netWidth x1 x2 x3 x4 x6 T_nightsToHeal B_balances B_entries B_debited B_credited B_amounts C_fallen = some (r, zT_nightsToHeal, zB_balances, zB_entries, zB_debited, zB_credited, zB_amounts, zC_fallen) → ∀ (H : Heap) (locs : List Loc), va_P (dC, dI) vwCl (wX3 Y a T_count T_weights T_strengths T_heights T_wages T_nightsToHeal B_accounts B_balances B_balancesAtClosing B_entries B_debited B_credited B_amounts C_nights C_netWidth C_shows C_fallen) H → va_D A (wX3 Y a T_count T_weights T_strengths T_heights T_wages T_nightsToHeal B_accounts B_balances B_balancesAtClosing B_entries B_debited B_credited B_amounts C_nights C_netWidth C_shows C_fallen) → va_S A s.heap H locs → ∀ (ls : Array Slot), lv_has ls 7 [(0, .ref (a 0)), (1, .int x1), (2, .int x2), (3, .int x3), (4, .int x4), (6, .int x6)] → W p l e (headSpec wsX3_bookFall ({ frames := 3, cells := 0, slots := 0, locals := 73 } : Room)).room s m args below meth c H locs 0 0 (MQ below (va_Qi (fun r2 (_ : Unit) => r2 = r) (fun _ t => wk_X (dC, dI) Y (wX3 Y a T_count T_weights T_strengths T_heights T_wages zT_nightsToHeal B_accounts zB_balances B_balancesAtClosing zB_entries zB_debited zB_credited zB_amounts C_nights C_netWidth C_shows zC_fallen) A t) A) args s 0 0 A) (F0 m 49 ls []) := by
  obtain ⟨hx, hb, hml, hr, hlocks, hown, hts⟩ := id C0
  intro x3 x4 x6 T_nightsToHeal B_balances B_entries B_debited B_credited B_amounts C_fallen hf H locs hP hD hS ls hl
  rw [f_X3_bookFall_L49] at hf
  have hP : va_P (dC, dI) vwCl [(a 0, .inr (5, [.ref (a 1), .ref (a 7), .int C_nights, .int C_netWidth, .int C_shows, .int C_fallen])), (a 1, .inr (9, [.int T_count, .ref (a 2), .ref (a 3), .ref (a 4), .ref (a 5), .ref (a 6)])), (a 2, .inl (Y 0, 6, .inl T_weights)), (a 3, .inl (Y 0, 6, .inl T_strengths)), (a 4, .inl (Y 0, 6, .inl T_heights)), (a 5, .inl (Y 0, 6, .inl T_wages)), (a 6, .inl (Y 0, 6, .inl T_nightsToHeal)), (a 7, .inr (4, [.int B_accounts, .ref (a 8), .ref (a 9), .int B_entries, .ref (a 10), .ref (a 11), .ref (a 12)])), (a 8, .inl (Y 0, 11, .inl B_balances)), (a 9, .inl (Y 0, 11, .inl B_balancesAtClosing)), (a 10, .inl (Y 0, 60, .inl B_debited)), (a 11, .inl (Y 0, 60, .inl B_credited)), (a 12, .inl (Y 0, 60, .inl B_amounts))] H := hP
  have hD : va_D A [(a 0, .inr (5, [.ref (a 1), .ref (a 7), .int C_nights, .int C_netWidth, .int C_shows, .int C_fallen])), (a 1, .inr (9, [.int T_count, .ref (a 2), .ref (a 3), .ref (a 4), .ref (a 5), .ref (a 6)])), (a 2, .inl (Y 0, 6, .inl T_weights)), (a 3, .inl (Y 0, 6, .inl T_strengths)), (a 4, .inl (Y 0, 6, .inl T_heights)), (a 5, .inl (Y 0, 6, .inl T_wages)), (a 6, .inl (Y 0, 6, .inl T_nightsToHeal)), (a 7, .inr (4, [.int B_accounts, .ref (a 8), .ref (a 9), .int B_entries, .ref (a 10), .ref (a 11), .ref (a 12)])), (a 8, .inl (Y 0, 11, .inl B_balances)), (a 9, .inl (Y 0, 11, .inl B_balancesAtClosing)), (a 10, .inl (Y 0, 60, .inl B_debited)), (a 11, .inl (Y 0, 60, .inl B_credited)), (a 12, .inl (Y 0, 60, .inl B_amounts))] := hD
  refine lv_iload hx hb dX3_bookFall_49 (lv_at hl 5 rfl) ?_
  refine lv_if_le (tgt := 66) hx hb dX3_bookFall_51 (by decide) (fun q1 => ?_) (fun q1 => ?_)
  · have hf := wk_t hf q1
    exact wl_X3_bookFall_L66 C0 hK hA x3 x4 T_nightsToHeal B_balances B_entries B_debited B_credited B_amounts C_fallen hf H locs hP hD hS ls (lv_sub hl [0, 1, 2, 3, 4] rfl)
  · have hf := wk_f hf q1
    refine lv_aload_n hx hb dX3_bookFall_54 rfl (lv_at hl 0 rfl) ?_
    refine va_get (D := (dC, dI)) (ci := 5) (v := .ref (a 7)) (C := RX3) (T := TX3) (N := 6) hx hb hts in_X3_bookFall_X3 hown hK hP 0 rfl rfl 1 (by decide) (hts _ lk_X3_bookFall_RX3_21) (fun _ h9 => h9) rfl dX3_bookFall_55 ?_
    refine lv_iconst (v := 3) hx hb dX3_bookFall_58 (by decide) ?_
    refine lv_iconst (v := 0) hx hb dX3_bookFall_59 (by decide) ?_
    refine lv_iload hx hb dX3_bookFall_60 (lv_at hl 5 rfl) ?_
    obtain ⟨r2, w3, w4, w5, w6, w7, hr8, hf⟩ := wkb6_s hf
    refine wk_evi (As := [.int 3, .int 0, .int x6]) (rest := []) (wc := (wX2 Y (fun k => a (k + 7)) B_accounts B_balances B_balancesAtClosing B_entries B_debited B_credited B_amounts)) (w1 := (wX2 Y (fun k => a (k + 7)) B_accounts w3 B_balancesAtClosing w4 w5 w6 w7)) (wr := [(a 0, .inr (5, [.ref (a 1), .ref (a 7), .int C_nights, .int C_netWidth, .int C_shows, .int C_fallen])), (a 1, .inr (9, [.int T_count, .ref (a 2), .ref (a 3), .ref (a 4), .ref (a 5), .ref (a 6)])), (a 2, .inl (Y 0, 6, .inl T_weights)), (a 3, .inl (Y 0, 6, .inl T_strengths)), (a 4, .inl (Y 0, 6, .inl T_heights)), (a 5, .inl (Y 0, 6, .inl T_wages)), (a 6, .inl (Y 0, 6, .inl T_nightsToHeal))]) ⟨hx, hb, hml, hown, hts⟩ (c_X2_book l dC dI Y (fun k => a (k + 7)) B_accounts B_balances B_balancesAtClosing B_entries B_debited B_credited B_amounts 3 0 x6 H.size r2 w3 w4 w5 w6 w7 hr8) (cwV 3 hts gX3_bookFall_X2_book rfl rfl rfl (by decide +kernel) ⟨Nat.le_of_ble_eq_true rfl, Nat.le_of_ble_eq_true rfl⟩) hK hP hD hS hA [7, 8, 9, 10, 11, 12] [0, 1, 2, 3, 4, 5, 6] rfl rfl (by decide) (by decide) (by decide) (va_recv hK hP (ci := 4) (q0 := 7) rfl rfl) rfl hl.1 rfl (Nat.le_of_ble_eq_true rfl) dX3_bookFall_62 ⟨Nat.le_of_ble_eq_true rfl, Nat.le_of_ble_eq_true rfl⟩ (fun H locs hP hD hS => ?_)
    have hP : va_P (dC, dI) vwCl [(a 0, .inr (5, [.ref (a 1), .ref (a 7), .int C_nights, .int C_netWidth, .int C_shows, .int C_fallen])), (a 1, .inr (9, [.int T_count, .ref (a 2), .ref (a 3), .ref (a 4), .ref (a 5), .ref (a 6)])), (a 2, .inl (Y 0, 6, .inl T_weights)), (a 3, .inl (Y 0, 6, .inl T_strengths)), (a 4, .inl (Y 0, 6, .inl T_heights)), (a 5, .inl (Y 0, 6, .inl T_wages)), (a 6, .inl (Y 0, 6, .inl T_nightsToHeal)), (a 7, .inr (4, [.int B_accounts, .ref (a 8), .ref (a 9), .int w4, .ref (a 10), .ref (a 11), .ref (a 12)])), (a 8, .inl (Y 0, 11, .inl w3)), (a 9, .inl (Y 0, 11, .inl B_balancesAtClosing)), (a 10, .inl (Y 0, 60, .inl w5)), (a 11, .inl (Y 0, 60, .inl w6)), (a 12, .inl (Y 0, 60, .inl w7))] H := hP
    have hD : va_D A [(a 0, .inr (5, [.ref (a 1), .ref (a 7), .int C_nights, .int C_netWidth, .int C_shows, .int C_fallen])), (a 1, .inr (9, [.int T_count, .ref (a 2), .ref (a 3), .ref (a 4), .ref (a 5), .ref (a 6)])), (a 2, .inl (Y 0, 6, .inl T_weights)), (a 3, .inl (Y 0, 6, .inl T_strengths)), (a 4, .inl (Y 0, 6, .inl T_heights)), (a 5, .inl (Y 0, 6, .inl T_wages)), (a 6, .inl (Y 0, 6, .inl T_nightsToHeal)), (a 7, .inr (4, [.int B_accounts, .ref (a 8), .ref (a 9), .int w4, .ref (a 10), .ref (a 11), .ref (a 12)])), (a 8, .inl (Y 0, 11, .inl w3)), (a 9, .inl (Y 0, 11, .inl B_balancesAtClosing)), (a 10, .inl (Y 0, 60, .inl w5)), (a 11, .inl (Y 0, 60, .inl w6)), (a 12, .inl (Y 0, 60, .inl w7))] := hD
    refine lv_pop hx hb dX3_bookFall_65 rfl ?_
    exact wl_X3_bookFall_L66 C0 hK hA x3 x4 T_nightsToHeal w3 w4 w5 w6 w7 C_fallen hf H locs hP hD hS ls (lv_sub hl [0, 1, 2, 3, 4] rfl)
set_option maxHeartbeats 4000000 in
set_option maxRecDepth 100000 in
theorem c_X3_bookFall (l : Launch) (dC : Nat → ClassId) (dI : Nat → Nat → Nat) (Y : Nat → ClassId) (a : Nat → Nat) (T_count : Int32) (T_weights : Nat → Int32) (T_strengths : Nat → Int32) (T_heights : Nat → Int32) (T_wages : Nat → Int32) (T_nightsToHeal : Nat → Int32) (B_accounts : Int32) (B_balances : Nat → Int32) (B_balancesAtClosing : Nat → Int32) (B_entries : Int32) (B_debited : Nat → Int32) (B_credited : Nat → Int32) (B_amounts : Nat → Int32) (C_nights : Int32) (C_netWidth : Int32) (C_shows : Int32) (C_fallen : Int32) (x1 : Int32) (x2 : Int32) (sz : Nat) (r : Int32) (zT_nightsToHeal : Nat → Int32) (zB_balances : Nat → Int32) (zB_entries : Int32) (zB_debited : Nat → Int32) (zB_credited : Nat → Int32) (zB_amounts : Nat → Int32) (zC_fallen : Int32) (hf : f_X3_bookFall T_count T_weights T_strengths T_nightsToHeal B_balances B_entries B_debited B_credited B_amounts C_netWidth C_fallen x1 x2 = some (r, zT_nightsToHeal, zB_balances, zB_entries, zB_debited, zB_credited, zB_amounts, zC_fallen)) : Met l yX3_bookFall wsX3_bookFall ({ frames := 3, cells := 0, slots := 0, locals := 73 } : Room) (va_Pc [.ref (a 0), .int x1, .int x2] (wk_E (dC, dI) Y (wX3 Y a T_count T_weights T_strengths T_heights T_wages T_nightsToHeal B_accounts B_balances B_balancesAtClosing B_entries B_debited B_credited B_amounts C_nights C_netWidth C_shows C_fallen) sz)) (va_Qi (fun r2 (_ : Unit) => r2 = r) (fun _ t => wk_X (dC, dI) Y (wX3 Y a T_count T_weights T_strengths T_heights T_wages zT_nightsToHeal B_accounts zB_balances B_balancesAtClosing zB_entries zB_debited zB_credited zB_amounts C_nights C_netWidth C_shows zC_fallen) (va_A (wX3 Y a T_count T_weights T_strengths T_heights T_wages T_nightsToHeal B_accounts B_balances B_balancesAtClosing B_entries B_debited B_credited B_amounts C_nights C_netWidth C_shows C_fallen) sz) t) (va_A (wX3 Y a T_count T_weights T_strengths T_heights T_wages T_nightsToHeal B_accounts B_balances B_balancesAtClosing B_entries B_debited B_credited B_amounts C_nights C_netWidth C_shows C_fallen) sz)) 0 0 (va_A (wX3 Y a T_count T_weights T_strengths T_heights T_wages T_nightsToHeal B_accounts B_balances B_balancesAtClosing B_entries B_debited B_credited B_amounts C_nights C_netWidth C_shows C_fallen) sz) := by
  refine Met.ofW (cc := cX3_bookFall) (maxL := 7) (ret := (some .int)) (by decide) rfl ?_
  intro p e s m args below meth c s₁ B hml hv
  obtain ⟨rfl, hsz, hP, hK, hD0⟩ := hv
  have hx := B.exec
  have hb := B.bytes
  have hr := B.returns
  have hts := atoms_spec (ws := wsX3_bookFall) B.pre
  have hown : s.vm.findClass RX3 = some m.cls := findClass_of_methodNamed B.named
  have hlocks := B.notSynchronized
  have C0 : wk_C p s m _ meth c cX3_bookFall 7 (some .int) wsX3_bookFall RX3 := ⟨hx, hb, hml, hr, hlocks, hown, hts⟩
  subst hsz
  have hD := hD0.self (sz := s.heap.size)
  generalize hAe : va_A (wX3 Y a T_count T_weights T_strengths T_heights T_wages T_nightsToHeal B_accounts B_balances B_balancesAtClosing B_entries B_debited B_credited B_amounts C_nights C_netWidth C_shows C_fallen) s.heap.size = A at hD ⊢
  have hA : ∀ q : Nat, s.heap.size ≤ q → A q := fun q h => by rw [← hAe]; exact Or.inr h
  have hS : va_S A s.heap s.heap [] := va_S.rf
  obtain ⟨H, hHe⟩ : ∃ H, H = s.heap := ⟨_, rfl⟩
  have hS : va_S A s.heap H [] := by rw [hHe]; exact hS
  have hP : va_P (dC, dI) vwCl [(a 0, .inr (5, [.ref (a 1), .ref (a 7), .int C_nights, .int C_netWidth, .int C_shows, .int C_fallen])), (a 1, .inr (9, [.int T_count, .ref (a 2), .ref (a 3), .ref (a 4), .ref (a 5), .ref (a 6)])), (a 2, .inl (Y 0, 6, .inl T_weights)), (a 3, .inl (Y 0, 6, .inl T_strengths)), (a 4, .inl (Y 0, 6, .inl T_heights)), (a 5, .inl (Y 0, 6, .inl T_wages)), (a 6, .inl (Y 0, 6, .inl T_nightsToHeal)), (a 7, .inr (4, [.int B_accounts, .ref (a 8), .ref (a 9), .int B_entries, .ref (a 10), .ref (a 11), .ref (a 12)])), (a 8, .inl (Y 0, 11, .inl B_balances)), (a 9, .inl (Y 0, 11, .inl B_balancesAtClosing)), (a 10, .inl (Y 0, 60, .inl B_debited)), (a 11, .inl (Y 0, 60, .inl B_credited)), (a 12, .inl (Y 0, 60, .inl B_amounts))] H := by rw [hHe]; exact hP
  have hD : va_D A [(a 0, .inr (5, [.ref (a 1), .ref (a 7), .int C_nights, .int C_netWidth, .int C_shows, .int C_fallen])), (a 1, .inr (9, [.int T_count, .ref (a 2), .ref (a 3), .ref (a 4), .ref (a 5), .ref (a 6)])), (a 2, .inl (Y 0, 6, .inl T_weights)), (a 3, .inl (Y 0, 6, .inl T_strengths)), (a 4, .inl (Y 0, 6, .inl T_heights)), (a 5, .inl (Y 0, 6, .inl T_wages)), (a 6, .inl (Y 0, 6, .inl T_nightsToHeal)), (a 7, .inr (4, [.int B_accounts, .ref (a 8), .ref (a 9), .int B_entries, .ref (a 10), .ref (a 11), .ref (a 12)])), (a 8, .inl (Y 0, 11, .inl B_balances)), (a 9, .inl (Y 0, 11, .inl B_balancesAtClosing)), (a 10, .inl (Y 0, 60, .inl B_debited)), (a 11, .inl (Y 0, 60, .inl B_credited)), (a 12, .inl (Y 0, 60, .inl B_amounts))] := hD
  obtain ⟨locs, hlo⟩ : ∃ locs : List Loc, locs = [] := ⟨_, rfl⟩
  have hS : va_S A s.heap H locs := by rw [hlo]; exact hS
  have hl := lv_entry ([.ref (a 0), .int x1, .int x2]) (n := 7) (Nat.le_of_ble_eq_true rfl)
  rw [lg_entry_eq]
  generalize (lg_sl ([.ref (a 0), .int x1, .int x2]) ++ List.replicate (7 - (lg_sl ([.ref (a 0), .int x1, .int x2])).length) Slot.unset).toArray = ls at hl ⊢
  have hl : lv_has ls 7 [(0, .ref (a 0)), (1, .int x1), (2, .int x2)] := hl
  refine wk_start hHe hlo ?_
  rw [f_X3_bookFall] at hf
  refine lv_aload_n hx hb dX3_bookFall_0 rfl (lv_at hl 0 rfl) ?_
  refine va_get (D := (dC, dI)) (ci := 5) (v := .ref (a 1)) (C := RX3) (T := TX3) (N := 6) hx hb hts in_X3_bookFall_X3 hown hK hP 0 rfl rfl 0 (by decide) (hts _ lk_X3_bookFall_RX3_12) (fun _ h9 => h9) rfl dX3_bookFall_1 ?_
  refine lv_iload_n hx hb dX3_bookFall_4 rfl (lv_at hl 1 rfl) ?_
  refine lv_iload_n hx hb dX3_bookFall_5 rfl (lv_at hl 2 rfl) ?_
  obtain ⟨r1, hr2, hf⟩ := wkb1_s hf
  have hPc := hP.sub (ws' := (wX9 Y (fun k => a (k + 1)) T_count T_weights T_strengths T_heights T_wages T_nightsToHeal)) [1, 2, 3, 4, 5, 6] rfl
  refine wk_vi (As := [.int x1, .int x2]) (rest := []) ⟨hx, hb, hml, hown, hts⟩ (c_X9_countAbove l dC dI Y (fun k => a (k + 1)) T_count T_weights T_strengths T_heights T_wages T_nightsToHeal x1 x2 r1 hr2) (cwV 2 hts gX3_bookFall_X9_countAbove rfl rfl rfl (by decide +kernel) ⟨Nat.le_of_ble_eq_true rfl, Nat.le_of_ble_eq_true rfl⟩) hK hPc (va_recv hK hP (ci := 9) (q0 := 1) rfl rfl) rfl hl.1 rfl (Nat.le_of_ble_eq_true rfl) dX3_bookFall_6 ⟨Nat.le_of_ble_eq_true rfl, Nat.le_of_ble_eq_true rfl⟩ ?_
  refine lv_istore_n (lv' := [(3, .int r1), (0, .ref (a 0)), (1, .int x1), (2, .int x2)]) hx hb dX3_bookFall_9 rfl hl (by decide) rfl (fun ls hl => ?_)
  refine lv_bipush (v := 10) hx hb dX3_bookFall_10 (by decide) ?_
  refine lv_iload_n hx hb dX3_bookFall_12 rfl (lv_at hl 0 rfl) ?_
  refine lv_imul hx hb dX3_bookFall_13 ?_
  refine lv_istore (lv' := [(4, .int (10 * r1)), (3, .int r1), (0, .ref (a 0)), (1, .int x1), (2, .int x2)]) hx hb dX3_bookFall_14 hl (by decide) rfl (fun ls hl => ?_)
  refine lv_aload_n hx hb dX3_bookFall_16 rfl (lv_at hl 2 rfl) ?_
  refine lv_iload hx hb dX3_bookFall_17 (lv_at hl 0 rfl) ?_
  obtain ⟨r3, hr4, hf⟩ := wkb1_s hf
  have hPc := hP.sub (ws' := (wX3 Y a T_count T_weights T_strengths T_heights T_wages T_nightsToHeal B_accounts B_balances B_balancesAtClosing B_entries B_debited B_credited B_amounts C_nights C_netWidth C_shows C_fallen)) [0, 1, 2, 3, 4, 5, 6, 7, 8, 9, 10, 11, 12] rfl
  refine wk_vi (As := [.int (10 * r1)]) (rest := []) ⟨hx, hb, hml, hown, hts⟩ (c_X3_fromReserve l dC dI Y a T_count T_weights T_strengths T_heights T_wages T_nightsToHeal B_accounts B_balances B_balancesAtClosing B_entries B_debited B_credited B_amounts C_nights C_netWidth C_shows C_fallen (10 * r1) r3 hr4) (cwV 1 hts gX3_bookFall_X3_fromReserve rfl rfl rfl (by decide +kernel) ⟨Nat.le_of_ble_eq_true rfl, Nat.le_of_ble_eq_true rfl⟩) hK hPc (va_recv hK hP (ci := 5) (q0 := 0) rfl rfl) rfl hl.1 rfl (Nat.le_of_ble_eq_true rfl) dX3_bookFall_19 ⟨Nat.le_of_ble_eq_true rfl, Nat.le_of_ble_eq_true rfl⟩ ?_
  refine lv_istore (lv' := [(5, .int r3), (4, .int (10 * r1)), (3, .int r1), (0, .ref (a 0)), (1, .int x1), (2, .int x2)]) hx hb dX3_bookFall_22 hl (by decide) rfl (fun ls hl => ?_)
  refine lv_aload_n hx hb dX3_bookFall_24 rfl (lv_at hl 3 rfl) ?_
  refine lv_iload hx hb dX3_bookFall_25 (lv_at hl 1 rfl) ?_
  obtain ⟨r5, hr6, hf⟩ := wkb1_s hf
  have hPc := hP.sub (ws' := (wX3 Y a T_count T_weights T_strengths T_heights T_wages T_nightsToHeal B_accounts B_balances B_balancesAtClosing B_entries B_debited B_credited B_amounts C_nights C_netWidth C_shows C_fallen)) [0, 1, 2, 3, 4, 5, 6, 7, 8, 9, 10, 11, 12] rfl
  refine wk_vi (As := [.int (10 * r1)]) (rest := []) ⟨hx, hb, hml, hown, hts⟩ (c_X3_fromCash l dC dI Y a T_count T_weights T_strengths T_heights T_wages T_nightsToHeal B_accounts B_balances B_balancesAtClosing B_entries B_debited B_credited B_amounts C_nights C_netWidth C_shows C_fallen (10 * r1) r5 hr6) (cwV 1 hts gX3_bookFall_X3_fromCash rfl rfl rfl (by decide +kernel) ⟨Nat.le_of_ble_eq_true rfl, Nat.le_of_ble_eq_true rfl⟩) hK hPc (va_recv hK hP (ci := 5) (q0 := 0) rfl rfl) rfl hl.1 rfl (Nat.le_of_ble_eq_true rfl) dX3_bookFall_27 ⟨Nat.le_of_ble_eq_true rfl, Nat.le_of_ble_eq_true rfl⟩ ?_
  refine lv_istore (lv' := [(6, .int r5), (5, .int r3), (4, .int (10 * r1)), (3, .int r1), (0, .ref (a 0)), (1, .int x1), (2, .int x2)]) hx hb dX3_bookFall_30 hl (by decide) rfl (fun ls hl => ?_)
  refine lv_iload hx hb dX3_bookFall_32 (lv_at hl 1 rfl) ?_
  refine lv_if_le (tgt := 49) hx hb dX3_bookFall_34 (by decide) (fun q7 => ?_) (fun q7 => ?_)
  · have hf := wk_t hf q7
    exact wl_X3_bookFall_L49 C0 hK hA r1 (10 * r1) r5 T_nightsToHeal B_balances B_entries B_debited B_credited B_amounts C_fallen hf H locs hP hD hS ls (lv_sub hl [4, 5, 6, 3, 2, 0] rfl)
  · have hf := wk_f hf q7
    refine lv_aload_n hx hb dX3_bookFall_37 rfl (lv_at hl 4 rfl) ?_
    refine va_get (D := (dC, dI)) (ci := 5) (v := .ref (a 7)) (C := RX3) (T := TX3) (N := 6) hx hb hts in_X3_bookFall_X3 hown hK hP 0 rfl rfl 1 (by decide) (hts _ lk_X3_bookFall_RX3_21) (fun _ h9 => h9) rfl dX3_bookFall_38 ?_
    refine lv_iconst (v := 3) hx hb dX3_bookFall_41 (by decide) ?_
    refine lv_iconst (v := 1) hx hb dX3_bookFall_42 (by decide) ?_
    refine lv_iload hx hb dX3_bookFall_43 (lv_at hl 1 rfl) ?_
    obtain ⟨r8, w9, w10, w11, w12, w13, hr14, hf⟩ := wkb6_s hf
    refine wk_evi (As := [.int 3, .int 1, .int r3]) (rest := []) (wc := (wX2 Y (fun k => a (k + 7)) B_accounts B_balances B_balancesAtClosing B_entries B_debited B_credited B_amounts)) (w1 := (wX2 Y (fun k => a (k + 7)) B_accounts w9 B_balancesAtClosing w10 w11 w12 w13)) (wr := [(a 0, .inr (5, [.ref (a 1), .ref (a 7), .int C_nights, .int C_netWidth, .int C_shows, .int C_fallen])), (a 1, .inr (9, [.int T_count, .ref (a 2), .ref (a 3), .ref (a 4), .ref (a 5), .ref (a 6)])), (a 2, .inl (Y 0, 6, .inl T_weights)), (a 3, .inl (Y 0, 6, .inl T_strengths)), (a 4, .inl (Y 0, 6, .inl T_heights)), (a 5, .inl (Y 0, 6, .inl T_wages)), (a 6, .inl (Y 0, 6, .inl T_nightsToHeal))]) ⟨hx, hb, hml, hown, hts⟩ (c_X2_book l dC dI Y (fun k => a (k + 7)) B_accounts B_balances B_balancesAtClosing B_entries B_debited B_credited B_amounts 3 1 r3 H.size r8 w9 w10 w11 w12 w13 hr14) (cwV 3 hts gX3_bookFall_X2_book rfl rfl rfl (by decide +kernel) ⟨Nat.le_of_ble_eq_true rfl, Nat.le_of_ble_eq_true rfl⟩) hK hP hD hS hA [7, 8, 9, 10, 11, 12] [0, 1, 2, 3, 4, 5, 6] rfl rfl (by decide) (by decide) (by decide) (va_recv hK hP (ci := 4) (q0 := 7) rfl rfl) rfl hl.1 rfl (Nat.le_of_ble_eq_true rfl) dX3_bookFall_45 ⟨Nat.le_of_ble_eq_true rfl, Nat.le_of_ble_eq_true rfl⟩ (fun H locs hP hD hS => ?_)
    have hP : va_P (dC, dI) vwCl [(a 0, .inr (5, [.ref (a 1), .ref (a 7), .int C_nights, .int C_netWidth, .int C_shows, .int C_fallen])), (a 1, .inr (9, [.int T_count, .ref (a 2), .ref (a 3), .ref (a 4), .ref (a 5), .ref (a 6)])), (a 2, .inl (Y 0, 6, .inl T_weights)), (a 3, .inl (Y 0, 6, .inl T_strengths)), (a 4, .inl (Y 0, 6, .inl T_heights)), (a 5, .inl (Y 0, 6, .inl T_wages)), (a 6, .inl (Y 0, 6, .inl T_nightsToHeal)), (a 7, .inr (4, [.int B_accounts, .ref (a 8), .ref (a 9), .int w10, .ref (a 10), .ref (a 11), .ref (a 12)])), (a 8, .inl (Y 0, 11, .inl w9)), (a 9, .inl (Y 0, 11, .inl B_balancesAtClosing)), (a 10, .inl (Y 0, 60, .inl w11)), (a 11, .inl (Y 0, 60, .inl w12)), (a 12, .inl (Y 0, 60, .inl w13))] H := hP
    have hD : va_D A [(a 0, .inr (5, [.ref (a 1), .ref (a 7), .int C_nights, .int C_netWidth, .int C_shows, .int C_fallen])), (a 1, .inr (9, [.int T_count, .ref (a 2), .ref (a 3), .ref (a 4), .ref (a 5), .ref (a 6)])), (a 2, .inl (Y 0, 6, .inl T_weights)), (a 3, .inl (Y 0, 6, .inl T_strengths)), (a 4, .inl (Y 0, 6, .inl T_heights)), (a 5, .inl (Y 0, 6, .inl T_wages)), (a 6, .inl (Y 0, 6, .inl T_nightsToHeal)), (a 7, .inr (4, [.int B_accounts, .ref (a 8), .ref (a 9), .int w10, .ref (a 10), .ref (a 11), .ref (a 12)])), (a 8, .inl (Y 0, 11, .inl w9)), (a 9, .inl (Y 0, 11, .inl B_balancesAtClosing)), (a 10, .inl (Y 0, 60, .inl w11)), (a 11, .inl (Y 0, 60, .inl w12)), (a 12, .inl (Y 0, 60, .inl w13))] := hD
    refine lv_pop hx hb dX3_bookFall_48 rfl ?_
    exact wl_X3_bookFall_L49 C0 hK hA r1 (10 * r1) r5 T_nightsToHeal w9 w10 w11 w12 w13 C_fallen hf H locs hP hD hS ls (lv_sub hl [4, 5, 6, 3, 2, 0] rfl)
theorem lk_X3_waitNights_RX3_12 : Cond.fieldLink RX3 12 "CircusLedger$Circus" "troupe" "LCircusLedger$Troupe;" ∈ wsX3_waitNights := by decide +kernel
theorem lk_X3_waitNights_RX3_32 : Cond.fieldLink RX3 32 "CircusLedger$Circus" "nights" "I" ∈ wsX3_waitNights := by decide +kernel
theorem in_X3_waitNights_X3 : ∀ w ∈ u_ws RX3 TX3 6, w ∈ wsX3_waitNights := by decide +kernel
def f_X3_waitNights (T_count : Int32) (T_nightsToHeal : Nat → Int32) (C_nights : Int32) (x1 : Int32) : Option (Int32 × (Nat → Int32) × Int32) :=
  wkl ((C_nights + x1)) (fun v1 =>
  wkb2 (f_X9_heal T_count T_nightsToHeal x1) (fun r2 w3 =>
  some (r2, w3, v1)))
set_option maxHeartbeats 4000000 in
set_option maxRecDepth 100000 in
theorem c_X3_waitNights (l : Launch) (dC : Nat → ClassId) (dI : Nat → Nat → Nat) (Y : Nat → ClassId) (a : Nat → Nat) (T_count : Int32) (T_weights : Nat → Int32) (T_strengths : Nat → Int32) (T_heights : Nat → Int32) (T_wages : Nat → Int32) (T_nightsToHeal : Nat → Int32) (B_accounts : Int32) (B_balances : Nat → Int32) (B_balancesAtClosing : Nat → Int32) (B_entries : Int32) (B_debited : Nat → Int32) (B_credited : Nat → Int32) (B_amounts : Nat → Int32) (C_nights : Int32) (C_netWidth : Int32) (C_shows : Int32) (C_fallen : Int32) (x1 : Int32) (sz : Nat) (r : Int32) (zT_nightsToHeal : Nat → Int32) (zC_nights : Int32) (hf : f_X3_waitNights T_count T_nightsToHeal C_nights x1 = some (r, zT_nightsToHeal, zC_nights)) : Met l yX3_waitNights wsX3_waitNights ({ frames := 2, cells := 0, slots := 0, locals := 44 } : Room) (va_Pc [.ref (a 0), .int x1] (wk_E (dC, dI) Y (wX3 Y a T_count T_weights T_strengths T_heights T_wages T_nightsToHeal B_accounts B_balances B_balancesAtClosing B_entries B_debited B_credited B_amounts C_nights C_netWidth C_shows C_fallen) sz)) (va_Qi (fun r2 (_ : Unit) => r2 = r) (fun _ t => wk_X (dC, dI) Y (wX3 Y a T_count T_weights T_strengths T_heights T_wages zT_nightsToHeal B_accounts B_balances B_balancesAtClosing B_entries B_debited B_credited B_amounts zC_nights C_netWidth C_shows C_fallen) (va_A (wX3 Y a T_count T_weights T_strengths T_heights T_wages T_nightsToHeal B_accounts B_balances B_balancesAtClosing B_entries B_debited B_credited B_amounts C_nights C_netWidth C_shows C_fallen) sz) t) (va_A (wX3 Y a T_count T_weights T_strengths T_heights T_wages T_nightsToHeal B_accounts B_balances B_balancesAtClosing B_entries B_debited B_credited B_amounts C_nights C_netWidth C_shows C_fallen) sz)) 0 0 (va_A (wX3 Y a T_count T_weights T_strengths T_heights T_wages T_nightsToHeal B_accounts B_balances B_balancesAtClosing B_entries B_debited B_credited B_amounts C_nights C_netWidth C_shows C_fallen) sz) := by
  refine Met.ofW (cc := cX3_waitNights) (maxL := 2) (ret := (some .int)) (by decide) rfl ?_
  intro p e s m args below meth c s₁ B hml hv
  obtain ⟨rfl, hsz, hP, hK, hD0⟩ := hv
  have hx := B.exec
  have hb := B.bytes
  have hr := B.returns
  have hts := atoms_spec (ws := wsX3_waitNights) B.pre
  have hown : s.vm.findClass RX3 = some m.cls := findClass_of_methodNamed B.named
  have hlocks := B.notSynchronized
  have C0 : wk_C p s m _ meth c cX3_waitNights 2 (some .int) wsX3_waitNights RX3 := ⟨hx, hb, hml, hr, hlocks, hown, hts⟩
  subst hsz
  have hD := hD0.self (sz := s.heap.size)
  generalize hAe : va_A (wX3 Y a T_count T_weights T_strengths T_heights T_wages T_nightsToHeal B_accounts B_balances B_balancesAtClosing B_entries B_debited B_credited B_amounts C_nights C_netWidth C_shows C_fallen) s.heap.size = A at hD ⊢
  have hA : ∀ q : Nat, s.heap.size ≤ q → A q := fun q h => by rw [← hAe]; exact Or.inr h
  have hS : va_S A s.heap s.heap [] := va_S.rf
  obtain ⟨H, hHe⟩ : ∃ H, H = s.heap := ⟨_, rfl⟩
  have hS : va_S A s.heap H [] := by rw [hHe]; exact hS
  have hP : va_P (dC, dI) vwCl [(a 0, .inr (5, [.ref (a 1), .ref (a 7), .int C_nights, .int C_netWidth, .int C_shows, .int C_fallen])), (a 1, .inr (9, [.int T_count, .ref (a 2), .ref (a 3), .ref (a 4), .ref (a 5), .ref (a 6)])), (a 2, .inl (Y 0, 6, .inl T_weights)), (a 3, .inl (Y 0, 6, .inl T_strengths)), (a 4, .inl (Y 0, 6, .inl T_heights)), (a 5, .inl (Y 0, 6, .inl T_wages)), (a 6, .inl (Y 0, 6, .inl T_nightsToHeal)), (a 7, .inr (4, [.int B_accounts, .ref (a 8), .ref (a 9), .int B_entries, .ref (a 10), .ref (a 11), .ref (a 12)])), (a 8, .inl (Y 0, 11, .inl B_balances)), (a 9, .inl (Y 0, 11, .inl B_balancesAtClosing)), (a 10, .inl (Y 0, 60, .inl B_debited)), (a 11, .inl (Y 0, 60, .inl B_credited)), (a 12, .inl (Y 0, 60, .inl B_amounts))] H := by rw [hHe]; exact hP
  have hD : va_D A [(a 0, .inr (5, [.ref (a 1), .ref (a 7), .int C_nights, .int C_netWidth, .int C_shows, .int C_fallen])), (a 1, .inr (9, [.int T_count, .ref (a 2), .ref (a 3), .ref (a 4), .ref (a 5), .ref (a 6)])), (a 2, .inl (Y 0, 6, .inl T_weights)), (a 3, .inl (Y 0, 6, .inl T_strengths)), (a 4, .inl (Y 0, 6, .inl T_heights)), (a 5, .inl (Y 0, 6, .inl T_wages)), (a 6, .inl (Y 0, 6, .inl T_nightsToHeal)), (a 7, .inr (4, [.int B_accounts, .ref (a 8), .ref (a 9), .int B_entries, .ref (a 10), .ref (a 11), .ref (a 12)])), (a 8, .inl (Y 0, 11, .inl B_balances)), (a 9, .inl (Y 0, 11, .inl B_balancesAtClosing)), (a 10, .inl (Y 0, 60, .inl B_debited)), (a 11, .inl (Y 0, 60, .inl B_credited)), (a 12, .inl (Y 0, 60, .inl B_amounts))] := hD
  obtain ⟨locs, hlo⟩ : ∃ locs : List Loc, locs = [] := ⟨_, rfl⟩
  have hS : va_S A s.heap H locs := by rw [hlo]; exact hS
  have hl := lv_entry ([.ref (a 0), .int x1]) (n := 2) (Nat.le_of_ble_eq_true rfl)
  rw [lg_entry_eq]
  generalize (lg_sl ([.ref (a 0), .int x1]) ++ List.replicate (2 - (lg_sl ([.ref (a 0), .int x1])).length) Slot.unset).toArray = ls at hl ⊢
  have hl : lv_has ls 2 [(0, .ref (a 0)), (1, .int x1)] := hl
  refine wk_start hHe hlo ?_
  rw [f_X3_waitNights] at hf
  refine lv_aload_n hx hb dX3_waitNights_0 rfl (lv_at hl 0 rfl) ?_
  refine lv_dup hx hb dX3_waitNights_1 rfl ?_
  refine va_get (D := (dC, dI)) (ci := 5) (v := .int C_nights) (C := RX3) (T := TX3) (N := 6) hx hb hts in_X3_waitNights_X3 hown hK hP 0 rfl rfl 2 (by decide) (hts _ lk_X3_waitNights_RX3_32) (fun _ h9 => h9) rfl dX3_waitNights_2 ?_
  refine lv_iload_n hx hb dX3_waitNights_5 rfl (lv_at hl 1 rfl) ?_
  refine lv_iadd hx hb dX3_waitNights_6 ?_
  refine lv_topi (fun v1 ev1 => ?_)
  have hf := wkl_s hf ev1
  refine va_put (D := (dC, dI)) (ci := 5) (v := .int v1) (ty := .int) (C := RX3) (T := TX3) (N := 6) hx hb hts in_X3_waitNights_X3 tyX3 tyX3_ok nmX3 hown hK hP hD hS 0 rfl rfl 2 (by decide) (hts _ lk_X3_waitNights_RX3_32) (fun _ h9 => h9) rfl (by decide +kernel) rfl rfl (Nat.le_of_ble_eq_true rfl) dX3_waitNights_7 (fun H locs hP hD hS => ?_)
  have hP : va_P (dC, dI) vwCl [(a 0, .inr (5, [.ref (a 1), .ref (a 7), .int v1, .int C_netWidth, .int C_shows, .int C_fallen])), (a 1, .inr (9, [.int T_count, .ref (a 2), .ref (a 3), .ref (a 4), .ref (a 5), .ref (a 6)])), (a 2, .inl (Y 0, 6, .inl T_weights)), (a 3, .inl (Y 0, 6, .inl T_strengths)), (a 4, .inl (Y 0, 6, .inl T_heights)), (a 5, .inl (Y 0, 6, .inl T_wages)), (a 6, .inl (Y 0, 6, .inl T_nightsToHeal)), (a 7, .inr (4, [.int B_accounts, .ref (a 8), .ref (a 9), .int B_entries, .ref (a 10), .ref (a 11), .ref (a 12)])), (a 8, .inl (Y 0, 11, .inl B_balances)), (a 9, .inl (Y 0, 11, .inl B_balancesAtClosing)), (a 10, .inl (Y 0, 60, .inl B_debited)), (a 11, .inl (Y 0, 60, .inl B_credited)), (a 12, .inl (Y 0, 60, .inl B_amounts))] H := hP
  have hD : va_D A [(a 0, .inr (5, [.ref (a 1), .ref (a 7), .int v1, .int C_netWidth, .int C_shows, .int C_fallen])), (a 1, .inr (9, [.int T_count, .ref (a 2), .ref (a 3), .ref (a 4), .ref (a 5), .ref (a 6)])), (a 2, .inl (Y 0, 6, .inl T_weights)), (a 3, .inl (Y 0, 6, .inl T_strengths)), (a 4, .inl (Y 0, 6, .inl T_heights)), (a 5, .inl (Y 0, 6, .inl T_wages)), (a 6, .inl (Y 0, 6, .inl T_nightsToHeal)), (a 7, .inr (4, [.int B_accounts, .ref (a 8), .ref (a 9), .int B_entries, .ref (a 10), .ref (a 11), .ref (a 12)])), (a 8, .inl (Y 0, 11, .inl B_balances)), (a 9, .inl (Y 0, 11, .inl B_balancesAtClosing)), (a 10, .inl (Y 0, 60, .inl B_debited)), (a 11, .inl (Y 0, 60, .inl B_credited)), (a 12, .inl (Y 0, 60, .inl B_amounts))] := hD
  refine lv_aload_n hx hb dX3_waitNights_10 rfl (lv_at hl 0 rfl) ?_
  refine va_get (D := (dC, dI)) (ci := 5) (v := .ref (a 1)) (C := RX3) (T := TX3) (N := 6) hx hb hts in_X3_waitNights_X3 hown hK hP 0 rfl rfl 0 (by decide) (hts _ lk_X3_waitNights_RX3_12) (fun _ h9 => h9) rfl dX3_waitNights_11 ?_
  refine lv_iload_n hx hb dX3_waitNights_14 rfl (lv_at hl 1 rfl) ?_
  obtain ⟨r2, w3, hr4, hf⟩ := wkb2_s hf
  refine wk_evi (As := [.int x1]) (rest := []) (wc := (wX9 Y (fun k => a (k + 1)) T_count T_weights T_strengths T_heights T_wages T_nightsToHeal)) (w1 := (wX9 Y (fun k => a (k + 1)) T_count T_weights T_strengths T_heights T_wages w3)) (wr := [(a 0, .inr (5, [.ref (a 1), .ref (a 7), .int v1, .int C_netWidth, .int C_shows, .int C_fallen])), (a 7, .inr (4, [.int B_accounts, .ref (a 8), .ref (a 9), .int B_entries, .ref (a 10), .ref (a 11), .ref (a 12)])), (a 8, .inl (Y 0, 11, .inl B_balances)), (a 9, .inl (Y 0, 11, .inl B_balancesAtClosing)), (a 10, .inl (Y 0, 60, .inl B_debited)), (a 11, .inl (Y 0, 60, .inl B_credited)), (a 12, .inl (Y 0, 60, .inl B_amounts))]) ⟨hx, hb, hml, hown, hts⟩ (c_X9_heal l dC dI Y (fun k => a (k + 1)) T_count T_weights T_strengths T_heights T_wages T_nightsToHeal x1 H.size r2 w3 hr4) (cwV 1 hts gX3_waitNights_X9_heal rfl rfl rfl (by decide +kernel) ⟨Nat.le_of_ble_eq_true rfl, Nat.le_of_ble_eq_true rfl⟩) hK hP hD hS hA [1, 2, 3, 4, 5, 6] [0, 7, 8, 9, 10, 11, 12] rfl rfl (by decide) (by decide) (by decide) (va_recv hK hP (ci := 9) (q0 := 1) rfl rfl) rfl hl.1 rfl (Nat.le_of_ble_eq_true rfl) dX3_waitNights_15 ⟨Nat.le_of_ble_eq_true rfl, Nat.le_of_ble_eq_true rfl⟩ (fun H locs hP hD hS => ?_)
  have hP : va_P (dC, dI) vwCl [(a 0, .inr (5, [.ref (a 1), .ref (a 7), .int v1, .int C_netWidth, .int C_shows, .int C_fallen])), (a 7, .inr (4, [.int B_accounts, .ref (a 8), .ref (a 9), .int B_entries, .ref (a 10), .ref (a 11), .ref (a 12)])), (a 8, .inl (Y 0, 11, .inl B_balances)), (a 9, .inl (Y 0, 11, .inl B_balancesAtClosing)), (a 10, .inl (Y 0, 60, .inl B_debited)), (a 11, .inl (Y 0, 60, .inl B_credited)), (a 12, .inl (Y 0, 60, .inl B_amounts)), (a 1, .inr (9, [.int T_count, .ref (a 2), .ref (a 3), .ref (a 4), .ref (a 5), .ref (a 6)])), (a 2, .inl (Y 0, 6, .inl T_weights)), (a 3, .inl (Y 0, 6, .inl T_strengths)), (a 4, .inl (Y 0, 6, .inl T_heights)), (a 5, .inl (Y 0, 6, .inl T_wages)), (a 6, .inl (Y 0, 6, .inl w3))] H := hP
  have hD : va_D A [(a 0, .inr (5, [.ref (a 1), .ref (a 7), .int v1, .int C_netWidth, .int C_shows, .int C_fallen])), (a 7, .inr (4, [.int B_accounts, .ref (a 8), .ref (a 9), .int B_entries, .ref (a 10), .ref (a 11), .ref (a 12)])), (a 8, .inl (Y 0, 11, .inl B_balances)), (a 9, .inl (Y 0, 11, .inl B_balancesAtClosing)), (a 10, .inl (Y 0, 60, .inl B_debited)), (a 11, .inl (Y 0, 60, .inl B_credited)), (a 12, .inl (Y 0, 60, .inl B_amounts)), (a 1, .inr (9, [.int T_count, .ref (a 2), .ref (a 3), .ref (a 4), .ref (a 5), .ref (a 6)])), (a 2, .inl (Y 0, 6, .inl T_weights)), (a 3, .inl (Y 0, 6, .inl T_strengths)), (a 4, .inl (Y 0, 6, .inl T_heights)), (a 5, .inl (Y 0, 6, .inl T_wages)), (a 6, .inl (Y 0, 6, .inl w3))] := hD
  obtain ⟨e0, e1, e2⟩ := wke3 hf
  subst e0
  subst e1
  subst e2
  have hP9 := hP.sub (ws' := (wX3 Y a T_count T_weights T_strengths T_heights T_wages w3 B_accounts B_balances B_balancesAtClosing B_entries B_debited B_credited B_amounts v1 C_netWidth C_shows C_fallen)) [0, 7, 8, 9, 10, 11, 12, 1, 2, 3, 4, 5, 6] rfl
  have hD9 := hD.sub (ws' := (wX3 Y a T_count T_weights T_strengths T_heights T_wages w3 B_accounts B_balances B_balancesAtClosing B_entries B_debited B_credited B_amounts v1 C_netWidth C_shows C_fallen)) [0, 7, 8, 9, 10, 11, 12, 1, 2, 3, 4, 5, 6] (by decide) rfl
  exact W.iret (v := r2) hx hb hr (fun t ht hW => ⟨⟨r2, (), rfl, rfl, by rw [ht]; exact hP9, va_K.moved hW.alike hK, hD9⟩, hS.F ht⟩) hS.2.2 dX3_waitNights_18
theorem lk_X3_giveShow_RX3_12 : Cond.fieldLink RX3 12 "CircusLedger$Circus" "troupe" "LCircusLedger$Troupe;" ∈ wsX3_giveShow := by decide +kernel
theorem lk_X3_giveShow_RX3_39 : Cond.fieldLink RX3 39 "CircusLedger$Circus" "shows" "I" ∈ wsX3_giveShow := by decide +kernel
theorem in_X3_giveShow_X3 : ∀ w ∈ u_ws RX3 TX3 6, w ∈ wsX3_giveShow := by decide +kernel
def f_X3_giveShow (T_count : Int32) (T_weights : Nat → Int32) (T_strengths : Nat → Int32) (T_heights : Nat → Int32) (T_wages : Nat → Int32) (T_nightsToHeal : Nat → Int32) (B_balances : Nat → Int32) (B_entries : Int32) (B_debited : Nat → Int32) (B_credited : Nat → Int32) (B_amounts : Nat → Int32) (C_nights : Int32) (C_netWidth : Int32) (C_shows : Int32) (C_fallen : Int32) (x1 : Int32) : Option (Int32 × (Nat → Int32) × (Nat → Int32) × Int32 × (Nat → Int32) × (Nat → Int32) × (Nat → Int32) × Int32 × Int32 × Int32) :=
  wkl ((C_shows + 1)) (fun v1 =>
  wkb1 (f_X9_overloadedOf T_count T_weights T_strengths x1) (fun r2 =>
  if r2 = (-1) then
    (wkb6 (f_X3_bookSuccess T_count T_heights T_wages B_balances B_entries B_debited B_credited B_amounts x1) (fun r18 w19 w20 w21 w22 w23 =>
    wkb3 (f_X3_waitNights T_count T_nightsToHeal C_nights 1) (fun r25 w26 w27 =>
    some (r18, w26, w19, w20, w21, w22, w23, w27, v1, C_fallen))))
  else
    (wkb8 (f_X3_bookFall T_count T_weights T_strengths T_nightsToHeal B_balances B_entries B_debited B_credited B_amounts C_netWidth C_fallen x1 r2) (fun r5 w6 w7 w8 w9 w10 w11 w12 =>
    wkb3 (f_X3_waitNights T_count w6 C_nights 1) (fun r14 w15 w16 =>
    some ((-r5), w15, w7, w8, w9, w10, w11, w16, v1, w12))))))
set_option maxHeartbeats 4000000 in
set_option maxRecDepth 100000 in
theorem c_X3_giveShow (l : Launch) (dC : Nat → ClassId) (dI : Nat → Nat → Nat) (Y : Nat → ClassId) (a : Nat → Nat) (T_count : Int32) (T_weights : Nat → Int32) (T_strengths : Nat → Int32) (T_heights : Nat → Int32) (T_wages : Nat → Int32) (T_nightsToHeal : Nat → Int32) (B_accounts : Int32) (B_balances : Nat → Int32) (B_balancesAtClosing : Nat → Int32) (B_entries : Int32) (B_debited : Nat → Int32) (B_credited : Nat → Int32) (B_amounts : Nat → Int32) (C_nights : Int32) (C_netWidth : Int32) (C_shows : Int32) (C_fallen : Int32) (x1 : Int32) (sz : Nat) (r : Int32) (zT_nightsToHeal : Nat → Int32) (zB_balances : Nat → Int32) (zB_entries : Int32) (zB_debited : Nat → Int32) (zB_credited : Nat → Int32) (zB_amounts : Nat → Int32) (zC_nights : Int32) (zC_shows : Int32) (zC_fallen : Int32) (hf : f_X3_giveShow T_count T_weights T_strengths T_heights T_wages T_nightsToHeal B_balances B_entries B_debited B_credited B_amounts C_nights C_netWidth C_shows C_fallen x1 = some (r, zT_nightsToHeal, zB_balances, zB_entries, zB_debited, zB_credited, zB_amounts, zC_nights, zC_shows, zC_fallen)) : Met l yX3_giveShow wsX3_giveShow ({ frames := 4, cells := 0, slots := 0, locals := 99 } : Room) (va_Pc [.ref (a 0), .int x1] (wk_E (dC, dI) Y (wX3 Y a T_count T_weights T_strengths T_heights T_wages T_nightsToHeal B_accounts B_balances B_balancesAtClosing B_entries B_debited B_credited B_amounts C_nights C_netWidth C_shows C_fallen) sz)) (va_Qi (fun r2 (_ : Unit) => r2 = r) (fun _ t => wk_X (dC, dI) Y (wX3 Y a T_count T_weights T_strengths T_heights T_wages zT_nightsToHeal B_accounts zB_balances B_balancesAtClosing zB_entries zB_debited zB_credited zB_amounts zC_nights C_netWidth zC_shows zC_fallen) (va_A (wX3 Y a T_count T_weights T_strengths T_heights T_wages T_nightsToHeal B_accounts B_balances B_balancesAtClosing B_entries B_debited B_credited B_amounts C_nights C_netWidth C_shows C_fallen) sz) t) (va_A (wX3 Y a T_count T_weights T_strengths T_heights T_wages T_nightsToHeal B_accounts B_balances B_balancesAtClosing B_entries B_debited B_credited B_amounts C_nights C_netWidth C_shows C_fallen) sz)) 0 0 (va_A (wX3 Y a T_count T_weights T_strengths T_heights T_wages T_nightsToHeal B_accounts B_balances B_balancesAtClosing B_entries B_debited B_credited B_amounts C_nights C_netWidth C_shows C_fallen) sz) := by
  refine Met.ofW (cc := cX3_giveShow) (maxL := 4) (ret := (some .int)) (by decide) rfl ?_
  intro p e s m args below meth c s₁ B hml hv
  obtain ⟨rfl, hsz, hP, hK, hD0⟩ := hv
  have hx := B.exec
  have hb := B.bytes
  have hr := B.returns
  have hts := atoms_spec (ws := wsX3_giveShow) B.pre
  have hown : s.vm.findClass RX3 = some m.cls := findClass_of_methodNamed B.named
  have hlocks := B.notSynchronized
  have C0 : wk_C p s m _ meth c cX3_giveShow 4 (some .int) wsX3_giveShow RX3 := ⟨hx, hb, hml, hr, hlocks, hown, hts⟩
  subst hsz
  have hD := hD0.self (sz := s.heap.size)
  generalize hAe : va_A (wX3 Y a T_count T_weights T_strengths T_heights T_wages T_nightsToHeal B_accounts B_balances B_balancesAtClosing B_entries B_debited B_credited B_amounts C_nights C_netWidth C_shows C_fallen) s.heap.size = A at hD ⊢
  have hA : ∀ q : Nat, s.heap.size ≤ q → A q := fun q h => by rw [← hAe]; exact Or.inr h
  have hS : va_S A s.heap s.heap [] := va_S.rf
  obtain ⟨H, hHe⟩ : ∃ H, H = s.heap := ⟨_, rfl⟩
  have hS : va_S A s.heap H [] := by rw [hHe]; exact hS
  have hP : va_P (dC, dI) vwCl [(a 0, .inr (5, [.ref (a 1), .ref (a 7), .int C_nights, .int C_netWidth, .int C_shows, .int C_fallen])), (a 1, .inr (9, [.int T_count, .ref (a 2), .ref (a 3), .ref (a 4), .ref (a 5), .ref (a 6)])), (a 2, .inl (Y 0, 6, .inl T_weights)), (a 3, .inl (Y 0, 6, .inl T_strengths)), (a 4, .inl (Y 0, 6, .inl T_heights)), (a 5, .inl (Y 0, 6, .inl T_wages)), (a 6, .inl (Y 0, 6, .inl T_nightsToHeal)), (a 7, .inr (4, [.int B_accounts, .ref (a 8), .ref (a 9), .int B_entries, .ref (a 10), .ref (a 11), .ref (a 12)])), (a 8, .inl (Y 0, 11, .inl B_balances)), (a 9, .inl (Y 0, 11, .inl B_balancesAtClosing)), (a 10, .inl (Y 0, 60, .inl B_debited)), (a 11, .inl (Y 0, 60, .inl B_credited)), (a 12, .inl (Y 0, 60, .inl B_amounts))] H := by rw [hHe]; exact hP
  have hD : va_D A [(a 0, .inr (5, [.ref (a 1), .ref (a 7), .int C_nights, .int C_netWidth, .int C_shows, .int C_fallen])), (a 1, .inr (9, [.int T_count, .ref (a 2), .ref (a 3), .ref (a 4), .ref (a 5), .ref (a 6)])), (a 2, .inl (Y 0, 6, .inl T_weights)), (a 3, .inl (Y 0, 6, .inl T_strengths)), (a 4, .inl (Y 0, 6, .inl T_heights)), (a 5, .inl (Y 0, 6, .inl T_wages)), (a 6, .inl (Y 0, 6, .inl T_nightsToHeal)), (a 7, .inr (4, [.int B_accounts, .ref (a 8), .ref (a 9), .int B_entries, .ref (a 10), .ref (a 11), .ref (a 12)])), (a 8, .inl (Y 0, 11, .inl B_balances)), (a 9, .inl (Y 0, 11, .inl B_balancesAtClosing)), (a 10, .inl (Y 0, 60, .inl B_debited)), (a 11, .inl (Y 0, 60, .inl B_credited)), (a 12, .inl (Y 0, 60, .inl B_amounts))] := hD
  obtain ⟨locs, hlo⟩ : ∃ locs : List Loc, locs = [] := ⟨_, rfl⟩
  have hS : va_S A s.heap H locs := by rw [hlo]; exact hS
  have hl := lv_entry ([.ref (a 0), .int x1]) (n := 4) (Nat.le_of_ble_eq_true rfl)
  rw [lg_entry_eq]
  generalize (lg_sl ([.ref (a 0), .int x1]) ++ List.replicate (4 - (lg_sl ([.ref (a 0), .int x1])).length) Slot.unset).toArray = ls at hl ⊢
  have hl : lv_has ls 4 [(0, .ref (a 0)), (1, .int x1)] := hl
  refine wk_start hHe hlo ?_
  rw [f_X3_giveShow] at hf
  refine lv_aload_n hx hb dX3_giveShow_0 rfl (lv_at hl 0 rfl) ?_
  refine lv_dup hx hb dX3_giveShow_1 rfl ?_
  refine va_get (D := (dC, dI)) (ci := 5) (v := .int C_shows) (C := RX3) (T := TX3) (N := 6) hx hb hts in_X3_giveShow_X3 hown hK hP 0 rfl rfl 4 (by decide) (hts _ lk_X3_giveShow_RX3_39) (fun _ h9 => h9) rfl dX3_giveShow_2 ?_
  refine lv_iconst (v := 1) hx hb dX3_giveShow_5 (by decide) ?_
  refine lv_iadd hx hb dX3_giveShow_6 ?_
  refine lv_topi (fun v1 ev1 => ?_)
  have hf := wkl_s hf ev1
  refine va_put (D := (dC, dI)) (ci := 5) (v := .int v1) (ty := .int) (C := RX3) (T := TX3) (N := 6) hx hb hts in_X3_giveShow_X3 tyX3 tyX3_ok nmX3 hown hK hP hD hS 0 rfl rfl 4 (by decide) (hts _ lk_X3_giveShow_RX3_39) (fun _ h9 => h9) rfl (by decide +kernel) rfl rfl (Nat.le_of_ble_eq_true rfl) dX3_giveShow_7 (fun H locs hP hD hS => ?_)
  have hP : va_P (dC, dI) vwCl [(a 0, .inr (5, [.ref (a 1), .ref (a 7), .int C_nights, .int C_netWidth, .int v1, .int C_fallen])), (a 1, .inr (9, [.int T_count, .ref (a 2), .ref (a 3), .ref (a 4), .ref (a 5), .ref (a 6)])), (a 2, .inl (Y 0, 6, .inl T_weights)), (a 3, .inl (Y 0, 6, .inl T_strengths)), (a 4, .inl (Y 0, 6, .inl T_heights)), (a 5, .inl (Y 0, 6, .inl T_wages)), (a 6, .inl (Y 0, 6, .inl T_nightsToHeal)), (a 7, .inr (4, [.int B_accounts, .ref (a 8), .ref (a 9), .int B_entries, .ref (a 10), .ref (a 11), .ref (a 12)])), (a 8, .inl (Y 0, 11, .inl B_balances)), (a 9, .inl (Y 0, 11, .inl B_balancesAtClosing)), (a 10, .inl (Y 0, 60, .inl B_debited)), (a 11, .inl (Y 0, 60, .inl B_credited)), (a 12, .inl (Y 0, 60, .inl B_amounts))] H := hP
  have hD : va_D A [(a 0, .inr (5, [.ref (a 1), .ref (a 7), .int C_nights, .int C_netWidth, .int v1, .int C_fallen])), (a 1, .inr (9, [.int T_count, .ref (a 2), .ref (a 3), .ref (a 4), .ref (a 5), .ref (a 6)])), (a 2, .inl (Y 0, 6, .inl T_weights)), (a 3, .inl (Y 0, 6, .inl T_strengths)), (a 4, .inl (Y 0, 6, .inl T_heights)), (a 5, .inl (Y 0, 6, .inl T_wages)), (a 6, .inl (Y 0, 6, .inl T_nightsToHeal)), (a 7, .inr (4, [.int B_accounts, .ref (a 8), .ref (a 9), .int B_entries, .ref (a 10), .ref (a 11), .ref (a 12)])), (a 8, .inl (Y 0, 11, .inl B_balances)), (a 9, .inl (Y 0, 11, .inl B_balancesAtClosing)), (a 10, .inl (Y 0, 60, .inl B_debited)), (a 11, .inl (Y 0, 60, .inl B_credited)), (a 12, .inl (Y 0, 60, .inl B_amounts))] := hD
  refine lv_aload_n hx hb dX3_giveShow_10 rfl (lv_at hl 0 rfl) ?_
  refine va_get (D := (dC, dI)) (ci := 5) (v := .ref (a 1)) (C := RX3) (T := TX3) (N := 6) hx hb hts in_X3_giveShow_X3 hown hK hP 0 rfl rfl 0 (by decide) (hts _ lk_X3_giveShow_RX3_12) (fun _ h9 => h9) rfl dX3_giveShow_11 ?_
  refine lv_iload_n hx hb dX3_giveShow_14 rfl (lv_at hl 1 rfl) ?_
  obtain ⟨r2, hr3, hf⟩ := wkb1_s hf
  have hPc := hP.sub (ws' := (wX9 Y (fun k => a (k + 1)) T_count T_weights T_strengths T_heights T_wages T_nightsToHeal)) [1, 2, 3, 4, 5, 6] rfl
  refine wk_vi (As := [.int x1]) (rest := []) ⟨hx, hb, hml, hown, hts⟩ (c_X9_overloadedOf l dC dI Y (fun k => a (k + 1)) T_count T_weights T_strengths T_heights T_wages T_nightsToHeal x1 r2 hr3) (cwV 1 hts gX3_giveShow_X9_overloadedOf rfl rfl rfl (by decide +kernel) ⟨Nat.le_of_ble_eq_true rfl, Nat.le_of_ble_eq_true rfl⟩) hK hPc (va_recv hK hP (ci := 9) (q0 := 1) rfl rfl) rfl hl.1 rfl (Nat.le_of_ble_eq_true rfl) dX3_giveShow_15 ⟨Nat.le_of_ble_eq_true rfl, Nat.le_of_ble_eq_true rfl⟩ ?_
  refine lv_istore_n (lv' := [(2, .int r2), (0, .ref (a 0)), (1, .int x1)]) hx hb dX3_giveShow_18 rfl hl (by decide) rfl (fun ls hl => ?_)
  refine lv_iload_n hx hb dX3_giveShow_19 rfl (lv_at hl 0 rfl) ?_
  refine lv_iconst (v := (-1)) hx hb dX3_giveShow_20 (by decide) ?_
  refine lv_icmp_ne (tgt := 32) hx hb dX3_giveShow_21 (by decide) (fun q4 => ?_) (fun q4 => ?_)
  · have hf := wk_f hf q4
    refine lv_aload_n hx hb dX3_giveShow_32 rfl (lv_at hl 1 rfl) ?_
    refine lv_iload_n hx hb dX3_giveShow_33 rfl (lv_at hl 2 rfl) ?_
    refine lv_iload_n hx hb dX3_giveShow_34 rfl (lv_at hl 0 rfl) ?_
    obtain ⟨r5, w6, w7, w8, w9, w10, w11, w12, hr13, hf⟩ := wkb8_s hf
    refine wk_evi (As := [.int x1, .int r2]) (rest := []) (wc := (wX3 Y a T_count T_weights T_strengths T_heights T_wages T_nightsToHeal B_accounts B_balances B_balancesAtClosing B_entries B_debited B_credited B_amounts C_nights C_netWidth v1 C_fallen)) (w1 := (wX3 Y a T_count T_weights T_strengths T_heights T_wages w6 B_accounts w7 B_balancesAtClosing w8 w9 w10 w11 C_nights C_netWidth v1 w12)) (wr := []) ⟨hx, hb, hml, hown, hts⟩ (c_X3_bookFall l dC dI Y a T_count T_weights T_strengths T_heights T_wages T_nightsToHeal B_accounts B_balances B_balancesAtClosing B_entries B_debited B_credited B_amounts C_nights C_netWidth v1 C_fallen x1 r2 H.size r5 w6 w7 w8 w9 w10 w11 w12 hr13) (cwV 2 hts gX3_giveShow_X3_bookFall rfl rfl rfl (by decide +kernel) ⟨Nat.le_of_ble_eq_true rfl, Nat.le_of_ble_eq_true rfl⟩) hK hP hD hS hA [0, 1, 2, 3, 4, 5, 6, 7, 8, 9, 10, 11, 12] [] rfl rfl (by decide) (by decide) (by decide) (va_recv hK hP (ci := 5) (q0 := 0) rfl rfl) rfl hl.1 rfl (Nat.le_of_ble_eq_true rfl) dX3_giveShow_35 ⟨Nat.le_of_ble_eq_true rfl, Nat.le_of_ble_eq_true rfl⟩ (fun H locs hP hD hS => ?_)
    have hP : va_P (dC, dI) vwCl [(a 0, .inr (5, [.ref (a 1), .ref (a 7), .int C_nights, .int C_netWidth, .int v1, .int w12])), (a 1, .inr (9, [.int T_count, .ref (a 2), .ref (a 3), .ref (a 4), .ref (a 5), .ref (a 6)])), (a 2, .inl (Y 0, 6, .inl T_weights)), (a 3, .inl (Y 0, 6, .inl T_strengths)), (a 4, .inl (Y 0, 6, .inl T_heights)), (a 5, .inl (Y 0, 6, .inl T_wages)), (a 6, .inl (Y 0, 6, .inl w6)), (a 7, .inr (4, [.int B_accounts, .ref (a 8), .ref (a 9), .int w8, .ref (a 10), .ref (a 11), .ref (a 12)])), (a 8, .inl (Y 0, 11, .inl w7)), (a 9, .inl (Y 0, 11, .inl B_balancesAtClosing)), (a 10, .inl (Y 0, 60, .inl w9)), (a 11, .inl (Y 0, 60, .inl w10)), (a 12, .inl (Y 0, 60, .inl w11))] H := hP
    have hD : va_D A [(a 0, .inr (5, [.ref (a 1), .ref (a 7), .int C_nights, .int C_netWidth, .int v1, .int w12])), (a 1, .inr (9, [.int T_count, .ref (a 2), .ref (a 3), .ref (a 4), .ref (a 5), .ref (a 6)])), (a 2, .inl (Y 0, 6, .inl T_weights)), (a 3, .inl (Y 0, 6, .inl T_strengths)), (a 4, .inl (Y 0, 6, .inl T_heights)), (a 5, .inl (Y 0, 6, .inl T_wages)), (a 6, .inl (Y 0, 6, .inl w6)), (a 7, .inr (4, [.int B_accounts, .ref (a 8), .ref (a 9), .int w8, .ref (a 10), .ref (a 11), .ref (a 12)])), (a 8, .inl (Y 0, 11, .inl w7)), (a 9, .inl (Y 0, 11, .inl B_balancesAtClosing)), (a 10, .inl (Y 0, 60, .inl w9)), (a 11, .inl (Y 0, 60, .inl w10)), (a 12, .inl (Y 0, 60, .inl w11))] := hD
    refine lv_ineg hx hb dX3_giveShow_38 ?_
    refine lv_istore_n (lv' := [(3, .int (-r5)), (2, .int r2), (0, .ref (a 0)), (1, .int x1)]) hx hb dX3_giveShow_39 rfl hl (by decide) rfl (fun ls hl => ?_)
    refine lv_aload_n hx hb dX3_giveShow_40 rfl (lv_at hl 2 rfl) ?_
    refine lv_iconst (v := 1) hx hb dX3_giveShow_41 (by decide) ?_
    obtain ⟨r14, w15, w16, hr17, hf⟩ := wkb3_s hf
    refine wk_evi (As := [.int 1]) (rest := []) (wc := (wX3 Y a T_count T_weights T_strengths T_heights T_wages w6 B_accounts w7 B_balancesAtClosing w8 w9 w10 w11 C_nights C_netWidth v1 w12)) (w1 := (wX3 Y a T_count T_weights T_strengths T_heights T_wages w15 B_accounts w7 B_balancesAtClosing w8 w9 w10 w11 w16 C_netWidth v1 w12)) (wr := []) ⟨hx, hb, hml, hown, hts⟩ (c_X3_waitNights l dC dI Y a T_count T_weights T_strengths T_heights T_wages w6 B_accounts w7 B_balancesAtClosing w8 w9 w10 w11 C_nights C_netWidth v1 w12 1 H.size r14 w15 w16 hr17) (cwV 1 hts gX3_giveShow_X3_waitNights rfl rfl rfl (by decide +kernel) ⟨Nat.le_of_ble_eq_true rfl, Nat.le_of_ble_eq_true rfl⟩) hK hP hD hS hA [0, 1, 2, 3, 4, 5, 6, 7, 8, 9, 10, 11, 12] [] rfl rfl (by decide) (by decide) (by decide) (va_recv hK hP (ci := 5) (q0 := 0) rfl rfl) rfl hl.1 rfl (Nat.le_of_ble_eq_true rfl) dX3_giveShow_42 ⟨Nat.le_of_ble_eq_true rfl, Nat.le_of_ble_eq_true rfl⟩ (fun H locs hP hD hS => ?_)
    have hP : va_P (dC, dI) vwCl [(a 0, .inr (5, [.ref (a 1), .ref (a 7), .int w16, .int C_netWidth, .int v1, .int w12])), (a 1, .inr (9, [.int T_count, .ref (a 2), .ref (a 3), .ref (a 4), .ref (a 5), .ref (a 6)])), (a 2, .inl (Y 0, 6, .inl T_weights)), (a 3, .inl (Y 0, 6, .inl T_strengths)), (a 4, .inl (Y 0, 6, .inl T_heights)), (a 5, .inl (Y 0, 6, .inl T_wages)), (a 6, .inl (Y 0, 6, .inl w15)), (a 7, .inr (4, [.int B_accounts, .ref (a 8), .ref (a 9), .int w8, .ref (a 10), .ref (a 11), .ref (a 12)])), (a 8, .inl (Y 0, 11, .inl w7)), (a 9, .inl (Y 0, 11, .inl B_balancesAtClosing)), (a 10, .inl (Y 0, 60, .inl w9)), (a 11, .inl (Y 0, 60, .inl w10)), (a 12, .inl (Y 0, 60, .inl w11))] H := hP
    have hD : va_D A [(a 0, .inr (5, [.ref (a 1), .ref (a 7), .int w16, .int C_netWidth, .int v1, .int w12])), (a 1, .inr (9, [.int T_count, .ref (a 2), .ref (a 3), .ref (a 4), .ref (a 5), .ref (a 6)])), (a 2, .inl (Y 0, 6, .inl T_weights)), (a 3, .inl (Y 0, 6, .inl T_strengths)), (a 4, .inl (Y 0, 6, .inl T_heights)), (a 5, .inl (Y 0, 6, .inl T_wages)), (a 6, .inl (Y 0, 6, .inl w15)), (a 7, .inr (4, [.int B_accounts, .ref (a 8), .ref (a 9), .int w8, .ref (a 10), .ref (a 11), .ref (a 12)])), (a 8, .inl (Y 0, 11, .inl w7)), (a 9, .inl (Y 0, 11, .inl B_balancesAtClosing)), (a 10, .inl (Y 0, 60, .inl w9)), (a 11, .inl (Y 0, 60, .inl w10)), (a 12, .inl (Y 0, 60, .inl w11))] := hD
    refine lv_pop hx hb dX3_giveShow_45 rfl ?_
    refine lv_iload_n hx hb dX3_giveShow_46 rfl (lv_at hl 0 rfl) ?_
    obtain ⟨e0, e1, e2, e3, e4, e5, e6, e7, e8, e9⟩ := wke10 hf
    subst e0
    subst e1
    subst e2
    subst e3
    subst e4
    subst e5
    subst e6
    subst e7
    subst e8
    subst e9
    have hP9 := hP.sub (ws' := (wX3 Y a T_count T_weights T_strengths T_heights T_wages w15 B_accounts w7 B_balancesAtClosing w8 w9 w10 w11 w16 C_netWidth v1 w12)) [0, 1, 2, 3, 4, 5, 6, 7, 8, 9, 10, 11, 12] rfl
    have hD9 := hD.sub (ws' := (wX3 Y a T_count T_weights T_strengths T_heights T_wages w15 B_accounts w7 B_balancesAtClosing w8 w9 w10 w11 w16 C_netWidth v1 w12)) [0, 1, 2, 3, 4, 5, 6, 7, 8, 9, 10, 11, 12] (by decide) rfl
    exact W.iret (v := (-r5)) hx hb hr (fun t ht hW => ⟨⟨(-r5), (), rfl, rfl, by rw [ht]; exact hP9, va_K.moved hW.alike hK, hD9⟩, hS.F ht⟩) hS.2.2 dX3_giveShow_47
  · have hf := wk_t hf q4
    refine lv_aload_n hx hb dX3_giveShow_24 rfl (lv_at hl 1 rfl) ?_
    refine lv_iload_n hx hb dX3_giveShow_25 rfl (lv_at hl 2 rfl) ?_
    obtain ⟨r18, w19, w20, w21, w22, w23, hr24, hf⟩ := wkb6_s hf
    refine wk_evi (As := [.int x1]) (rest := []) (wc := (wX3 Y a T_count T_weights T_strengths T_heights T_wages T_nightsToHeal B_accounts B_balances B_balancesAtClosing B_entries B_debited B_credited B_amounts C_nights C_netWidth v1 C_fallen)) (w1 := (wX3 Y a T_count T_weights T_strengths T_heights T_wages T_nightsToHeal B_accounts w19 B_balancesAtClosing w20 w21 w22 w23 C_nights C_netWidth v1 C_fallen)) (wr := []) ⟨hx, hb, hml, hown, hts⟩ (c_X3_bookSuccess l dC dI Y a T_count T_weights T_strengths T_heights T_wages T_nightsToHeal B_accounts B_balances B_balancesAtClosing B_entries B_debited B_credited B_amounts C_nights C_netWidth v1 C_fallen x1 H.size r18 w19 w20 w21 w22 w23 hr24) (cwV 1 hts gX3_giveShow_X3_bookSuccess rfl rfl rfl (by decide +kernel) ⟨Nat.le_of_ble_eq_true rfl, Nat.le_of_ble_eq_true rfl⟩) hK hP hD hS hA [0, 1, 2, 3, 4, 5, 6, 7, 8, 9, 10, 11, 12] [] rfl rfl (by decide) (by decide) (by decide) (va_recv hK hP (ci := 5) (q0 := 0) rfl rfl) rfl hl.1 rfl (Nat.le_of_ble_eq_true rfl) dX3_giveShow_26 ⟨Nat.le_of_ble_eq_true rfl, Nat.le_of_ble_eq_true rfl⟩ (fun H locs hP hD hS => ?_)
    have hP : va_P (dC, dI) vwCl [(a 0, .inr (5, [.ref (a 1), .ref (a 7), .int C_nights, .int C_netWidth, .int v1, .int C_fallen])), (a 1, .inr (9, [.int T_count, .ref (a 2), .ref (a 3), .ref (a 4), .ref (a 5), .ref (a 6)])), (a 2, .inl (Y 0, 6, .inl T_weights)), (a 3, .inl (Y 0, 6, .inl T_strengths)), (a 4, .inl (Y 0, 6, .inl T_heights)), (a 5, .inl (Y 0, 6, .inl T_wages)), (a 6, .inl (Y 0, 6, .inl T_nightsToHeal)), (a 7, .inr (4, [.int B_accounts, .ref (a 8), .ref (a 9), .int w20, .ref (a 10), .ref (a 11), .ref (a 12)])), (a 8, .inl (Y 0, 11, .inl w19)), (a 9, .inl (Y 0, 11, .inl B_balancesAtClosing)), (a 10, .inl (Y 0, 60, .inl w21)), (a 11, .inl (Y 0, 60, .inl w22)), (a 12, .inl (Y 0, 60, .inl w23))] H := hP
    have hD : va_D A [(a 0, .inr (5, [.ref (a 1), .ref (a 7), .int C_nights, .int C_netWidth, .int v1, .int C_fallen])), (a 1, .inr (9, [.int T_count, .ref (a 2), .ref (a 3), .ref (a 4), .ref (a 5), .ref (a 6)])), (a 2, .inl (Y 0, 6, .inl T_weights)), (a 3, .inl (Y 0, 6, .inl T_strengths)), (a 4, .inl (Y 0, 6, .inl T_heights)), (a 5, .inl (Y 0, 6, .inl T_wages)), (a 6, .inl (Y 0, 6, .inl T_nightsToHeal)), (a 7, .inr (4, [.int B_accounts, .ref (a 8), .ref (a 9), .int w20, .ref (a 10), .ref (a 11), .ref (a 12)])), (a 8, .inl (Y 0, 11, .inl w19)), (a 9, .inl (Y 0, 11, .inl B_balancesAtClosing)), (a 10, .inl (Y 0, 60, .inl w21)), (a 11, .inl (Y 0, 60, .inl w22)), (a 12, .inl (Y 0, 60, .inl w23))] := hD
    refine lv_goto (tgt := 39) hx hb dX3_giveShow_29 (by decide) ?_
    refine lv_istore_n (lv' := [(3, .int r18), (2, .int r2), (0, .ref (a 0)), (1, .int x1)]) hx hb dX3_giveShow_39 rfl hl (by decide) rfl (fun ls hl => ?_)
    refine lv_aload_n hx hb dX3_giveShow_40 rfl (lv_at hl 2 rfl) ?_
    refine lv_iconst (v := 1) hx hb dX3_giveShow_41 (by decide) ?_
    obtain ⟨r25, w26, w27, hr28, hf⟩ := wkb3_s hf
    refine wk_evi (As := [.int 1]) (rest := []) (wc := (wX3 Y a T_count T_weights T_strengths T_heights T_wages T_nightsToHeal B_accounts w19 B_balancesAtClosing w20 w21 w22 w23 C_nights C_netWidth v1 C_fallen)) (w1 := (wX3 Y a T_count T_weights T_strengths T_heights T_wages w26 B_accounts w19 B_balancesAtClosing w20 w21 w22 w23 w27 C_netWidth v1 C_fallen)) (wr := []) ⟨hx, hb, hml, hown, hts⟩ (c_X3_waitNights l dC dI Y a T_count T_weights T_strengths T_heights T_wages T_nightsToHeal B_accounts w19 B_balancesAtClosing w20 w21 w22 w23 C_nights C_netWidth v1 C_fallen 1 H.size r25 w26 w27 hr28) (cwV 1 hts gX3_giveShow_X3_waitNights rfl rfl rfl (by decide +kernel) ⟨Nat.le_of_ble_eq_true rfl, Nat.le_of_ble_eq_true rfl⟩) hK hP hD hS hA [0, 1, 2, 3, 4, 5, 6, 7, 8, 9, 10, 11, 12] [] rfl rfl (by decide) (by decide) (by decide) (va_recv hK hP (ci := 5) (q0 := 0) rfl rfl) rfl hl.1 rfl (Nat.le_of_ble_eq_true rfl) dX3_giveShow_42 ⟨Nat.le_of_ble_eq_true rfl, Nat.le_of_ble_eq_true rfl⟩ (fun H locs hP hD hS => ?_)
    have hP : va_P (dC, dI) vwCl [(a 0, .inr (5, [.ref (a 1), .ref (a 7), .int w27, .int C_netWidth, .int v1, .int C_fallen])), (a 1, .inr (9, [.int T_count, .ref (a 2), .ref (a 3), .ref (a 4), .ref (a 5), .ref (a 6)])), (a 2, .inl (Y 0, 6, .inl T_weights)), (a 3, .inl (Y 0, 6, .inl T_strengths)), (a 4, .inl (Y 0, 6, .inl T_heights)), (a 5, .inl (Y 0, 6, .inl T_wages)), (a 6, .inl (Y 0, 6, .inl w26)), (a 7, .inr (4, [.int B_accounts, .ref (a 8), .ref (a 9), .int w20, .ref (a 10), .ref (a 11), .ref (a 12)])), (a 8, .inl (Y 0, 11, .inl w19)), (a 9, .inl (Y 0, 11, .inl B_balancesAtClosing)), (a 10, .inl (Y 0, 60, .inl w21)), (a 11, .inl (Y 0, 60, .inl w22)), (a 12, .inl (Y 0, 60, .inl w23))] H := hP
    have hD : va_D A [(a 0, .inr (5, [.ref (a 1), .ref (a 7), .int w27, .int C_netWidth, .int v1, .int C_fallen])), (a 1, .inr (9, [.int T_count, .ref (a 2), .ref (a 3), .ref (a 4), .ref (a 5), .ref (a 6)])), (a 2, .inl (Y 0, 6, .inl T_weights)), (a 3, .inl (Y 0, 6, .inl T_strengths)), (a 4, .inl (Y 0, 6, .inl T_heights)), (a 5, .inl (Y 0, 6, .inl T_wages)), (a 6, .inl (Y 0, 6, .inl w26)), (a 7, .inr (4, [.int B_accounts, .ref (a 8), .ref (a 9), .int w20, .ref (a 10), .ref (a 11), .ref (a 12)])), (a 8, .inl (Y 0, 11, .inl w19)), (a 9, .inl (Y 0, 11, .inl B_balancesAtClosing)), (a 10, .inl (Y 0, 60, .inl w21)), (a 11, .inl (Y 0, 60, .inl w22)), (a 12, .inl (Y 0, 60, .inl w23))] := hD
    refine lv_pop hx hb dX3_giveShow_45 rfl ?_
    refine lv_iload_n hx hb dX3_giveShow_46 rfl (lv_at hl 0 rfl) ?_
    obtain ⟨e0, e1, e2, e3, e4, e5, e6, e7, e8, e9⟩ := wke10 hf
    subst e0
    subst e1
    subst e2
    subst e3
    subst e4
    subst e5
    subst e6
    subst e7
    subst e8
    subst e9
    have hP9 := hP.sub (ws' := (wX3 Y a T_count T_weights T_strengths T_heights T_wages w26 B_accounts w19 B_balancesAtClosing w20 w21 w22 w23 w27 C_netWidth v1 C_fallen)) [0, 1, 2, 3, 4, 5, 6, 7, 8, 9, 10, 11, 12] rfl
    have hD9 := hD.sub (ws' := (wX3 Y a T_count T_weights T_strengths T_heights T_wages w26 B_accounts w19 B_balancesAtClosing w20 w21 w22 w23 w27 C_netWidth v1 C_fallen)) [0, 1, 2, 3, 4, 5, 6, 7, 8, 9, 10, 11, 12] (by decide) rfl
    exact W.iret (v := r18) hx hb hr (fun t ht hW => ⟨⟨r18, (), rfl, rfl, by rw [ht]; exact hP9, va_K.moved hW.alike hK, hD9⟩, hS.F ht⟩) hS.2.2 dX3_giveShow_47
theorem lk_X3_refusalToSpan_RX3_49 : Cond.fieldLink RX3 49 "CircusLedger$Refusal" "ARGUMENT" "LCircusLedger$Refusal;" ∈ wsX3_refusalToSpan := by decide +kernel
theorem lk_X3_refusalToSpan_RX3_61 : Cond.fieldLink RX3 61 "CircusLedger$Refusal" "NONE" "LCircusLedger$Refusal;" ∈ wsX3_refusalToSpan := by decide +kernel
def f_X3_refusalToSpan (x1 : Int32) : Option (Nat) :=
  wkb1 (f_X3_isBetween x1 0 5) (fun r1 =>
  if r1 = 0 then
    (some (2))
  else
    (some (0)))
set_option maxHeartbeats 4000000 in
set_option maxRecDepth 100000 in
theorem c_X3_refusalToSpan (l : Launch) (dC : Nat → ClassId) (dI : Nat → Nat → Nat) (Y : Nat → ClassId) (g : Nat → Nat → Nat) (a : Nat → Nat) (T_count : Int32) (T_weights : Nat → Int32) (T_strengths : Nat → Int32) (T_heights : Nat → Int32) (T_wages : Nat → Int32) (T_nightsToHeal : Nat → Int32) (B_accounts : Int32) (B_balances : Nat → Int32) (B_balancesAtClosing : Nat → Int32) (B_entries : Int32) (B_debited : Nat → Int32) (B_credited : Nat → Int32) (B_amounts : Nat → Int32) (C_nights : Int32) (C_netWidth : Int32) (C_shows : Int32) (C_fallen : Int32) (x1 : Int32) (r : Nat) (hf : f_X3_refusalToSpan x1 = some (r)) : Met l yX3_refusalToSpan wsX3_refusalToSpan ({ frames := 1, cells := 0, slots := 0, locals := 22 } : Room) (va_Pc [.ref (a 0), .int x1] (wk_BT (dC, dI) Y g (wX3 Y a T_count T_weights T_strengths T_heights T_wages T_nightsToHeal B_accounts B_balances B_balancesAtClosing B_entries B_debited B_credited B_amounts C_nights C_netWidth C_shows C_fallen))) (va_Se (g 0) (fun r2 => r2 = some r)) 0 0 (fun _ => False) := by
  refine Met.ofW (cc := cX3_refusalToSpan) (maxL := 2) (ret := (some (.object "CircusLedger$Refusal"))) (by decide) rfl ?_
  intro p e s m args below meth c s₁ B hml hv
  obtain ⟨rfl, ⟨hP, hK⟩, hT⟩ := hv
  have hx := B.exec
  have hb := B.bytes
  have hr := B.returns
  have hts := atoms_spec (ws := wsX3_refusalToSpan) B.pre
  have hown : s.vm.findClass RX3 = some m.cls := findClass_of_methodNamed B.named
  have hlocks := B.notSynchronized
  have C0 : wk_C p s m _ meth c cX3_refusalToSpan 2 (some (.object "CircusLedger$Refusal")) wsX3_refusalToSpan RX3 := ⟨hx, hb, hml, hr, hlocks, hown, hts⟩
  have hP : va_P (dC, dI) vwCl [(a 0, .inr (5, [.ref (a 1), .ref (a 7), .int C_nights, .int C_netWidth, .int C_shows, .int C_fallen])), (a 1, .inr (9, [.int T_count, .ref (a 2), .ref (a 3), .ref (a 4), .ref (a 5), .ref (a 6)])), (a 2, .inl (Y 0, 6, .inl T_weights)), (a 3, .inl (Y 0, 6, .inl T_strengths)), (a 4, .inl (Y 0, 6, .inl T_heights)), (a 5, .inl (Y 0, 6, .inl T_wages)), (a 6, .inl (Y 0, 6, .inl T_nightsToHeal)), (a 7, .inr (4, [.int B_accounts, .ref (a 8), .ref (a 9), .int B_entries, .ref (a 10), .ref (a 11), .ref (a 12)])), (a 8, .inl (Y 0, 11, .inl B_balances)), (a 9, .inl (Y 0, 11, .inl B_balancesAtClosing)), (a 10, .inl (Y 0, 60, .inl B_debited)), (a 11, .inl (Y 0, 60, .inl B_credited)), (a 12, .inl (Y 0, 60, .inl B_amounts))] s.heap := hP
  have hS : va_S (fun _ : Nat => False) s.heap s.heap [] := va_S.rf
  have hl := lv_entry ([.ref (a 0), .int x1]) (n := 2) (Nat.le_of_ble_eq_true rfl)
  rw [lg_entry_eq]
  generalize (lg_sl ([.ref (a 0), .int x1]) ++ List.replicate (2 - (lg_sl ([.ref (a 0), .int x1])).length) Slot.unset).toArray = ls at hl ⊢
  have hl : lv_has ls 2 [(0, .ref (a 0)), (1, .int x1)] := hl
  rw [f_X3_refusalToSpan] at hf
  refine lv_iload_n hx hb dX3_refusalToSpan_0 rfl (lv_at hl 1 rfl) ?_
  refine lv_iconst (v := 0) hx hb dX3_refusalToSpan_1 (by decide) ?_
  refine lv_iconst (v := 5) hx hb dX3_refusalToSpan_2 (by decide) ?_
  obtain ⟨r1, hr2, hf⟩ := wkb1_s hf
  have hPc := hP.sub (ws' := ([] : va_W)) [] rfl
  refine wk_si (As := [.int x1, .int 0, .int 5]) (rest := []) ⟨hx, hb, hml, hown, hts⟩ (c_X3_isBetween l dC dI Y x1 0 5 r1 hr2) (va_cwS 3 hts gX3_refusalToSpan_X3_isBetween rfl rfl rfl (by decide +kernel) ⟨Nat.le_of_ble_eq_true rfl, Nat.le_of_ble_eq_true rfl⟩) hK hPc rfl hl.1 rfl (Nat.le_of_ble_eq_true rfl) dX3_refusalToSpan_3 ⟨Nat.le_of_ble_eq_true rfl, Nat.le_of_ble_eq_true rfl⟩ ?_
  refine lv_if_eq (tgt := 15) hx hb dX3_refusalToSpan_6 (by decide) (fun q3 => ?_) (fun q3 => ?_)
  · have hf := wk_t hf q3
    refine va_gets (v := .ref (g 0 2)) hx hb (hT.1.1 2 (by decide)).1 hS hown (hts _ lk_X3_refusalToSpan_RX3_49) (fun _ h9 => h9) dX3_refusalToSpan_15 ?_
    have e0 := wke1 hf
    subst e0
    exact W.aret (v := .ref (g 0 2)) hx hb hr (Or.inl ⟨_, rfl⟩) (Or.inr ⟨_, rfl⟩) (fun t ht hW => ⟨some 2, rfl, rfl, ht⟩) (fun q h => absurd h List.not_mem_nil) dX3_refusalToSpan_18
  · have hf := wk_f hf q3
    refine va_gets (v := .ref (g 0 0)) hx hb (hT.1.1 0 (by decide)).1 hS hown (hts _ lk_X3_refusalToSpan_RX3_61) (fun _ h9 => h9) dX3_refusalToSpan_9 ?_
    refine lv_goto (tgt := 18) hx hb dX3_refusalToSpan_12 (by decide) ?_
    have e0 := wke1 hf
    subst e0
    exact W.aret (v := .ref (g 0 0)) hx hb hr (Or.inl ⟨_, rfl⟩) (Or.inr ⟨_, rfl⟩) (fun t ht hW => ⟨some 0, rfl, rfl, ht⟩) (fun q h => absurd h List.not_mem_nil) dX3_refusalToSpan_18
theorem lk_X3_spanNet_RX3_36 : Cond.fieldLink RX3 36 "CircusLedger$Circus" "netWidth" "I" ∈ wsX3_spanNet := by decide +kernel
theorem in_X3_spanNet_X3 : ∀ w ∈ u_ws RX3 TX3 6, w ∈ wsX3_spanNet := by decide +kernel
def f_X3_spanNet (C_netWidth : Int32) (x1 : Int32) : Option (Int32 × Int32) :=
  some (C_netWidth, x1)
set_option maxHeartbeats 4000000 in
set_option maxRecDepth 100000 in
theorem c_X3_spanNet (l : Launch) (dC : Nat → ClassId) (dI : Nat → Nat → Nat) (Y : Nat → ClassId) (a : Nat → Nat) (T_count : Int32) (T_weights : Nat → Int32) (T_strengths : Nat → Int32) (T_heights : Nat → Int32) (T_wages : Nat → Int32) (T_nightsToHeal : Nat → Int32) (B_accounts : Int32) (B_balances : Nat → Int32) (B_balancesAtClosing : Nat → Int32) (B_entries : Int32) (B_debited : Nat → Int32) (B_credited : Nat → Int32) (B_amounts : Nat → Int32) (C_nights : Int32) (C_netWidth : Int32) (C_shows : Int32) (C_fallen : Int32) (x1 : Int32) (sz : Nat) (r : Int32) (zC_netWidth : Int32) (hf : f_X3_spanNet C_netWidth x1 = some (r, zC_netWidth)) : Met l yX3_spanNet wsX3_spanNet ({ frames := 0, cells := 0, slots := 0, locals := 0 } : Room) (va_Pc [.ref (a 0), .int x1] (wk_E (dC, dI) Y (wX3 Y a T_count T_weights T_strengths T_heights T_wages T_nightsToHeal B_accounts B_balances B_balancesAtClosing B_entries B_debited B_credited B_amounts C_nights C_netWidth C_shows C_fallen) sz)) (va_Qi (fun r2 (_ : Unit) => r2 = r) (fun _ t => wk_X (dC, dI) Y (wX3 Y a T_count T_weights T_strengths T_heights T_wages T_nightsToHeal B_accounts B_balances B_balancesAtClosing B_entries B_debited B_credited B_amounts C_nights zC_netWidth C_shows C_fallen) (va_A (wX3 Y a T_count T_weights T_strengths T_heights T_wages T_nightsToHeal B_accounts B_balances B_balancesAtClosing B_entries B_debited B_credited B_amounts C_nights C_netWidth C_shows C_fallen) sz) t) (va_A (wX3 Y a T_count T_weights T_strengths T_heights T_wages T_nightsToHeal B_accounts B_balances B_balancesAtClosing B_entries B_debited B_credited B_amounts C_nights C_netWidth C_shows C_fallen) sz)) 0 0 (va_A (wX3 Y a T_count T_weights T_strengths T_heights T_wages T_nightsToHeal B_accounts B_balances B_balancesAtClosing B_entries B_debited B_credited B_amounts C_nights C_netWidth C_shows C_fallen) sz) := by
  refine Met.ofW (cc := cX3_spanNet) (maxL := 3) (ret := (some .int)) (by decide) rfl ?_
  intro p e s m args below meth c s₁ B hml hv
  obtain ⟨rfl, hsz, hP, hK, hD0⟩ := hv
  have hx := B.exec
  have hb := B.bytes
  have hr := B.returns
  have hts := atoms_spec (ws := wsX3_spanNet) B.pre
  have hown : s.vm.findClass RX3 = some m.cls := findClass_of_methodNamed B.named
  have hlocks := B.notSynchronized
  have C0 : wk_C p s m _ meth c cX3_spanNet 3 (some .int) wsX3_spanNet RX3 := ⟨hx, hb, hml, hr, hlocks, hown, hts⟩
  subst hsz
  have hD := hD0.self (sz := s.heap.size)
  generalize hAe : va_A (wX3 Y a T_count T_weights T_strengths T_heights T_wages T_nightsToHeal B_accounts B_balances B_balancesAtClosing B_entries B_debited B_credited B_amounts C_nights C_netWidth C_shows C_fallen) s.heap.size = A at hD ⊢
  have hA : ∀ q : Nat, s.heap.size ≤ q → A q := fun q h => by rw [← hAe]; exact Or.inr h
  have hS : va_S A s.heap s.heap [] := va_S.rf
  obtain ⟨H, hHe⟩ : ∃ H, H = s.heap := ⟨_, rfl⟩
  have hS : va_S A s.heap H [] := by rw [hHe]; exact hS
  have hP : va_P (dC, dI) vwCl [(a 0, .inr (5, [.ref (a 1), .ref (a 7), .int C_nights, .int C_netWidth, .int C_shows, .int C_fallen])), (a 1, .inr (9, [.int T_count, .ref (a 2), .ref (a 3), .ref (a 4), .ref (a 5), .ref (a 6)])), (a 2, .inl (Y 0, 6, .inl T_weights)), (a 3, .inl (Y 0, 6, .inl T_strengths)), (a 4, .inl (Y 0, 6, .inl T_heights)), (a 5, .inl (Y 0, 6, .inl T_wages)), (a 6, .inl (Y 0, 6, .inl T_nightsToHeal)), (a 7, .inr (4, [.int B_accounts, .ref (a 8), .ref (a 9), .int B_entries, .ref (a 10), .ref (a 11), .ref (a 12)])), (a 8, .inl (Y 0, 11, .inl B_balances)), (a 9, .inl (Y 0, 11, .inl B_balancesAtClosing)), (a 10, .inl (Y 0, 60, .inl B_debited)), (a 11, .inl (Y 0, 60, .inl B_credited)), (a 12, .inl (Y 0, 60, .inl B_amounts))] H := by rw [hHe]; exact hP
  have hD : va_D A [(a 0, .inr (5, [.ref (a 1), .ref (a 7), .int C_nights, .int C_netWidth, .int C_shows, .int C_fallen])), (a 1, .inr (9, [.int T_count, .ref (a 2), .ref (a 3), .ref (a 4), .ref (a 5), .ref (a 6)])), (a 2, .inl (Y 0, 6, .inl T_weights)), (a 3, .inl (Y 0, 6, .inl T_strengths)), (a 4, .inl (Y 0, 6, .inl T_heights)), (a 5, .inl (Y 0, 6, .inl T_wages)), (a 6, .inl (Y 0, 6, .inl T_nightsToHeal)), (a 7, .inr (4, [.int B_accounts, .ref (a 8), .ref (a 9), .int B_entries, .ref (a 10), .ref (a 11), .ref (a 12)])), (a 8, .inl (Y 0, 11, .inl B_balances)), (a 9, .inl (Y 0, 11, .inl B_balancesAtClosing)), (a 10, .inl (Y 0, 60, .inl B_debited)), (a 11, .inl (Y 0, 60, .inl B_credited)), (a 12, .inl (Y 0, 60, .inl B_amounts))] := hD
  obtain ⟨locs, hlo⟩ : ∃ locs : List Loc, locs = [] := ⟨_, rfl⟩
  have hS : va_S A s.heap H locs := by rw [hlo]; exact hS
  have hl := lv_entry ([.ref (a 0), .int x1]) (n := 3) (Nat.le_of_ble_eq_true rfl)
  rw [lg_entry_eq]
  generalize (lg_sl ([.ref (a 0), .int x1]) ++ List.replicate (3 - (lg_sl ([.ref (a 0), .int x1])).length) Slot.unset).toArray = ls at hl ⊢
  have hl : lv_has ls 3 [(0, .ref (a 0)), (1, .int x1)] := hl
  refine wk_start hHe hlo ?_
  rw [f_X3_spanNet] at hf
  refine lv_aload_n hx hb dX3_spanNet_0 rfl (lv_at hl 0 rfl) ?_
  refine va_get (D := (dC, dI)) (ci := 5) (v := .int C_netWidth) (C := RX3) (T := TX3) (N := 6) hx hb hts in_X3_spanNet_X3 hown hK hP 0 rfl rfl 3 (by decide) (hts _ lk_X3_spanNet_RX3_36) (fun _ h9 => h9) rfl dX3_spanNet_1 ?_
  refine lv_istore_n (lv' := [(2, .int C_netWidth), (0, .ref (a 0)), (1, .int x1)]) hx hb dX3_spanNet_4 rfl hl (by decide) rfl (fun ls hl => ?_)
  refine lv_aload_n hx hb dX3_spanNet_5 rfl (lv_at hl 1 rfl) ?_
  refine lv_iload_n hx hb dX3_spanNet_6 rfl (lv_at hl 2 rfl) ?_
  refine va_put (D := (dC, dI)) (ci := 5) (v := .int x1) (ty := .int) (C := RX3) (T := TX3) (N := 6) hx hb hts in_X3_spanNet_X3 tyX3 tyX3_ok nmX3 hown hK hP hD hS 0 rfl rfl 3 (by decide) (hts _ lk_X3_spanNet_RX3_36) (fun _ h9 => h9) rfl (by decide +kernel) rfl rfl (Nat.le_of_ble_eq_true rfl) dX3_spanNet_7 (fun H locs hP hD hS => ?_)
  have hP : va_P (dC, dI) vwCl [(a 0, .inr (5, [.ref (a 1), .ref (a 7), .int C_nights, .int x1, .int C_shows, .int C_fallen])), (a 1, .inr (9, [.int T_count, .ref (a 2), .ref (a 3), .ref (a 4), .ref (a 5), .ref (a 6)])), (a 2, .inl (Y 0, 6, .inl T_weights)), (a 3, .inl (Y 0, 6, .inl T_strengths)), (a 4, .inl (Y 0, 6, .inl T_heights)), (a 5, .inl (Y 0, 6, .inl T_wages)), (a 6, .inl (Y 0, 6, .inl T_nightsToHeal)), (a 7, .inr (4, [.int B_accounts, .ref (a 8), .ref (a 9), .int B_entries, .ref (a 10), .ref (a 11), .ref (a 12)])), (a 8, .inl (Y 0, 11, .inl B_balances)), (a 9, .inl (Y 0, 11, .inl B_balancesAtClosing)), (a 10, .inl (Y 0, 60, .inl B_debited)), (a 11, .inl (Y 0, 60, .inl B_credited)), (a 12, .inl (Y 0, 60, .inl B_amounts))] H := hP
  have hD : va_D A [(a 0, .inr (5, [.ref (a 1), .ref (a 7), .int C_nights, .int x1, .int C_shows, .int C_fallen])), (a 1, .inr (9, [.int T_count, .ref (a 2), .ref (a 3), .ref (a 4), .ref (a 5), .ref (a 6)])), (a 2, .inl (Y 0, 6, .inl T_weights)), (a 3, .inl (Y 0, 6, .inl T_strengths)), (a 4, .inl (Y 0, 6, .inl T_heights)), (a 5, .inl (Y 0, 6, .inl T_wages)), (a 6, .inl (Y 0, 6, .inl T_nightsToHeal)), (a 7, .inr (4, [.int B_accounts, .ref (a 8), .ref (a 9), .int B_entries, .ref (a 10), .ref (a 11), .ref (a 12)])), (a 8, .inl (Y 0, 11, .inl B_balances)), (a 9, .inl (Y 0, 11, .inl B_balancesAtClosing)), (a 10, .inl (Y 0, 60, .inl B_debited)), (a 11, .inl (Y 0, 60, .inl B_credited)), (a 12, .inl (Y 0, 60, .inl B_amounts))] := hD
  refine lv_iload_n hx hb dX3_spanNet_10 rfl (lv_at hl 0 rfl) ?_
  obtain ⟨e0, e1⟩ := wke2 hf
  subst e0
  subst e1
  have hP9 := hP.sub (ws' := (wX3 Y a T_count T_weights T_strengths T_heights T_wages T_nightsToHeal B_accounts B_balances B_balancesAtClosing B_entries B_debited B_credited B_amounts C_nights x1 C_shows C_fallen)) [0, 1, 2, 3, 4, 5, 6, 7, 8, 9, 10, 11, 12] rfl
  have hD9 := hD.sub (ws' := (wX3 Y a T_count T_weights T_strengths T_heights T_wages T_nightsToHeal B_accounts B_balances B_balancesAtClosing B_entries B_debited B_credited B_amounts C_nights x1 C_shows C_fallen)) [0, 1, 2, 3, 4, 5, 6, 7, 8, 9, 10, 11, 12] (by decide) rfl
  exact W.iret (v := C_netWidth) hx hb hr (fun t ht hW => ⟨⟨C_netWidth, (), rfl, rfl, by rw [ht]; exact hP9, va_K.moved hW.alike hK, hD9⟩, hS.F ht⟩) hS.2.2 dX3_spanNet_11
theorem lk_X3_refusalToWait_RX3_49 : Cond.fieldLink RX3 49 "CircusLedger$Refusal" "ARGUMENT" "LCircusLedger$Refusal;" ∈ wsX3_refusalToWait := by decide +kernel
theorem lk_X3_refusalToWait_RX3_61 : Cond.fieldLink RX3 61 "CircusLedger$Refusal" "NONE" "LCircusLedger$Refusal;" ∈ wsX3_refusalToWait := by decide +kernel
def f_X3_refusalToWait (x1 : Int32) : Option (Nat) :=
  wkb1 (f_X3_isBetween x1 1 99) (fun r1 =>
  if r1 = 0 then
    (some (2))
  else
    (some (0)))
set_option maxHeartbeats 4000000 in
set_option maxRecDepth 100000 in
theorem c_X3_refusalToWait (l : Launch) (dC : Nat → ClassId) (dI : Nat → Nat → Nat) (Y : Nat → ClassId) (g : Nat → Nat → Nat) (a : Nat → Nat) (T_count : Int32) (T_weights : Nat → Int32) (T_strengths : Nat → Int32) (T_heights : Nat → Int32) (T_wages : Nat → Int32) (T_nightsToHeal : Nat → Int32) (B_accounts : Int32) (B_balances : Nat → Int32) (B_balancesAtClosing : Nat → Int32) (B_entries : Int32) (B_debited : Nat → Int32) (B_credited : Nat → Int32) (B_amounts : Nat → Int32) (C_nights : Int32) (C_netWidth : Int32) (C_shows : Int32) (C_fallen : Int32) (x1 : Int32) (r : Nat) (hf : f_X3_refusalToWait x1 = some (r)) : Met l yX3_refusalToWait wsX3_refusalToWait ({ frames := 1, cells := 0, slots := 0, locals := 22 } : Room) (va_Pc [.ref (a 0), .int x1] (wk_BT (dC, dI) Y g (wX3 Y a T_count T_weights T_strengths T_heights T_wages T_nightsToHeal B_accounts B_balances B_balancesAtClosing B_entries B_debited B_credited B_amounts C_nights C_netWidth C_shows C_fallen))) (va_Se (g 0) (fun r2 => r2 = some r)) 0 0 (fun _ => False) := by
  refine Met.ofW (cc := cX3_refusalToWait) (maxL := 2) (ret := (some (.object "CircusLedger$Refusal"))) (by decide) rfl ?_
  intro p e s m args below meth c s₁ B hml hv
  obtain ⟨rfl, ⟨hP, hK⟩, hT⟩ := hv
  have hx := B.exec
  have hb := B.bytes
  have hr := B.returns
  have hts := atoms_spec (ws := wsX3_refusalToWait) B.pre
  have hown : s.vm.findClass RX3 = some m.cls := findClass_of_methodNamed B.named
  have hlocks := B.notSynchronized
  have C0 : wk_C p s m _ meth c cX3_refusalToWait 2 (some (.object "CircusLedger$Refusal")) wsX3_refusalToWait RX3 := ⟨hx, hb, hml, hr, hlocks, hown, hts⟩
  have hP : va_P (dC, dI) vwCl [(a 0, .inr (5, [.ref (a 1), .ref (a 7), .int C_nights, .int C_netWidth, .int C_shows, .int C_fallen])), (a 1, .inr (9, [.int T_count, .ref (a 2), .ref (a 3), .ref (a 4), .ref (a 5), .ref (a 6)])), (a 2, .inl (Y 0, 6, .inl T_weights)), (a 3, .inl (Y 0, 6, .inl T_strengths)), (a 4, .inl (Y 0, 6, .inl T_heights)), (a 5, .inl (Y 0, 6, .inl T_wages)), (a 6, .inl (Y 0, 6, .inl T_nightsToHeal)), (a 7, .inr (4, [.int B_accounts, .ref (a 8), .ref (a 9), .int B_entries, .ref (a 10), .ref (a 11), .ref (a 12)])), (a 8, .inl (Y 0, 11, .inl B_balances)), (a 9, .inl (Y 0, 11, .inl B_balancesAtClosing)), (a 10, .inl (Y 0, 60, .inl B_debited)), (a 11, .inl (Y 0, 60, .inl B_credited)), (a 12, .inl (Y 0, 60, .inl B_amounts))] s.heap := hP
  have hS : va_S (fun _ : Nat => False) s.heap s.heap [] := va_S.rf
  have hl := lv_entry ([.ref (a 0), .int x1]) (n := 2) (Nat.le_of_ble_eq_true rfl)
  rw [lg_entry_eq]
  generalize (lg_sl ([.ref (a 0), .int x1]) ++ List.replicate (2 - (lg_sl ([.ref (a 0), .int x1])).length) Slot.unset).toArray = ls at hl ⊢
  have hl : lv_has ls 2 [(0, .ref (a 0)), (1, .int x1)] := hl
  rw [f_X3_refusalToWait] at hf
  refine lv_iload_n hx hb dX3_refusalToWait_0 rfl (lv_at hl 1 rfl) ?_
  refine lv_iconst (v := 1) hx hb dX3_refusalToWait_1 (by decide) ?_
  refine lv_bipush (v := 99) hx hb dX3_refusalToWait_2 (by decide) ?_
  obtain ⟨r1, hr2, hf⟩ := wkb1_s hf
  have hPc := hP.sub (ws' := ([] : va_W)) [] rfl
  refine wk_si (As := [.int x1, .int 1, .int 99]) (rest := []) ⟨hx, hb, hml, hown, hts⟩ (c_X3_isBetween l dC dI Y x1 1 99 r1 hr2) (va_cwS 3 hts gX3_refusalToWait_X3_isBetween rfl rfl rfl (by decide +kernel) ⟨Nat.le_of_ble_eq_true rfl, Nat.le_of_ble_eq_true rfl⟩) hK hPc rfl hl.1 rfl (Nat.le_of_ble_eq_true rfl) dX3_refusalToWait_4 ⟨Nat.le_of_ble_eq_true rfl, Nat.le_of_ble_eq_true rfl⟩ ?_
  refine lv_if_eq (tgt := 16) hx hb dX3_refusalToWait_7 (by decide) (fun q3 => ?_) (fun q3 => ?_)
  · have hf := wk_t hf q3
    refine va_gets (v := .ref (g 0 2)) hx hb (hT.1.1 2 (by decide)).1 hS hown (hts _ lk_X3_refusalToWait_RX3_49) (fun _ h9 => h9) dX3_refusalToWait_16 ?_
    have e0 := wke1 hf
    subst e0
    exact W.aret (v := .ref (g 0 2)) hx hb hr (Or.inl ⟨_, rfl⟩) (Or.inr ⟨_, rfl⟩) (fun t ht hW => ⟨some 2, rfl, rfl, ht⟩) (fun q h => absurd h List.not_mem_nil) dX3_refusalToWait_19
  · have hf := wk_f hf q3
    refine va_gets (v := .ref (g 0 0)) hx hb (hT.1.1 0 (by decide)).1 hS hown (hts _ lk_X3_refusalToWait_RX3_61) (fun _ h9 => h9) dX3_refusalToWait_10 ?_
    refine lv_goto (tgt := 19) hx hb dX3_refusalToWait_13 (by decide) ?_
    have e0 := wke1 hf
    subst e0
    exact W.aret (v := .ref (g 0 0)) hx hb hr (Or.inl ⟨_, rfl⟩) (Or.inr ⟨_, rfl⟩) (fun t ht hW => ⟨some 0, rfl, rfl, ht⟩) (fun q h => absurd h List.not_mem_nil) dX3_refusalToWait_19
theorem lk_X3_refusalToOffset_RX3_21 : Cond.fieldLink RX3 21 "CircusLedger$Circus" "books" "LCircusLedger$Books;" ∈ wsX3_refusalToOffset := by decide +kernel
theorem lk_X3_refusalToOffset_RX3_58 : Cond.fieldLink RX3 58 "CircusLedger$Refusal" "STATE" "LCircusLedger$Refusal;" ∈ wsX3_refusalToOffset := by decide +kernel
theorem lk_X3_refusalToOffset_RX3_61 : Cond.fieldLink RX3 61 "CircusLedger$Refusal" "NONE" "LCircusLedger$Refusal;" ∈ wsX3_refusalToOffset := by decide +kernel
theorem lk_X3_refusalToOffset_RX3_75 : Cond.fieldLink RX3 75 "CircusLedger$Refusal" "INDEX" "LCircusLedger$Refusal;" ∈ wsX3_refusalToOffset := by decide +kernel
theorem in_X3_refusalToOffset_X3 : ∀ w ∈ u_ws RX3 TX3 6, w ∈ wsX3_refusalToOffset := by decide +kernel
def f_X3_refusalToOffset (B_accounts : Int32) (B_balances : Nat → Int32) (B_entries : Int32) (x1 : Int32) (x2 : Int32) : Option (Nat) :=
  wkb1 (f_X2_has B_accounts x1) (fun r1 =>
  if r1 = 0 then
    (some (1))
  else
    (wkb1 (f_X2_has B_accounts x2) (fun r4 =>
    if r4 = 0 then
      (some (1))
    else
      (wkb1 (f_X2_areOpposed B_balances x1 x2) (fun r7 =>
      if r7 = 0 then
        (some (3))
      else
        (wkb1 (f_X2_hasRoomFor B_entries 1) (fun r10 =>
        if r10 = 0 then
          (some (3))
        else
          (some (0)))))))))
set_option maxHeartbeats 4000000 in
set_option maxRecDepth 100000 in
theorem c_X3_refusalToOffset (l : Launch) (dC : Nat → ClassId) (dI : Nat → Nat → Nat) (Y : Nat → ClassId) (g : Nat → Nat → Nat) (a : Nat → Nat) (T_count : Int32) (T_weights : Nat → Int32) (T_strengths : Nat → Int32) (T_heights : Nat → Int32) (T_wages : Nat → Int32) (T_nightsToHeal : Nat → Int32) (B_accounts : Int32) (B_balances : Nat → Int32) (B_balancesAtClosing : Nat → Int32) (B_entries : Int32) (B_debited : Nat → Int32) (B_credited : Nat → Int32) (B_amounts : Nat → Int32) (C_nights : Int32) (C_netWidth : Int32) (C_shows : Int32) (C_fallen : Int32) (x1 : Int32) (x2 : Int32) (r : Nat) (hf : f_X3_refusalToOffset B_accounts B_balances B_entries x1 x2 = some (r)) : Met l yX3_refusalToOffset wsX3_refusalToOffset ({ frames := 2, cells := 0, slots := 0, locals := 43 } : Room) (va_Pc [.ref (a 0), .int x1, .int x2] (wk_BT (dC, dI) Y g (wX3 Y a T_count T_weights T_strengths T_heights T_wages T_nightsToHeal B_accounts B_balances B_balancesAtClosing B_entries B_debited B_credited B_amounts C_nights C_netWidth C_shows C_fallen))) (va_Se (g 0) (fun r2 => r2 = some r)) 0 0 (fun _ => False) := by
  refine Met.ofW (cc := cX3_refusalToOffset) (maxL := 3) (ret := (some (.object "CircusLedger$Refusal"))) (by decide) rfl ?_
  intro p e s m args below meth c s₁ B hml hv
  obtain ⟨rfl, ⟨hP, hK⟩, hT⟩ := hv
  have hx := B.exec
  have hb := B.bytes
  have hr := B.returns
  have hts := atoms_spec (ws := wsX3_refusalToOffset) B.pre
  have hown : s.vm.findClass RX3 = some m.cls := findClass_of_methodNamed B.named
  have hlocks := B.notSynchronized
  have C0 : wk_C p s m _ meth c cX3_refusalToOffset 3 (some (.object "CircusLedger$Refusal")) wsX3_refusalToOffset RX3 := ⟨hx, hb, hml, hr, hlocks, hown, hts⟩
  have hP : va_P (dC, dI) vwCl [(a 0, .inr (5, [.ref (a 1), .ref (a 7), .int C_nights, .int C_netWidth, .int C_shows, .int C_fallen])), (a 1, .inr (9, [.int T_count, .ref (a 2), .ref (a 3), .ref (a 4), .ref (a 5), .ref (a 6)])), (a 2, .inl (Y 0, 6, .inl T_weights)), (a 3, .inl (Y 0, 6, .inl T_strengths)), (a 4, .inl (Y 0, 6, .inl T_heights)), (a 5, .inl (Y 0, 6, .inl T_wages)), (a 6, .inl (Y 0, 6, .inl T_nightsToHeal)), (a 7, .inr (4, [.int B_accounts, .ref (a 8), .ref (a 9), .int B_entries, .ref (a 10), .ref (a 11), .ref (a 12)])), (a 8, .inl (Y 0, 11, .inl B_balances)), (a 9, .inl (Y 0, 11, .inl B_balancesAtClosing)), (a 10, .inl (Y 0, 60, .inl B_debited)), (a 11, .inl (Y 0, 60, .inl B_credited)), (a 12, .inl (Y 0, 60, .inl B_amounts))] s.heap := hP
  have hS : va_S (fun _ : Nat => False) s.heap s.heap [] := va_S.rf
  have hl := lv_entry ([.ref (a 0), .int x1, .int x2]) (n := 3) (Nat.le_of_ble_eq_true rfl)
  rw [lg_entry_eq]
  generalize (lg_sl ([.ref (a 0), .int x1, .int x2]) ++ List.replicate (3 - (lg_sl ([.ref (a 0), .int x1, .int x2])).length) Slot.unset).toArray = ls at hl ⊢
  have hl : lv_has ls 3 [(0, .ref (a 0)), (1, .int x1), (2, .int x2)] := hl
  rw [f_X3_refusalToOffset] at hf
  refine lv_aload_n hx hb dX3_refusalToOffset_0 rfl (lv_at hl 0 rfl) ?_
  refine va_get (D := (dC, dI)) (ci := 5) (v := .ref (a 7)) (C := RX3) (T := TX3) (N := 6) hx hb hts in_X3_refusalToOffset_X3 hown hK hP 0 rfl rfl 1 (by decide) (hts _ lk_X3_refusalToOffset_RX3_21) (fun _ h9 => h9) rfl dX3_refusalToOffset_1 ?_
  refine lv_iload_n hx hb dX3_refusalToOffset_4 rfl (lv_at hl 1 rfl) ?_
  obtain ⟨r1, hr2, hf⟩ := wkb1_s hf
  have hPc := hP.sub (ws' := (wX2 Y (fun k => a (k + 7)) B_accounts B_balances B_balancesAtClosing B_entries B_debited B_credited B_amounts)) [7, 8, 9, 10, 11, 12] rfl
  refine wk_vi (As := [.int x1]) (rest := []) ⟨hx, hb, hml, hown, hts⟩ (c_X2_has l dC dI Y (fun k => a (k + 7)) B_accounts B_balances B_balancesAtClosing B_entries B_debited B_credited B_amounts x1 r1 hr2) (cwV 1 hts gX3_refusalToOffset_X2_has rfl rfl rfl (by decide +kernel) ⟨Nat.le_of_ble_eq_true rfl, Nat.le_of_ble_eq_true rfl⟩) hK hPc (va_recv hK hP (ci := 4) (q0 := 7) rfl rfl) rfl hl.1 rfl (Nat.le_of_ble_eq_true rfl) dX3_refusalToOffset_5 ⟨Nat.le_of_ble_eq_true rfl, Nat.le_of_ble_eq_true rfl⟩ ?_
  refine lv_if_eq (tgt := 22) hx hb dX3_refusalToOffset_8 (by decide) (fun q3 => ?_) (fun q3 => ?_)
  · have hf := wk_t hf q3
    refine va_gets (v := .ref (g 0 1)) hx hb (hT.1.1 1 (by decide)).1 hS hown (hts _ lk_X3_refusalToOffset_RX3_75) (fun _ h9 => h9) dX3_refusalToOffset_22 ?_
    have e0 := wke1 hf
    subst e0
    exact W.aret (v := .ref (g 0 1)) hx hb hr (Or.inl ⟨_, rfl⟩) (Or.inr ⟨_, rfl⟩) (fun t ht hW => ⟨some 1, rfl, rfl, ht⟩) (fun q h => absurd h List.not_mem_nil) dX3_refusalToOffset_25
  · have hf := wk_f hf q3
    refine lv_aload_n hx hb dX3_refusalToOffset_11 rfl (lv_at hl 0 rfl) ?_
    refine va_get (D := (dC, dI)) (ci := 5) (v := .ref (a 7)) (C := RX3) (T := TX3) (N := 6) hx hb hts in_X3_refusalToOffset_X3 hown hK hP 0 rfl rfl 1 (by decide) (hts _ lk_X3_refusalToOffset_RX3_21) (fun _ h9 => h9) rfl dX3_refusalToOffset_12 ?_
    refine lv_iload_n hx hb dX3_refusalToOffset_15 rfl (lv_at hl 2 rfl) ?_
    obtain ⟨r4, hr5, hf⟩ := wkb1_s hf
    have hPc := hP.sub (ws' := (wX2 Y (fun k => a (k + 7)) B_accounts B_balances B_balancesAtClosing B_entries B_debited B_credited B_amounts)) [7, 8, 9, 10, 11, 12] rfl
    refine wk_vi (As := [.int x2]) (rest := []) ⟨hx, hb, hml, hown, hts⟩ (c_X2_has l dC dI Y (fun k => a (k + 7)) B_accounts B_balances B_balancesAtClosing B_entries B_debited B_credited B_amounts x2 r4 hr5) (cwV 1 hts gX3_refusalToOffset_X2_has rfl rfl rfl (by decide +kernel) ⟨Nat.le_of_ble_eq_true rfl, Nat.le_of_ble_eq_true rfl⟩) hK hPc (va_recv hK hP (ci := 4) (q0 := 7) rfl rfl) rfl hl.1 rfl (Nat.le_of_ble_eq_true rfl) dX3_refusalToOffset_16 ⟨Nat.le_of_ble_eq_true rfl, Nat.le_of_ble_eq_true rfl⟩ ?_
    refine lv_if_ne (tgt := 26) hx hb dX3_refusalToOffset_19 (by decide) (fun q6 => ?_) (fun q6 => ?_)
    · have hf := wk_f hf q6
      refine lv_aload_n hx hb dX3_refusalToOffset_26 rfl (lv_at hl 0 rfl) ?_
      refine va_get (D := (dC, dI)) (ci := 5) (v := .ref (a 7)) (C := RX3) (T := TX3) (N := 6) hx hb hts in_X3_refusalToOffset_X3 hown hK hP 0 rfl rfl 1 (by decide) (hts _ lk_X3_refusalToOffset_RX3_21) (fun _ h9 => h9) rfl dX3_refusalToOffset_27 ?_
      refine lv_iload_n hx hb dX3_refusalToOffset_30 rfl (lv_at hl 1 rfl) ?_
      refine lv_iload_n hx hb dX3_refusalToOffset_31 rfl (lv_at hl 2 rfl) ?_
      obtain ⟨r7, hr8, hf⟩ := wkb1_s hf
      have hPc := hP.sub (ws' := (wX2 Y (fun k => a (k + 7)) B_accounts B_balances B_balancesAtClosing B_entries B_debited B_credited B_amounts)) [7, 8, 9, 10, 11, 12] rfl
      refine wk_vi (As := [.int x1, .int x2]) (rest := []) ⟨hx, hb, hml, hown, hts⟩ (c_X2_areOpposed l dC dI Y (fun k => a (k + 7)) B_accounts B_balances B_balancesAtClosing B_entries B_debited B_credited B_amounts x1 x2 r7 hr8) (cwV 2 hts gX3_refusalToOffset_X2_areOpposed rfl rfl rfl (by decide +kernel) ⟨Nat.le_of_ble_eq_true rfl, Nat.le_of_ble_eq_true rfl⟩) hK hPc (va_recv hK hP (ci := 4) (q0 := 7) rfl rfl) rfl hl.1 rfl (Nat.le_of_ble_eq_true rfl) dX3_refusalToOffset_32 ⟨Nat.le_of_ble_eq_true rfl, Nat.le_of_ble_eq_true rfl⟩ ?_
      refine lv_if_eq (tgt := 55) hx hb dX3_refusalToOffset_35 (by decide) (fun q9 => ?_) (fun q9 => ?_)
      · have hf := wk_t hf q9
        refine va_gets (v := .ref (g 0 3)) hx hb (hT.1.1 3 (by decide)).1 hS hown (hts _ lk_X3_refusalToOffset_RX3_58) (fun _ h9 => h9) dX3_refusalToOffset_55 ?_
        have e0 := wke1 hf
        subst e0
        exact W.aret (v := .ref (g 0 3)) hx hb hr (Or.inl ⟨_, rfl⟩) (Or.inr ⟨_, rfl⟩) (fun t ht hW => ⟨some 3, rfl, rfl, ht⟩) (fun q h => absurd h List.not_mem_nil) dX3_refusalToOffset_58
      · have hf := wk_f hf q9
        refine lv_aload_n hx hb dX3_refusalToOffset_38 rfl (lv_at hl 0 rfl) ?_
        refine va_get (D := (dC, dI)) (ci := 5) (v := .ref (a 7)) (C := RX3) (T := TX3) (N := 6) hx hb hts in_X3_refusalToOffset_X3 hown hK hP 0 rfl rfl 1 (by decide) (hts _ lk_X3_refusalToOffset_RX3_21) (fun _ h9 => h9) rfl dX3_refusalToOffset_39 ?_
        refine lv_iconst (v := 1) hx hb dX3_refusalToOffset_42 (by decide) ?_
        obtain ⟨r10, hr11, hf⟩ := wkb1_s hf
        have hPc := hP.sub (ws' := (wX2 Y (fun k => a (k + 7)) B_accounts B_balances B_balancesAtClosing B_entries B_debited B_credited B_amounts)) [7, 8, 9, 10, 11, 12] rfl
        refine wk_vi (As := [.int 1]) (rest := []) ⟨hx, hb, hml, hown, hts⟩ (c_X2_hasRoomFor l dC dI Y (fun k => a (k + 7)) B_accounts B_balances B_balancesAtClosing B_entries B_debited B_credited B_amounts 1 r10 hr11) (cwV 1 hts gX3_refusalToOffset_X2_hasRoomFor rfl rfl rfl (by decide +kernel) ⟨Nat.le_of_ble_eq_true rfl, Nat.le_of_ble_eq_true rfl⟩) hK hPc (va_recv hK hP (ci := 4) (q0 := 7) rfl rfl) rfl hl.1 rfl (Nat.le_of_ble_eq_true rfl) dX3_refusalToOffset_43 ⟨Nat.le_of_ble_eq_true rfl, Nat.le_of_ble_eq_true rfl⟩ ?_
        refine lv_if_eq (tgt := 55) hx hb dX3_refusalToOffset_46 (by decide) (fun q12 => ?_) (fun q12 => ?_)
        · have hf := wk_t hf q12
          refine va_gets (v := .ref (g 0 3)) hx hb (hT.1.1 3 (by decide)).1 hS hown (hts _ lk_X3_refusalToOffset_RX3_58) (fun _ h9 => h9) dX3_refusalToOffset_55 ?_
          have e0 := wke1 hf
          subst e0
          exact W.aret (v := .ref (g 0 3)) hx hb hr (Or.inl ⟨_, rfl⟩) (Or.inr ⟨_, rfl⟩) (fun t ht hW => ⟨some 3, rfl, rfl, ht⟩) (fun q h => absurd h List.not_mem_nil) dX3_refusalToOffset_58
        · have hf := wk_f hf q12
          refine va_gets (v := .ref (g 0 0)) hx hb (hT.1.1 0 (by decide)).1 hS hown (hts _ lk_X3_refusalToOffset_RX3_61) (fun _ h9 => h9) dX3_refusalToOffset_49 ?_
          refine lv_goto (tgt := 58) hx hb dX3_refusalToOffset_52 (by decide) ?_
          have e0 := wke1 hf
          subst e0
          exact W.aret (v := .ref (g 0 0)) hx hb hr (Or.inl ⟨_, rfl⟩) (Or.inr ⟨_, rfl⟩) (fun t ht hW => ⟨some 0, rfl, rfl, ht⟩) (fun q h => absurd h List.not_mem_nil) dX3_refusalToOffset_58
    · have hf := wk_t hf q6
      refine va_gets (v := .ref (g 0 1)) hx hb (hT.1.1 1 (by decide)).1 hS hown (hts _ lk_X3_refusalToOffset_RX3_75) (fun _ h9 => h9) dX3_refusalToOffset_22 ?_
      have e0 := wke1 hf
      subst e0
      exact W.aret (v := .ref (g 0 1)) hx hb hr (Or.inl ⟨_, rfl⟩) (Or.inr ⟨_, rfl⟩) (fun t ht hW => ⟨some 1, rfl, rfl, ht⟩) (fun q h => absurd h List.not_mem_nil) dX3_refusalToOffset_25
