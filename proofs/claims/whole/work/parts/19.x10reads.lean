abbrev wX10n (Y : Nat → ClassId) (a : Nat → Nat) (L_hasSnapshot : Int32) (L_formError : Int32) (L_commandError : Int32) (T_count : Int32) (T_weights : Nat → Int32) (T_strengths : Nat → Int32) (T_heights : Nat → Int32) (T_wages : Nat → Int32) (T_nightsToHeal : Nat → Int32) (B_accounts : Int32) (B_balances : Nat → Int32) (B_balancesAtClosing : Nat → Int32) (B_entries : Int32) (B_debited : Nat → Int32) (B_credited : Nat → Int32) (B_amounts : Nat → Int32) (C_nights : Int32) (C_netWidth : Int32) (C_shows : Int32) (C_fallen : Int32) : va_W := [(a 0, .inr (10, [.ref (a 1), .ref (a 14), .ref (a 16), .int L_hasSnapshot, .ref (a 29), .ref (a 34), .int L_formError, .int L_commandError, .ref (a 38)])), (a 1, .inr (5, [.ref (a 2), .ref (a 8), .int C_nights, .int C_netWidth, .int C_shows, .int C_fallen])), (a 2, .inr (9, [.int T_count, .ref (a 3), .ref (a 4), .ref (a 5), .ref (a 6), .ref (a 7)])), (a 3, .inl (Y 0, 6, .inl T_weights)), (a 4, .inl (Y 0, 6, .inl T_strengths)), (a 5, .inl (Y 0, 6, .inl T_heights)), (a 6, .inl (Y 0, 6, .inl T_wages)), (a 7, .inl (Y 0, 6, .inl T_nightsToHeal)), (a 8, .inr (4, [.int B_accounts, .ref (a 9), .ref (a 10), .int B_entries, .ref (a 11), .ref (a 12), .ref (a 13)])), (a 9, .inl (Y 0, 11, .inl B_balances)), (a 10, .inl (Y 0, 11, .inl B_balancesAtClosing)), (a 11, .inl (Y 0, 60, .inl B_debited)), (a 12, .inl (Y 0, 60, .inl B_credited)), (a 13, .inl (Y 0, 60, .inl B_amounts))]
theorem lk_X2_meanOfPositive_RX2_9 : Cond.fieldLink RX2 9 "CircusLedger$Books" "accounts" "I" ∈ wsX2_meanOfPositive := by decide +kernel
theorem lk_X2_meanOfPositive_RX2_15 : Cond.fieldLink RX2 15 "CircusLedger$Books" "balances" "[I" ∈ wsX2_meanOfPositive := by decide +kernel
theorem mx_X2_meanOfPositive_RX2_46 : Cond.methodLink RX2 46 Lib.Math.max.name ∈ wsX2_meanOfPositive ∧ Cond.static Lib.Math.max.name ∈ wsX2_meanOfPositive ∧ Cond.initialized "java/lang/Math" ∈ wsX2_meanOfPositive ∧ Cond.code Lib.Math.max.name Lib.Math.max.code 2 (some .int) ∈ wsX2_meanOfPositive := ⟨by decide +kernel, by decide +kernel, by decide +kernel, by decide +kernel⟩
theorem in_X2_meanOfPositive_X2 : ∀ w ∈ u_ws RX2 TX2 7, w ∈ wsX2_meanOfPositive := by decide +kernel
def f_X2_meanOfPositive_L9 (B_accounts : Int32) (B_balances : Nat → Int32) : Nat → Int32 → Int32 → Int32 → Option (UInt64)
  | 0, _, _, _ => none
  | nn + 1, x1, x2, x3 =>
    if B_accounts ≤ x3 then
      (if x1 = 0 then
        (some (FP.dconst0))
      else
        (gok ((FP.ddiv (FP.i2d x2) (FP.i2d x1)) &&& 0x7fffffffffffffff ≤ 0x7ff0000000000000) (some ((FP.ddiv (FP.i2d x2) (FP.i2d x1))))))
    else
      (gin x3 11 (wkl ((x2 + (if (0 : Int32) < (B_balances x3.toNatClampNeg) then (B_balances x3.toNatClampNeg) else 0))) (fun v5 =>
      f_X2_meanOfPositive_L9 B_accounts B_balances nn x1 v5 (x3 + 1))))
def f_X2_meanOfPositive (B_accounts : Int32) (B_balances : Nat → Int32) : Option (UInt64) :=
  wkb1 (f_X2_positiveCount B_accounts B_balances) (fun r1 =>
  f_X2_meanOfPositive_L9 B_accounts B_balances FU r1 0 0)
set_option maxHeartbeats 4000000 in
set_option maxRecDepth 100000 in
theorem wl_X2_meanOfPositive_L9 {p : Program} {l : Launch} {e : Env} {s : State} {m : MethodId} {args : Array Value} {below : List Frame} {meth : Method} {c : Code} {dC : Nat → ClassId} {dI : Nat → Nat → Nat} {Y : Nat → ClassId} {a : Nat → Nat} {B_accounts : Int32} {B_balances : Nat → Int32} {B_balancesAtClosing : Nat → Int32} {B_entries : Int32} {B_debited : Nat → Int32} {B_credited : Nat → Int32} {B_amounts : Nat → Int32}  {r : UInt64}  (C0 : wk_C p s m args meth c cX2_meanOfPositive 4 (some .double) wsX2_meanOfPositive RX2) (hK : va_K (dC, dI) vwCl (vTy Y) s) (hP : va_P (dC, dI) vwCl (wX2 Y a B_accounts B_balances B_balancesAtClosing B_entries B_debited B_credited B_amounts) s.heap) : ∀ (nn : Nat) (x1 : Int32) (x2 : Int32) (x3 : Int32)  , f_X2_meanOfPositive_L9 B_accounts B_balances nn x1 x2 x3 = some (r) → ∀ (ls : Array Slot), lv_has ls 4 [(0, .ref (a 0)), (1, .int x1), (2, .int x2), (3, .int x3)] → W p l e (headSpec wsX2_meanOfPositive ({ frames := 1, cells := 0, slots := 0, locals := 22 } : Room)).room s m args below meth c s.heap [] 0 0 (MQ below (vp_Sd (fun r2 => r2 = r)) args s 0 0 (fun _ => False)) (F0 m 9 ls []) := by
  have C0 := C0
  obtain ⟨hx, hb, hml, hr, hlocks, hown, hts⟩ := id C0
  intro nn
  induction nn with
  | zero =>
    intro x1 x2 x3 hf
    rw [f_X2_meanOfPositive_L9] at hf
    cases hf
  | succ nn ih =>
    intro x1 x2 x3 hf ls hl
    rw [f_X2_meanOfPositive_L9] at hf
    have hP : va_P (dC, dI) vwCl [(a 0, .inr (4, [.int B_accounts, .ref (a 1), .ref (a 2), .int B_entries, .ref (a 3), .ref (a 4), .ref (a 5)])), (a 1, .inl (Y 0, 11, .inl B_balances)), (a 2, .inl (Y 0, 11, .inl B_balancesAtClosing)), (a 3, .inl (Y 0, 60, .inl B_debited)), (a 4, .inl (Y 0, 60, .inl B_credited)), (a 5, .inl (Y 0, 60, .inl B_amounts))] s.heap := hP
    refine lv_iload_n hx hb dX2_meanOfPositive_9 rfl (lv_at hl 3 rfl) ?_
    refine lv_aload_n hx hb dX2_meanOfPositive_10 rfl (lv_at hl 0 rfl) ?_
    refine va_get (D := (dC, dI)) (ci := 4) (v := .int B_accounts) (C := RX2) (T := TX2) (N := 7) hx hb hts in_X2_meanOfPositive_X2 hown hK hP 0 rfl rfl 0 (by decide) (hts _ lk_X2_meanOfPositive_RX2_9) (fun _ h9 => h9) rfl dX2_meanOfPositive_11 ?_
    refine lv_icmp_ge (tgt := 36) hx hb dX2_meanOfPositive_14 (by decide) (fun q1 => ?_) (fun q1 => ?_)
    · have hf := wk_t hf q1
      refine lv_iload_n hx hb dX2_meanOfPositive_36 rfl (lv_at hl 1 rfl) ?_
      refine lv_if_ne (tgt := 44) hx hb dX2_meanOfPositive_37 (by decide) (fun q2 => ?_) (fun q2 => ?_)
      · have hf := wk_f hf q2
        refine lv_iload_n hx hb dX2_meanOfPositive_44 rfl (lv_at hl 2 rfl) ?_
        refine lv_i2d hx hb dX2_meanOfPositive_45 ?_
        refine lv_iload_n hx hb dX2_meanOfPositive_46 rfl (lv_at hl 1 rfl) ?_
        refine lv_i2d hx hb dX2_meanOfPositive_47 ?_
        obtain ⟨h3, hf⟩ := gok_s hf
        refine lv_ddiv hx hb dX2_meanOfPositive_48 h3 ?_
        have e0 := wke1 hf
        subst e0
        exact W.dret (v := (FP.ddiv (FP.i2d x2) (FP.i2d x1))) hx hb hr (fun t ht hW => ⟨(FP.ddiv (FP.i2d x2) (FP.i2d x1)), rfl, rfl, ht⟩) (fun q h => absurd h List.not_mem_nil) dX2_meanOfPositive_49
      · have hf := wk_t hf q2
        refine lv_dconst0 hx hb dX2_meanOfPositive_40 ?_
        refine lv_goto (tgt := 49) hx hb dX2_meanOfPositive_41 (by decide) ?_
        have e0 := wke1 hf
        subst e0
        exact W.dret (v := FP.dconst0) hx hb hr (fun t ht hW => ⟨FP.dconst0, rfl, rfl, ht⟩) (fun q h => absurd h List.not_mem_nil) dX2_meanOfPositive_49
    · have hf := wk_f hf q1
      refine lv_iload_n hx hb dX2_meanOfPositive_17 rfl (lv_at hl 2 rfl) ?_
      refine lv_iconst (v := 0) hx hb dX2_meanOfPositive_18 (by decide) ?_
      refine lv_aload_n hx hb dX2_meanOfPositive_19 rfl (lv_at hl 0 rfl) ?_
      refine va_get (D := (dC, dI)) (ci := 4) (v := .ref (a 1)) (C := RX2) (T := TX2) (N := 7) hx hb hts in_X2_meanOfPositive_X2 hown hK hP 0 rfl rfl 1 (by decide) (hts _ lk_X2_meanOfPositive_RX2_15) (fun _ h9 => h9) rfl dX2_meanOfPositive_20 ?_
      refine lv_iload_n hx hb dX2_meanOfPositive_23 rfl (lv_at hl 3 rfl) ?_
      obtain ⟨h4, hf⟩ := gin_s hf
      refine wk_iald hx hb hK hP 1 0 rfl rfl h4 rfl dX2_meanOfPositive_24 ?_
      refine va_mmax hx hb (hml.trans hl.1.symm) hown (hts _ mx_X2_meanOfPositive_RX2_46.1) (hts _ mx_X2_meanOfPositive_RX2_46.2.1) (hts _ mx_X2_meanOfPositive_RX2_46.2.2.1) (hts _ mx_X2_meanOfPositive_RX2_46.2.2.2) (Nat.le_of_ble_eq_true rfl) (Nat.le_of_ble_eq_true rfl) (Nat.le_of_ble_eq_true rfl) (Nat.le_of_ble_eq_true rfl) dX2_meanOfPositive_25 ?_
      refine lv_iadd hx hb dX2_meanOfPositive_28 ?_
      refine lv_topi (fun v5 ev5 => ?_)
      have hf := wkl_s hf ev5
      refine lv_istore_n (lv' := [(2, .int v5), (0, .ref (a 0)), (1, .int x1), (3, .int x3)]) hx hb dX2_meanOfPositive_29 rfl hl (by decide) rfl (fun ls hl => ?_)
      refine lv_iinc (v := (x3 + 1)) (lv' := [(3, .int (x3 + 1)), (2, .int v5), (0, .ref (a 0)), (1, .int x1)]) hx hb dX2_meanOfPositive_30 hl (k := 3) rfl rfl (by decide) rfl (fun ls hl => ?_)
      refine lv_goto (tgt := 9) hx hb dX2_meanOfPositive_33 (by decide) ?_
      exact ih x1 v5 (x3 + 1) hf ls (lv_sub hl [2, 3, 1, 0] rfl)
set_option maxHeartbeats 4000000 in
set_option maxRecDepth 100000 in
theorem c_X2_meanOfPositive (l : Launch) (dC : Nat → ClassId) (dI : Nat → Nat → Nat) (Y : Nat → ClassId) (a : Nat → Nat) (B_accounts : Int32) (B_balances : Nat → Int32) (B_balancesAtClosing : Nat → Int32) (B_entries : Int32) (B_debited : Nat → Int32) (B_credited : Nat → Int32) (B_amounts : Nat → Int32)  (r : UInt64) (hf : f_X2_meanOfPositive B_accounts B_balances = some (r)) : Met l yX2_meanOfPositive wsX2_meanOfPositive ({ frames := 1, cells := 0, slots := 0, locals := 22 } : Room) (va_Pc [.ref (a 0)] (wk_B (dC, dI) Y (wX2 Y a B_accounts B_balances B_balancesAtClosing B_entries B_debited B_credited B_amounts))) (vp_Sd (fun r2 => r2 = r)) 0 0 (fun _ => False) := by
  refine Met.ofW (cc := cX2_meanOfPositive) (maxL := 4) (ret := (some .double)) (by decide) rfl ?_
  intro p e s m args below meth c s₁ B hml hv
  obtain ⟨rfl, hP, hK⟩ := hv
  have hx := B.exec
  have hb := B.bytes
  have hr := B.returns
  have hts := atoms_spec (ws := wsX2_meanOfPositive) B.pre
  have hown : s.vm.findClass RX2 = some m.cls := findClass_of_methodNamed B.named
  have hlocks := B.notSynchronized
  have C0 : wk_C p s m _ meth c cX2_meanOfPositive 4 (some .double) wsX2_meanOfPositive RX2 := ⟨hx, hb, hml, hr, hlocks, hown, hts⟩
  have hP : va_P (dC, dI) vwCl [(a 0, .inr (4, [.int B_accounts, .ref (a 1), .ref (a 2), .int B_entries, .ref (a 3), .ref (a 4), .ref (a 5)])), (a 1, .inl (Y 0, 11, .inl B_balances)), (a 2, .inl (Y 0, 11, .inl B_balancesAtClosing)), (a 3, .inl (Y 0, 60, .inl B_debited)), (a 4, .inl (Y 0, 60, .inl B_credited)), (a 5, .inl (Y 0, 60, .inl B_amounts))] s.heap := hP
  have hl := lv_entry ([.ref (a 0)]) (n := 4) (Nat.le_of_ble_eq_true rfl)
  rw [lg_entry_eq]
  generalize (lg_sl ([.ref (a 0)]) ++ List.replicate (4 - (lg_sl ([.ref (a 0)])).length) Slot.unset).toArray = ls at hl ⊢
  have hl : lv_has ls 4 [(0, .ref (a 0))] := hl
  rw [f_X2_meanOfPositive] at hf
  refine lv_aload_n hx hb dX2_meanOfPositive_0 rfl (lv_at hl 0 rfl) ?_
  obtain ⟨r1, hr2, hf⟩ := wkb1_s hf
  have hPc := hP.sub (ws' := (wX2 Y a B_accounts B_balances B_balancesAtClosing B_entries B_debited B_credited B_amounts)) [0, 1, 2, 3, 4, 5] rfl
  refine wk_vi (As := []) (rest := []) ⟨hx, hb, hml, hown, hts⟩ (c_X2_positiveCount l dC dI Y a B_accounts B_balances B_balancesAtClosing B_entries B_debited B_credited B_amounts r1 hr2) (cwV 0 hts gX2_meanOfPositive_X2_positiveCount rfl rfl rfl (by decide +kernel) ⟨Nat.le_of_ble_eq_true rfl, Nat.le_of_ble_eq_true rfl⟩) hK hPc (va_recv hK hP (ci := 4) (q0 := 0) rfl rfl) rfl hl.1 rfl (Nat.le_of_ble_eq_true rfl) dX2_meanOfPositive_1 ⟨Nat.le_of_ble_eq_true rfl, Nat.le_of_ble_eq_true rfl⟩ ?_
  refine lv_istore_n (lv' := [(1, .int r1), (0, .ref (a 0))]) hx hb dX2_meanOfPositive_4 rfl hl (by decide) rfl (fun ls hl => ?_)
  refine lv_iconst (v := 0) hx hb dX2_meanOfPositive_5 (by decide) ?_
  refine lv_istore_n (lv' := [(2, .int 0), (1, .int r1), (0, .ref (a 0))]) hx hb dX2_meanOfPositive_6 rfl hl (by decide) rfl (fun ls hl => ?_)
  refine lv_iconst (v := 0) hx hb dX2_meanOfPositive_7 (by decide) ?_
  refine lv_istore_n (lv' := [(3, .int 0), (2, .int 0), (1, .int r1), (0, .ref (a 0))]) hx hb dX2_meanOfPositive_8 rfl hl (by decide) rfl (fun ls hl => ?_)
  exact wl_X2_meanOfPositive_L9 C0 hK hP FU r1 0 0 hf ls (lv_sub hl [3, 2, 1, 0] rfl)
theorem tw_X10_throwFor_415 : Cond.classLink RX10 415 "java/lang/UnsupportedOperationException" ∈ wsX10_throwFor ∧ Cond.initialized "java/lang/UnsupportedOperationException" ∈ wsX10_throwFor ∧ ∀ w ∈ (vx_atS RX10 419 "java/lang/UnsupportedOperationException" ["java/lang/RuntimeException", "java/lang/Exception"]).filter goodWord, w ∈ wsX10_throwFor := ⟨by decide +kernel, by decide +kernel, by decide +kernel⟩
theorem tw_X10_throwFor_308 : Cond.classLink RX10 308 "java/lang/IllegalStateException" ∈ wsX10_throwFor ∧ Cond.initialized "java/lang/IllegalStateException" ∈ wsX10_throwFor ∧ ∀ w ∈ (vx_atS RX10 312 "java/lang/IllegalStateException" ["java/lang/RuntimeException", "java/lang/Exception"]).filter goodWord, w ∈ wsX10_throwFor := ⟨by decide +kernel, by decide +kernel, by decide +kernel⟩
theorem tw_X10_throwFor_302 : Cond.classLink RX10 302 "java/lang/IllegalArgumentException" ∈ wsX10_throwFor ∧ Cond.initialized "java/lang/IllegalArgumentException" ∈ wsX10_throwFor ∧ ∀ w ∈ (vx_atS RX10 306 "java/lang/IllegalArgumentException" ["java/lang/RuntimeException", "java/lang/Exception"]).filter goodWord, w ∈ wsX10_throwFor := ⟨by decide +kernel, by decide +kernel, by decide +kernel⟩
theorem tw_X10_throwFor_293 : Cond.classLink RX10 293 "java/lang/IndexOutOfBoundsException" ∈ wsX10_throwFor ∧ Cond.initialized "java/lang/IndexOutOfBoundsException" ∈ wsX10_throwFor ∧ ∀ w ∈ (vx_atS RX10 297 "java/lang/IndexOutOfBoundsException" ["java/lang/RuntimeException", "java/lang/Exception"]).filter goodWord, w ∈ wsX10_throwFor := ⟨by decide +kernel, by decide +kernel, by decide +kernel⟩
theorem lk_X10_throwFor_RX10_397 : Cond.fieldLink RX10 397 "CircusLedger$Refusal" "INDEX" "LCircusLedger$Refusal;" ∈ wsX10_throwFor := by decide +kernel
theorem lk_X10_throwFor_RX10_402 : Cond.fieldLink RX10 402 "CircusLedger$Refusal" "ARGUMENT" "LCircusLedger$Refusal;" ∈ wsX10_throwFor := by decide +kernel
theorem lk_X10_throwFor_RX10_407 : Cond.fieldLink RX10 407 "CircusLedger$Refusal" "STATE" "LCircusLedger$Refusal;" ∈ wsX10_throwFor := by decide +kernel
theorem lk_X10_throwFor_RX10_412 : Cond.fieldLink RX10 412 "CircusLedger$Refusal" "UNSUPPORTED" "LCircusLedger$Refusal;" ∈ wsX10_throwFor := by decide +kernel
def f_X10_throwFor (x0 : Nat) : Option ((Unit) ⊕ String) :=
  gok (x0 < 5 ∧ 1 < 5) (if x0 = 1 then
    (some (.inr "java/lang/IndexOutOfBoundsException"))
  else
    (gok (x0 < 5 ∧ 2 < 5) (if x0 = 2 then
      (some (.inr "java/lang/IllegalArgumentException"))
    else
      (gok (x0 < 5 ∧ 3 < 5) (if x0 = 3 then
        (some (.inr "java/lang/IllegalStateException"))
      else
        (gok (x0 < 5 ∧ 4 < 5) (if x0 = 4 then
          (some (.inr "java/lang/UnsupportedOperationException"))
        else
          (some (.inl ())))))))))
set_option maxHeartbeats 4000000 in
set_option maxRecDepth 100000 in
theorem c_X10_throwFor (l : Launch) (hl0 : l.stackTraces = false) (dC : Nat → ClassId) (dI : Nat → Nat → Nat) (Y : Nat → ClassId) (g : Nat → Nat → Nat)   (x0 : Nat) (out : Unit ⊕ String) (hf : f_X10_throwFor x0 = some out) : vx_Met l yX10_throwFor wsX10_throwFor ({ frames := 8, cells := 1, slots := 6, locals := 120 } : Room) (va_Pc [.ref (g 0 x0)] (wk_BT (dC, dI) Y g ([] : va_W))) (wxQv out) (wxX out) 1 6 (fun _ => False) := by
  refine vx_ofW (cc := cX10_throwFor) (maxL := 1) (ret := none) (by decide) rfl ?_
  intro p e s m args below meth c s₁ B hml htab hv
  obtain ⟨rfl, ⟨hP, hK⟩, hT⟩ := hv
  have hx := B.exec
  have hb := B.bytes
  have hr := B.returns
  have hts := atoms_spec (ws := wsX10_throwFor) B.pre
  have hown : s.vm.findClass RX10 = some m.cls := findClass_of_methodNamed B.named
  have hlocks := B.notSynchronized
  have C0 : wk_C p s m _ meth c cX10_throwFor 1 none wsX10_throwFor RX10 := ⟨hx, hb, hml, hr, hlocks, hown, hts⟩
  have hP : va_P (dC, dI) vwCl [] s.heap := hP
  have hS : va_S (fun _ : Nat => False) s.heap s.heap [] := va_S.rf
  have hl := lv_entry ([.ref (g 0 x0)]) (n := 1) (Nat.le_of_ble_eq_true rfl)
  rw [lg_entry_eq]
  generalize (lg_sl ([.ref (g 0 x0)]) ++ List.replicate (1 - (lg_sl ([.ref (g 0 x0)])).length) Slot.unset).toArray = ls at hl ⊢
  have hl : lv_has ls 1 [(0, .ref (g 0 x0))] := hl
  rw [f_X10_throwFor] at hf
  refine lv_aload_n hx hb dX10_throwFor_0 rfl (lv_at hl 0 rfl) ?_
  refine va_gets (v := .ref (g 0 1)) hx hb (hT.1.1 1 (by decide)).1 hS hown (hts _ lk_X10_throwFor_RX10_397) (fun _ h9 => h9) dX10_throwFor_1 ?_
  obtain ⟨h1, hf⟩ := gok_s hf
  refine lv_acmp_ne (rx := some (g 0 x0)) (ry := some (g 0 1)) (tgt := 18) hx hb dX10_throwFor_4 (by decide) (fun q2 => ?_) (fun q2 => ?_)
  · have q2 : ¬ x0 = 1 := fun e9 => q2 (by rw [e9])
    have hf := wk_f hf q2
    refine lv_aload_n hx hb dX10_throwFor_18 rfl (lv_at hl 0 rfl) ?_
    refine va_gets (v := .ref (g 0 2)) hx hb (hT.1.1 2 (by decide)).1 hS hown (hts _ lk_X10_throwFor_RX10_402) (fun _ h9 => h9) dX10_throwFor_19 ?_
    obtain ⟨h3, hf⟩ := gok_s hf
    refine lv_acmp_ne (rx := some (g 0 x0)) (ry := some (g 0 2)) (tgt := 36) hx hb dX10_throwFor_22 (by decide) (fun q4 => ?_) (fun q4 => ?_)
    · have q4 : ¬ x0 = 2 := fun e9 => q4 (by rw [e9])
      have hf := wk_f hf q4
      refine lv_aload_n hx hb dX10_throwFor_36 rfl (lv_at hl 0 rfl) ?_
      refine va_gets (v := .ref (g 0 3)) hx hb (hT.1.1 3 (by decide)).1 hS hown (hts _ lk_X10_throwFor_RX10_407) (fun _ h9 => h9) dX10_throwFor_37 ?_
      obtain ⟨h5, hf⟩ := gok_s hf
      refine lv_acmp_ne (rx := some (g 0 x0)) (ry := some (g 0 3)) (tgt := 54) hx hb dX10_throwFor_40 (by decide) (fun q6 => ?_) (fun q6 => ?_)
      · have q6 : ¬ x0 = 3 := fun e9 => q6 (by rw [e9])
        have hf := wk_f hf q6
        refine lv_aload_n hx hb dX10_throwFor_54 rfl (lv_at hl 0 rfl) ?_
        refine va_gets (v := .ref (g 0 4)) hx hb (hT.1.1 4 (by decide)).1 hS hown (hts _ lk_X10_throwFor_RX10_412) (fun _ h9 => h9) dX10_throwFor_55 ?_
        obtain ⟨h7, hf⟩ := gok_s hf
        refine lv_acmp_ne (rx := some (g 0 x0)) (ry := some (g 0 4)) (tgt := 72) hx hb dX10_throwFor_58 (by decide) (fun q8 => ?_) (fun q8 => ?_)
        · have q8 : ¬ x0 = 4 := fun e9 => q8 (by rw [e9])
          have hf := wk_f hf q8
          have e0 := wke1 hf
          subst e0
          refine W.widen (k := 1) (n := 6) (Nat.le_of_ble_eq_true rfl) (Nat.le_of_ble_eq_true rfl) ?_
          refine vx_ret ?_
          exact W.vret hx hb hr (fun t ht hW => ⟨rfl, rfl, ht⟩) (fun q h => absurd h List.not_mem_nil) dX10_throwFor_72
        · have q8 := hT.1.2 _ _ h7.1 h7.2 (Option.some.inj q8)
          have hf := wk_t hf q8
          have e0 := wke1 hf
          subst e0
          refine vx_throwSW (rest := []) (names := ["java/lang/RuntimeException", "java/lang/Exception"]) (text := "the circus cannot do this now") (sa := g 5 18) (A := (fun _ => False)) hx hb hl0 hown (by decide) (by decide) (hts _ tw_X10_throwFor_415.1) (hts _ tw_X10_throwFor_415.2.1) ((wk_T.thr hT).2.2.1 18 (by decide)) (vx_hat (B := wk_tb "java/lang/UnsupportedOperationException") (fun w h => hts w (tw_X10_throwFor_415.2.2 w h)) (by decide +kernel) (wk_tbp hT 4 (by decide) rfl)) (by decide +kernel) (wk_T.thr hT).1 (wk_T.thr hT).2.1 hS (hl.1.trans hml.symm) dX10_throwFor_61 dX10_throwFor_64 dX10_throwFor_65 dX10_throwFor_68 dX10_throwFor_71 (fun x h => (htab x h).elim) (Nat.le_of_ble_eq_true rfl) (Nat.le_of_ble_eq_true rfl) (Nat.le_of_ble_eq_true rfl) (Nat.le_of_ble_eq_true rfl) hlocks (fun t hvm hz hq => ⟨rfl, hz, hq⟩) (fun q h => absurd h List.not_mem_nil) (Nat.le_of_ble_eq_true rfl) (Nat.le_of_ble_eq_true rfl)
      · have q6 := hT.1.2 _ _ h5.1 h5.2 (Option.some.inj q6)
        have hf := wk_t hf q6
        have e0 := wke1 hf
        subst e0
        refine vx_throwSW (rest := []) (names := ["java/lang/RuntimeException", "java/lang/Exception"]) (text := "the state does not allow this change") (sa := g 5 17) (A := (fun _ => False)) hx hb hl0 hown (by decide) (by decide) (hts _ tw_X10_throwFor_308.1) (hts _ tw_X10_throwFor_308.2.1) ((wk_T.thr hT).2.2.1 17 (by decide)) (vx_hat (B := wk_tb "java/lang/IllegalStateException") (fun w h => hts w (tw_X10_throwFor_308.2.2 w h)) (by decide +kernel) (wk_tbp hT 2 (by decide) rfl)) (by decide +kernel) (wk_T.thr hT).1 (wk_T.thr hT).2.1 hS (hl.1.trans hml.symm) dX10_throwFor_43 dX10_throwFor_46 dX10_throwFor_47 dX10_throwFor_50 dX10_throwFor_53 (fun x h => (htab x h).elim) (Nat.le_of_ble_eq_true rfl) (Nat.le_of_ble_eq_true rfl) (Nat.le_of_ble_eq_true rfl) (Nat.le_of_ble_eq_true rfl) hlocks (fun t hvm hz hq => ⟨rfl, hz, hq⟩) (fun q h => absurd h List.not_mem_nil) (Nat.le_of_ble_eq_true rfl) (Nat.le_of_ble_eq_true rfl)
    · have q4 := hT.1.2 _ _ h3.1 h3.2 (Option.some.inj q4)
      have hf := wk_t hf q4
      have e0 := wke1 hf
      subst e0
      refine vx_throwSW (rest := []) (names := ["java/lang/RuntimeException", "java/lang/Exception"]) (text := "an argument is not allowed") (sa := g 5 16) (A := (fun _ => False)) hx hb hl0 hown (by decide) (by decide) (hts _ tw_X10_throwFor_302.1) (hts _ tw_X10_throwFor_302.2.1) ((wk_T.thr hT).2.2.1 16 (by decide)) (vx_hat (B := wk_tb "java/lang/IllegalArgumentException") (fun w h => hts w (tw_X10_throwFor_302.2.2 w h)) (by decide +kernel) (wk_tbp hT 1 (by decide) rfl)) (by decide +kernel) (wk_T.thr hT).1 (wk_T.thr hT).2.1 hS (hl.1.trans hml.symm) dX10_throwFor_25 dX10_throwFor_28 dX10_throwFor_29 dX10_throwFor_32 dX10_throwFor_35 (fun x h => (htab x h).elim) (Nat.le_of_ble_eq_true rfl) (Nat.le_of_ble_eq_true rfl) (Nat.le_of_ble_eq_true rfl) (Nat.le_of_ble_eq_true rfl) hlocks (fun t hvm hz hq => ⟨rfl, hz, hq⟩) (fun q h => absurd h List.not_mem_nil) (Nat.le_of_ble_eq_true rfl) (Nat.le_of_ble_eq_true rfl)
  · have q2 := hT.1.2 _ _ h1.1 h1.2 (Option.some.inj q2)
    have hf := wk_t hf q2
    have e0 := wke1 hf
    subst e0
    refine vx_throwSW (rest := []) (names := ["java/lang/RuntimeException", "java/lang/Exception"]) (text := "there is no such acrobat or account") (sa := g 5 15) (A := (fun _ => False)) hx hb hl0 hown (by decide) (by decide) (hts _ tw_X10_throwFor_293.1) (hts _ tw_X10_throwFor_293.2.1) ((wk_T.thr hT).2.2.1 15 (by decide)) (vx_hat (B := wk_tb "java/lang/IndexOutOfBoundsException") (fun w h => hts w (tw_X10_throwFor_293.2.2 w h)) (by decide +kernel) (wk_tbp hT 0 (by decide) rfl)) (by decide +kernel) (wk_T.thr hT).1 (wk_T.thr hT).2.1 hS (hl.1.trans hml.symm) dX10_throwFor_7 dX10_throwFor_10 dX10_throwFor_11 dX10_throwFor_14 dX10_throwFor_17 (fun x h => (htab x h).elim) (Nat.le_of_ble_eq_true rfl) (Nat.le_of_ble_eq_true rfl) (Nat.le_of_ble_eq_true rfl) (Nat.le_of_ble_eq_true rfl) hlocks (fun t hvm hz hq => ⟨rfl, hz, hq⟩) (fun q h => absurd h List.not_mem_nil) (Nat.le_of_ble_eq_true rfl) (Nat.le_of_ble_eq_true rfl)
theorem tw_X10_requireAcrobat_293 : Cond.classLink RX10 293 "java/lang/IndexOutOfBoundsException" ∈ wsX10_requireAcrobat ∧ Cond.initialized "java/lang/IndexOutOfBoundsException" ∈ wsX10_requireAcrobat ∧ ∀ w ∈ (vx_atS RX10 297 "java/lang/IndexOutOfBoundsException" ["java/lang/RuntimeException", "java/lang/Exception"]).filter goodWord, w ∈ wsX10_requireAcrobat := ⟨by decide +kernel, by decide +kernel, by decide +kernel⟩
theorem lk_X10_requireAcrobat_RX10_12 : Cond.fieldLink RX10 12 "CircusLedger" "now" "LCircusLedger$Circus;" ∈ wsX10_requireAcrobat := by decide +kernel
theorem lk_X10_requireAcrobat_RX10_122 : Cond.fieldLink RX10 122 "CircusLedger$Circus" "troupe" "LCircusLedger$Troupe;" ∈ wsX10_requireAcrobat := by decide +kernel
theorem in_X10_requireAcrobat_X10 : ∀ w ∈ u_ws RX10 TX10 9, w ∈ wsX10_requireAcrobat := by decide +kernel
theorem in_X10_requireAcrobat_X3 : ∀ w ∈ u_ws RX3 TX3 6, w ∈ wsX10_requireAcrobat := by decide +kernel
def f_X10_requireAcrobat (T_count : Int32) (x1 : Int32) : Option ((Unit) ⊕ String) :=
  wkb1 (f_X9_has T_count x1) (fun r1 =>
  if r1 = 0 then
    (some (.inr "java/lang/IndexOutOfBoundsException"))
  else
    (some (.inl ())))
set_option maxHeartbeats 4000000 in
set_option maxRecDepth 100000 in
theorem c_X10_requireAcrobat (l : Launch) (hl0 : l.stackTraces = false) (dC : Nat → ClassId) (dI : Nat → Nat → Nat) (Y : Nat → ClassId) (g : Nat → Nat → Nat) (a : Nat → Nat) (L_hasSnapshot : Int32) (L_formError : Int32) (L_commandError : Int32) (T_count : Int32) (T_weights : Nat → Int32) (T_strengths : Nat → Int32) (T_heights : Nat → Int32) (T_wages : Nat → Int32) (T_nightsToHeal : Nat → Int32) (B_accounts : Int32) (B_balances : Nat → Int32) (B_balancesAtClosing : Nat → Int32) (B_entries : Int32) (B_debited : Nat → Int32) (B_credited : Nat → Int32) (B_amounts : Nat → Int32) (C_nights : Int32) (C_netWidth : Int32) (C_shows : Int32) (C_fallen : Int32) (x1 : Int32) (out : Unit ⊕ String) (hf : f_X10_requireAcrobat T_count x1 = some out) : vx_Met l yX10_requireAcrobat wsX10_requireAcrobat ({ frames := 8, cells := 1, slots := 6, locals := 120 } : Room) (va_Pc [.ref (a 0), .int x1] (wk_BT (dC, dI) Y g (wX10n Y a L_hasSnapshot L_formError L_commandError T_count T_weights T_strengths T_heights T_wages T_nightsToHeal B_accounts B_balances B_balancesAtClosing B_entries B_debited B_credited B_amounts C_nights C_netWidth C_shows C_fallen))) (wxQv out) (wxX out) 1 6 (fun _ => False) := by
  refine vx_ofW (cc := cX10_requireAcrobat) (maxL := 2) (ret := none) (by decide) rfl ?_
  intro p e s m args below meth c s₁ B hml htab hv
  obtain ⟨rfl, ⟨hP, hK⟩, hT⟩ := hv
  have hx := B.exec
  have hb := B.bytes
  have hr := B.returns
  have hts := atoms_spec (ws := wsX10_requireAcrobat) B.pre
  have hown : s.vm.findClass RX10 = some m.cls := findClass_of_methodNamed B.named
  have hlocks := B.notSynchronized
  have C0 : wk_C p s m _ meth c cX10_requireAcrobat 2 none wsX10_requireAcrobat RX10 := ⟨hx, hb, hml, hr, hlocks, hown, hts⟩
  have hP : va_P (dC, dI) vwCl [(a 0, .inr (10, [.ref (a 1), .ref (a 14), .ref (a 16), .int L_hasSnapshot, .ref (a 29), .ref (a 34), .int L_formError, .int L_commandError, .ref (a 38)])), (a 1, .inr (5, [.ref (a 2), .ref (a 8), .int C_nights, .int C_netWidth, .int C_shows, .int C_fallen])), (a 2, .inr (9, [.int T_count, .ref (a 3), .ref (a 4), .ref (a 5), .ref (a 6), .ref (a 7)])), (a 3, .inl (Y 0, 6, .inl T_weights)), (a 4, .inl (Y 0, 6, .inl T_strengths)), (a 5, .inl (Y 0, 6, .inl T_heights)), (a 6, .inl (Y 0, 6, .inl T_wages)), (a 7, .inl (Y 0, 6, .inl T_nightsToHeal)), (a 8, .inr (4, [.int B_accounts, .ref (a 9), .ref (a 10), .int B_entries, .ref (a 11), .ref (a 12), .ref (a 13)])), (a 9, .inl (Y 0, 11, .inl B_balances)), (a 10, .inl (Y 0, 11, .inl B_balancesAtClosing)), (a 11, .inl (Y 0, 60, .inl B_debited)), (a 12, .inl (Y 0, 60, .inl B_credited)), (a 13, .inl (Y 0, 60, .inl B_amounts))] s.heap := hP
  have hS : va_S (fun _ : Nat => False) s.heap s.heap [] := va_S.rf
  have hl := lv_entry ([.ref (a 0), .int x1]) (n := 2) (Nat.le_of_ble_eq_true rfl)
  rw [lg_entry_eq]
  generalize (lg_sl ([.ref (a 0), .int x1]) ++ List.replicate (2 - (lg_sl ([.ref (a 0), .int x1])).length) Slot.unset).toArray = ls at hl ⊢
  have hl : lv_has ls 2 [(0, .ref (a 0)), (1, .int x1)] := hl
  rw [f_X10_requireAcrobat] at hf
  refine lv_aload_n hx hb dX10_requireAcrobat_0 rfl (lv_at hl 0 rfl) ?_
  refine va_get (D := (dC, dI)) (ci := 10) (v := .ref (a 1)) (C := RX10) (T := TX10) (N := 9) hx hb hts in_X10_requireAcrobat_X10 hown hK hP 0 rfl rfl 0 (by decide) (hts _ lk_X10_requireAcrobat_RX10_12) (fun _ h9 => h9) rfl dX10_requireAcrobat_1 ?_
  refine va_get (D := (dC, dI)) (ci := 5) (v := .ref (a 2)) (C := RX3) (T := TX3) (N := 6) hx hb hts in_X10_requireAcrobat_X3 hown hK hP 1 rfl rfl 0 (by decide) (hts _ lk_X10_requireAcrobat_RX10_122) (fun _ h9 => h9) rfl dX10_requireAcrobat_4 ?_
  refine lv_iload_n hx hb dX10_requireAcrobat_7 rfl (lv_at hl 1 rfl) ?_
  obtain ⟨r1, hr2, hf⟩ := wkb1_s hf
  have hPc := hP.sub (ws' := (wX9 Y (fun k => a (k + 2)) T_count T_weights T_strengths T_heights T_wages T_nightsToHeal)) [2, 3, 4, 5, 6, 7] rfl
  refine wk_vi (As := [.int x1]) (rest := []) ⟨hx, hb, hml, hown, hts⟩ (c_X9_has l dC dI Y (fun k => a (k + 2)) T_count T_weights T_strengths T_heights T_wages T_nightsToHeal x1 r1 hr2) (cwV 1 hts gX10_requireAcrobat_X9_has rfl rfl rfl (by decide +kernel) ⟨Nat.le_of_ble_eq_true rfl, Nat.le_of_ble_eq_true rfl⟩) hK hPc (va_recv hK hP (ci := 9) (q0 := 2) rfl rfl) rfl hl.1 rfl (Nat.le_of_ble_eq_true rfl) dX10_requireAcrobat_8 ⟨Nat.le_of_ble_eq_true rfl, Nat.le_of_ble_eq_true rfl⟩ ?_
  refine lv_if_ne (tgt := 25) hx hb dX10_requireAcrobat_11 (by decide) (fun q3 => ?_) (fun q3 => ?_)
  · have hf := wk_f hf q3
    have e0 := wke1 hf
    subst e0
    refine W.widen (k := 1) (n := 6) (Nat.le_of_ble_eq_true rfl) (Nat.le_of_ble_eq_true rfl) ?_
    refine vx_ret ?_
    exact W.vret hx hb hr (fun t ht hW => ⟨rfl, rfl, ht⟩) (fun q h => absurd h List.not_mem_nil) dX10_requireAcrobat_25
  · have hf := wk_t hf q3
    have e0 := wke1 hf
    subst e0
    refine vx_throwSW (rest := []) (names := ["java/lang/RuntimeException", "java/lang/Exception"]) (text := "there is no such acrobat") (sa := g 5 8) (A := (fun _ => False)) hx hb hl0 hown (by decide) (by decide) (hts _ tw_X10_requireAcrobat_293.1) (hts _ tw_X10_requireAcrobat_293.2.1) ((wk_T.thr hT).2.2.1 8 (by decide)) (vx_hat (B := wk_tb "java/lang/IndexOutOfBoundsException") (fun w h => hts w (tw_X10_requireAcrobat_293.2.2 w h)) (by decide +kernel) (wk_tbp hT 0 (by decide) rfl)) (by decide +kernel) (wk_T.thr hT).1 (wk_T.thr hT).2.1 hS (hl.1.trans hml.symm) dX10_requireAcrobat_14 dX10_requireAcrobat_17 dX10_requireAcrobat_18 dX10_requireAcrobat_21 dX10_requireAcrobat_24 (fun x h => (htab x h).elim) (Nat.le_of_ble_eq_true rfl) (Nat.le_of_ble_eq_true rfl) (Nat.le_of_ble_eq_true rfl) (Nat.le_of_ble_eq_true rfl) hlocks (fun t hvm hz hq => ⟨rfl, hz, hq⟩) (fun q h => absurd h List.not_mem_nil) (Nat.le_of_ble_eq_true rfl) (Nat.le_of_ble_eq_true rfl)
theorem tw_X10_requireSet_302 : Cond.classLink RX10 302 "java/lang/IllegalArgumentException" ∈ wsX10_requireSet ∧ Cond.initialized "java/lang/IllegalArgumentException" ∈ wsX10_requireSet ∧ ∀ w ∈ (vx_atS RX10 306 "java/lang/IllegalArgumentException" ["java/lang/RuntimeException", "java/lang/Exception"]).filter goodWord, w ∈ wsX10_requireSet := ⟨by decide +kernel, by decide +kernel, by decide +kernel⟩
theorem lk_X10_requireSet_RX10_12 : Cond.fieldLink RX10 12 "CircusLedger" "now" "LCircusLedger$Circus;" ∈ wsX10_requireSet := by decide +kernel
theorem lk_X10_requireSet_RX10_122 : Cond.fieldLink RX10 122 "CircusLedger$Circus" "troupe" "LCircusLedger$Troupe;" ∈ wsX10_requireSet := by decide +kernel
theorem in_X10_requireSet_X10 : ∀ w ∈ u_ws RX10 TX10 9, w ∈ wsX10_requireSet := by decide +kernel
theorem in_X10_requireSet_X3 : ∀ w ∈ u_ws RX3 TX3 6, w ∈ wsX10_requireSet := by decide +kernel
def f_X10_requireSet (T_count : Int32) (x1 : Int32) : Option ((Unit) ⊕ String) :=
  wkb1 (f_X9_isSet T_count x1) (fun r1 =>
  if r1 = 0 then
    (some (.inr "java/lang/IllegalArgumentException"))
  else
    (some (.inl ())))
set_option maxHeartbeats 4000000 in
set_option maxRecDepth 100000 in
theorem c_X10_requireSet (l : Launch) (hl0 : l.stackTraces = false) (dC : Nat → ClassId) (dI : Nat → Nat → Nat) (Y : Nat → ClassId) (g : Nat → Nat → Nat) (a : Nat → Nat) (L_hasSnapshot : Int32) (L_formError : Int32) (L_commandError : Int32) (T_count : Int32) (T_weights : Nat → Int32) (T_strengths : Nat → Int32) (T_heights : Nat → Int32) (T_wages : Nat → Int32) (T_nightsToHeal : Nat → Int32) (B_accounts : Int32) (B_balances : Nat → Int32) (B_balancesAtClosing : Nat → Int32) (B_entries : Int32) (B_debited : Nat → Int32) (B_credited : Nat → Int32) (B_amounts : Nat → Int32) (C_nights : Int32) (C_netWidth : Int32) (C_shows : Int32) (C_fallen : Int32) (x1 : Int32) (out : Unit ⊕ String) (hf : f_X10_requireSet T_count x1 = some out) : vx_Met l yX10_requireSet wsX10_requireSet ({ frames := 8, cells := 1, slots := 6, locals := 120 } : Room) (va_Pc [.ref (a 0), .int x1] (wk_BT (dC, dI) Y g (wX10n Y a L_hasSnapshot L_formError L_commandError T_count T_weights T_strengths T_heights T_wages T_nightsToHeal B_accounts B_balances B_balancesAtClosing B_entries B_debited B_credited B_amounts C_nights C_netWidth C_shows C_fallen))) (wxQv out) (wxX out) 1 6 (fun _ => False) := by
  refine vx_ofW (cc := cX10_requireSet) (maxL := 2) (ret := none) (by decide) rfl ?_
  intro p e s m args below meth c s₁ B hml htab hv
  obtain ⟨rfl, ⟨hP, hK⟩, hT⟩ := hv
  have hx := B.exec
  have hb := B.bytes
  have hr := B.returns
  have hts := atoms_spec (ws := wsX10_requireSet) B.pre
  have hown : s.vm.findClass RX10 = some m.cls := findClass_of_methodNamed B.named
  have hlocks := B.notSynchronized
  have C0 : wk_C p s m _ meth c cX10_requireSet 2 none wsX10_requireSet RX10 := ⟨hx, hb, hml, hr, hlocks, hown, hts⟩
  have hP : va_P (dC, dI) vwCl [(a 0, .inr (10, [.ref (a 1), .ref (a 14), .ref (a 16), .int L_hasSnapshot, .ref (a 29), .ref (a 34), .int L_formError, .int L_commandError, .ref (a 38)])), (a 1, .inr (5, [.ref (a 2), .ref (a 8), .int C_nights, .int C_netWidth, .int C_shows, .int C_fallen])), (a 2, .inr (9, [.int T_count, .ref (a 3), .ref (a 4), .ref (a 5), .ref (a 6), .ref (a 7)])), (a 3, .inl (Y 0, 6, .inl T_weights)), (a 4, .inl (Y 0, 6, .inl T_strengths)), (a 5, .inl (Y 0, 6, .inl T_heights)), (a 6, .inl (Y 0, 6, .inl T_wages)), (a 7, .inl (Y 0, 6, .inl T_nightsToHeal)), (a 8, .inr (4, [.int B_accounts, .ref (a 9), .ref (a 10), .int B_entries, .ref (a 11), .ref (a 12), .ref (a 13)])), (a 9, .inl (Y 0, 11, .inl B_balances)), (a 10, .inl (Y 0, 11, .inl B_balancesAtClosing)), (a 11, .inl (Y 0, 60, .inl B_debited)), (a 12, .inl (Y 0, 60, .inl B_credited)), (a 13, .inl (Y 0, 60, .inl B_amounts))] s.heap := hP
  have hS : va_S (fun _ : Nat => False) s.heap s.heap [] := va_S.rf
  have hl := lv_entry ([.ref (a 0), .int x1]) (n := 2) (Nat.le_of_ble_eq_true rfl)
  rw [lg_entry_eq]
  generalize (lg_sl ([.ref (a 0), .int x1]) ++ List.replicate (2 - (lg_sl ([.ref (a 0), .int x1])).length) Slot.unset).toArray = ls at hl ⊢
  have hl : lv_has ls 2 [(0, .ref (a 0)), (1, .int x1)] := hl
  rw [f_X10_requireSet] at hf
  refine lv_aload_n hx hb dX10_requireSet_0 rfl (lv_at hl 0 rfl) ?_
  refine va_get (D := (dC, dI)) (ci := 10) (v := .ref (a 1)) (C := RX10) (T := TX10) (N := 9) hx hb hts in_X10_requireSet_X10 hown hK hP 0 rfl rfl 0 (by decide) (hts _ lk_X10_requireSet_RX10_12) (fun _ h9 => h9) rfl dX10_requireSet_1 ?_
  refine va_get (D := (dC, dI)) (ci := 5) (v := .ref (a 2)) (C := RX3) (T := TX3) (N := 6) hx hb hts in_X10_requireSet_X3 hown hK hP 1 rfl rfl 0 (by decide) (hts _ lk_X10_requireSet_RX10_122) (fun _ h9 => h9) rfl dX10_requireSet_4 ?_
  refine lv_iload_n hx hb dX10_requireSet_7 rfl (lv_at hl 1 rfl) ?_
  obtain ⟨r1, hr2, hf⟩ := wkb1_s hf
  have hPc := hP.sub (ws' := (wX9 Y (fun k => a (k + 2)) T_count T_weights T_strengths T_heights T_wages T_nightsToHeal)) [2, 3, 4, 5, 6, 7] rfl
  refine wk_vi (As := [.int x1]) (rest := []) ⟨hx, hb, hml, hown, hts⟩ (c_X9_isSet l dC dI Y (fun k => a (k + 2)) T_count T_weights T_strengths T_heights T_wages T_nightsToHeal x1 r1 hr2) (cwV 1 hts gX10_requireSet_X9_isSet rfl rfl rfl (by decide +kernel) ⟨Nat.le_of_ble_eq_true rfl, Nat.le_of_ble_eq_true rfl⟩) hK hPc (va_recv hK hP (ci := 9) (q0 := 2) rfl rfl) rfl hl.1 rfl (Nat.le_of_ble_eq_true rfl) dX10_requireSet_8 ⟨Nat.le_of_ble_eq_true rfl, Nat.le_of_ble_eq_true rfl⟩ ?_
  refine lv_if_ne (tgt := 25) hx hb dX10_requireSet_11 (by decide) (fun q3 => ?_) (fun q3 => ?_)
  · have hf := wk_f hf q3
    have e0 := wke1 hf
    subst e0
    refine W.widen (k := 1) (n := 6) (Nat.le_of_ble_eq_true rfl) (Nat.le_of_ble_eq_true rfl) ?_
    refine vx_ret ?_
    exact W.vret hx hb hr (fun t ht hW => ⟨rfl, rfl, ht⟩) (fun q h => absurd h List.not_mem_nil) dX10_requireSet_25
  · have hf := wk_t hf q3
    have e0 := wke1 hf
    subst e0
    refine vx_throwSW (rest := []) (names := ["java/lang/RuntimeException", "java/lang/Exception"]) (text := "the set is empty or has others than the acrobats that exist") (sa := g 5 9) (A := (fun _ => False)) hx hb hl0 hown (by decide) (by decide) (hts _ tw_X10_requireSet_302.1) (hts _ tw_X10_requireSet_302.2.1) ((wk_T.thr hT).2.2.1 9 (by decide)) (vx_hat (B := wk_tb "java/lang/IllegalArgumentException") (fun w h => hts w (tw_X10_requireSet_302.2.2 w h)) (by decide +kernel) (wk_tbp hT 1 (by decide) rfl)) (by decide +kernel) (wk_T.thr hT).1 (wk_T.thr hT).2.1 hS (hl.1.trans hml.symm) dX10_requireSet_14 dX10_requireSet_17 dX10_requireSet_18 dX10_requireSet_21 dX10_requireSet_24 (fun x h => (htab x h).elim) (Nat.le_of_ble_eq_true rfl) (Nat.le_of_ble_eq_true rfl) (Nat.le_of_ble_eq_true rfl) (Nat.le_of_ble_eq_true rfl) hlocks (fun t hvm hz hq => ⟨rfl, hz, hq⟩) (fun q h => absurd h List.not_mem_nil) (Nat.le_of_ble_eq_true rfl) (Nat.le_of_ble_eq_true rfl)
theorem tw_X10_requireAccount_293 : Cond.classLink RX10 293 "java/lang/IndexOutOfBoundsException" ∈ wsX10_requireAccount ∧ Cond.initialized "java/lang/IndexOutOfBoundsException" ∈ wsX10_requireAccount ∧ ∀ w ∈ (vx_atS RX10 297 "java/lang/IndexOutOfBoundsException" ["java/lang/RuntimeException", "java/lang/Exception"]).filter goodWord, w ∈ wsX10_requireAccount := ⟨by decide +kernel, by decide +kernel, by decide +kernel⟩
theorem lk_X10_requireAccount_RX10_12 : Cond.fieldLink RX10 12 "CircusLedger" "now" "LCircusLedger$Circus;" ∈ wsX10_requireAccount := by decide +kernel
theorem lk_X10_requireAccount_RX10_74 : Cond.fieldLink RX10 74 "CircusLedger$Circus" "books" "LCircusLedger$Books;" ∈ wsX10_requireAccount := by decide +kernel
theorem in_X10_requireAccount_X10 : ∀ w ∈ u_ws RX10 TX10 9, w ∈ wsX10_requireAccount := by decide +kernel
theorem in_X10_requireAccount_X3 : ∀ w ∈ u_ws RX3 TX3 6, w ∈ wsX10_requireAccount := by decide +kernel
def f_X10_requireAccount (B_accounts : Int32) (x1 : Int32) : Option ((Unit) ⊕ String) :=
  wkb1 (f_X2_has B_accounts x1) (fun r1 =>
  if r1 = 0 then
    (some (.inr "java/lang/IndexOutOfBoundsException"))
  else
    (some (.inl ())))
set_option maxHeartbeats 4000000 in
set_option maxRecDepth 100000 in
theorem c_X10_requireAccount (l : Launch) (hl0 : l.stackTraces = false) (dC : Nat → ClassId) (dI : Nat → Nat → Nat) (Y : Nat → ClassId) (g : Nat → Nat → Nat) (a : Nat → Nat) (L_hasSnapshot : Int32) (L_formError : Int32) (L_commandError : Int32) (T_count : Int32) (T_weights : Nat → Int32) (T_strengths : Nat → Int32) (T_heights : Nat → Int32) (T_wages : Nat → Int32) (T_nightsToHeal : Nat → Int32) (B_accounts : Int32) (B_balances : Nat → Int32) (B_balancesAtClosing : Nat → Int32) (B_entries : Int32) (B_debited : Nat → Int32) (B_credited : Nat → Int32) (B_amounts : Nat → Int32) (C_nights : Int32) (C_netWidth : Int32) (C_shows : Int32) (C_fallen : Int32) (x1 : Int32) (out : Unit ⊕ String) (hf : f_X10_requireAccount B_accounts x1 = some out) : vx_Met l yX10_requireAccount wsX10_requireAccount ({ frames := 8, cells := 1, slots := 6, locals := 120 } : Room) (va_Pc [.ref (a 0), .int x1] (wk_BT (dC, dI) Y g (wX10n Y a L_hasSnapshot L_formError L_commandError T_count T_weights T_strengths T_heights T_wages T_nightsToHeal B_accounts B_balances B_balancesAtClosing B_entries B_debited B_credited B_amounts C_nights C_netWidth C_shows C_fallen))) (wxQv out) (wxX out) 1 6 (fun _ => False) := by
  refine vx_ofW (cc := cX10_requireAccount) (maxL := 2) (ret := none) (by decide) rfl ?_
  intro p e s m args below meth c s₁ B hml htab hv
  obtain ⟨rfl, ⟨hP, hK⟩, hT⟩ := hv
  have hx := B.exec
  have hb := B.bytes
  have hr := B.returns
  have hts := atoms_spec (ws := wsX10_requireAccount) B.pre
  have hown : s.vm.findClass RX10 = some m.cls := findClass_of_methodNamed B.named
  have hlocks := B.notSynchronized
  have C0 : wk_C p s m _ meth c cX10_requireAccount 2 none wsX10_requireAccount RX10 := ⟨hx, hb, hml, hr, hlocks, hown, hts⟩
  have hP : va_P (dC, dI) vwCl [(a 0, .inr (10, [.ref (a 1), .ref (a 14), .ref (a 16), .int L_hasSnapshot, .ref (a 29), .ref (a 34), .int L_formError, .int L_commandError, .ref (a 38)])), (a 1, .inr (5, [.ref (a 2), .ref (a 8), .int C_nights, .int C_netWidth, .int C_shows, .int C_fallen])), (a 2, .inr (9, [.int T_count, .ref (a 3), .ref (a 4), .ref (a 5), .ref (a 6), .ref (a 7)])), (a 3, .inl (Y 0, 6, .inl T_weights)), (a 4, .inl (Y 0, 6, .inl T_strengths)), (a 5, .inl (Y 0, 6, .inl T_heights)), (a 6, .inl (Y 0, 6, .inl T_wages)), (a 7, .inl (Y 0, 6, .inl T_nightsToHeal)), (a 8, .inr (4, [.int B_accounts, .ref (a 9), .ref (a 10), .int B_entries, .ref (a 11), .ref (a 12), .ref (a 13)])), (a 9, .inl (Y 0, 11, .inl B_balances)), (a 10, .inl (Y 0, 11, .inl B_balancesAtClosing)), (a 11, .inl (Y 0, 60, .inl B_debited)), (a 12, .inl (Y 0, 60, .inl B_credited)), (a 13, .inl (Y 0, 60, .inl B_amounts))] s.heap := hP
  have hS : va_S (fun _ : Nat => False) s.heap s.heap [] := va_S.rf
  have hl := lv_entry ([.ref (a 0), .int x1]) (n := 2) (Nat.le_of_ble_eq_true rfl)
  rw [lg_entry_eq]
  generalize (lg_sl ([.ref (a 0), .int x1]) ++ List.replicate (2 - (lg_sl ([.ref (a 0), .int x1])).length) Slot.unset).toArray = ls at hl ⊢
  have hl : lv_has ls 2 [(0, .ref (a 0)), (1, .int x1)] := hl
  rw [f_X10_requireAccount] at hf
  refine lv_aload_n hx hb dX10_requireAccount_0 rfl (lv_at hl 0 rfl) ?_
  refine va_get (D := (dC, dI)) (ci := 10) (v := .ref (a 1)) (C := RX10) (T := TX10) (N := 9) hx hb hts in_X10_requireAccount_X10 hown hK hP 0 rfl rfl 0 (by decide) (hts _ lk_X10_requireAccount_RX10_12) (fun _ h9 => h9) rfl dX10_requireAccount_1 ?_
  refine va_get (D := (dC, dI)) (ci := 5) (v := .ref (a 8)) (C := RX3) (T := TX3) (N := 6) hx hb hts in_X10_requireAccount_X3 hown hK hP 1 rfl rfl 1 (by decide) (hts _ lk_X10_requireAccount_RX10_74) (fun _ h9 => h9) rfl dX10_requireAccount_4 ?_
  refine lv_iload_n hx hb dX10_requireAccount_7 rfl (lv_at hl 1 rfl) ?_
  obtain ⟨r1, hr2, hf⟩ := wkb1_s hf
  have hPc := hP.sub (ws' := (wX2 Y (fun k => a (k + 8)) B_accounts B_balances B_balancesAtClosing B_entries B_debited B_credited B_amounts)) [8, 9, 10, 11, 12, 13] rfl
  refine wk_vi (As := [.int x1]) (rest := []) ⟨hx, hb, hml, hown, hts⟩ (c_X2_has l dC dI Y (fun k => a (k + 8)) B_accounts B_balances B_balancesAtClosing B_entries B_debited B_credited B_amounts x1 r1 hr2) (cwV 1 hts gX10_requireAccount_X2_has rfl rfl rfl (by decide +kernel) ⟨Nat.le_of_ble_eq_true rfl, Nat.le_of_ble_eq_true rfl⟩) hK hPc (va_recv hK hP (ci := 4) (q0 := 8) rfl rfl) rfl hl.1 rfl (Nat.le_of_ble_eq_true rfl) dX10_requireAccount_8 ⟨Nat.le_of_ble_eq_true rfl, Nat.le_of_ble_eq_true rfl⟩ ?_
  refine lv_if_ne (tgt := 25) hx hb dX10_requireAccount_11 (by decide) (fun q3 => ?_) (fun q3 => ?_)
  · have hf := wk_f hf q3
    have e0 := wke1 hf
    subst e0
    refine W.widen (k := 1) (n := 6) (Nat.le_of_ble_eq_true rfl) (Nat.le_of_ble_eq_true rfl) ?_
    refine vx_ret ?_
    exact W.vret hx hb hr (fun t ht hW => ⟨rfl, rfl, ht⟩) (fun q h => absurd h List.not_mem_nil) dX10_requireAccount_25
  · have hf := wk_t hf q3
    have e0 := wke1 hf
    subst e0
    refine vx_throwSW (rest := []) (names := ["java/lang/RuntimeException", "java/lang/Exception"]) (text := "there is no such account") (sa := g 5 10) (A := (fun _ => False)) hx hb hl0 hown (by decide) (by decide) (hts _ tw_X10_requireAccount_293.1) (hts _ tw_X10_requireAccount_293.2.1) ((wk_T.thr hT).2.2.1 10 (by decide)) (vx_hat (B := wk_tb "java/lang/IndexOutOfBoundsException") (fun w h => hts w (tw_X10_requireAccount_293.2.2 w h)) (by decide +kernel) (wk_tbp hT 0 (by decide) rfl)) (by decide +kernel) (wk_T.thr hT).1 (wk_T.thr hT).2.1 hS (hl.1.trans hml.symm) dX10_requireAccount_14 dX10_requireAccount_17 dX10_requireAccount_18 dX10_requireAccount_21 dX10_requireAccount_24 (fun x h => (htab x h).elim) (Nat.le_of_ble_eq_true rfl) (Nat.le_of_ble_eq_true rfl) (Nat.le_of_ble_eq_true rfl) (Nat.le_of_ble_eq_true rfl) hlocks (fun t hvm hz hq => ⟨rfl, hz, hq⟩) (fun q h => absurd h List.not_mem_nil) (Nat.le_of_ble_eq_true rfl) (Nat.le_of_ble_eq_true rfl)
theorem tw_X10_requireEntry_293 : Cond.classLink RX10 293 "java/lang/IndexOutOfBoundsException" ∈ wsX10_requireEntry ∧ Cond.initialized "java/lang/IndexOutOfBoundsException" ∈ wsX10_requireEntry ∧ ∀ w ∈ (vx_atS RX10 297 "java/lang/IndexOutOfBoundsException" ["java/lang/RuntimeException", "java/lang/Exception"]).filter goodWord, w ∈ wsX10_requireEntry := ⟨by decide +kernel, by decide +kernel, by decide +kernel⟩
theorem lk_X10_requireEntry_RX10_12 : Cond.fieldLink RX10 12 "CircusLedger" "now" "LCircusLedger$Circus;" ∈ wsX10_requireEntry := by decide +kernel
theorem lk_X10_requireEntry_RX10_74 : Cond.fieldLink RX10 74 "CircusLedger$Circus" "books" "LCircusLedger$Books;" ∈ wsX10_requireEntry := by decide +kernel
theorem lk_X10_requireEntry_RX10_220 : Cond.fieldLink RX10 220 "CircusLedger$Books" "entries" "I" ∈ wsX10_requireEntry := by decide +kernel
theorem in_X10_requireEntry_X10 : ∀ w ∈ u_ws RX10 TX10 9, w ∈ wsX10_requireEntry := by decide +kernel
theorem in_X10_requireEntry_X2 : ∀ w ∈ u_ws RX2 TX2 7, w ∈ wsX10_requireEntry := by decide +kernel
theorem in_X10_requireEntry_X3 : ∀ w ∈ u_ws RX3 TX3 6, w ∈ wsX10_requireEntry := by decide +kernel
def f_X10_requireEntry (B_entries : Int32) (x1 : Int32) : Option ((Unit) ⊕ String) :=
  if x1 < 0 then
    (some (.inr "java/lang/IndexOutOfBoundsException"))
  else
    (if x1 < B_entries then
      (some (.inl ()))
    else
      (some (.inr "java/lang/IndexOutOfBoundsException")))
set_option maxHeartbeats 4000000 in
set_option maxRecDepth 100000 in
theorem c_X10_requireEntry (l : Launch) (hl0 : l.stackTraces = false) (dC : Nat → ClassId) (dI : Nat → Nat → Nat) (Y : Nat → ClassId) (g : Nat → Nat → Nat) (a : Nat → Nat) (L_hasSnapshot : Int32) (L_formError : Int32) (L_commandError : Int32) (T_count : Int32) (T_weights : Nat → Int32) (T_strengths : Nat → Int32) (T_heights : Nat → Int32) (T_wages : Nat → Int32) (T_nightsToHeal : Nat → Int32) (B_accounts : Int32) (B_balances : Nat → Int32) (B_balancesAtClosing : Nat → Int32) (B_entries : Int32) (B_debited : Nat → Int32) (B_credited : Nat → Int32) (B_amounts : Nat → Int32) (C_nights : Int32) (C_netWidth : Int32) (C_shows : Int32) (C_fallen : Int32) (x1 : Int32) (out : Unit ⊕ String) (hf : f_X10_requireEntry B_entries x1 = some out) : vx_Met l yX10_requireEntry wsX10_requireEntry ({ frames := 8, cells := 1, slots := 6, locals := 120 } : Room) (va_Pc [.ref (a 0), .int x1] (wk_BT (dC, dI) Y g (wX10n Y a L_hasSnapshot L_formError L_commandError T_count T_weights T_strengths T_heights T_wages T_nightsToHeal B_accounts B_balances B_balancesAtClosing B_entries B_debited B_credited B_amounts C_nights C_netWidth C_shows C_fallen))) (wxQv out) (wxX out) 1 6 (fun _ => False) := by
  refine vx_ofW (cc := cX10_requireEntry) (maxL := 2) (ret := none) (by decide) rfl ?_
  intro p e s m args below meth c s₁ B hml htab hv
  obtain ⟨rfl, ⟨hP, hK⟩, hT⟩ := hv
  have hx := B.exec
  have hb := B.bytes
  have hr := B.returns
  have hts := atoms_spec (ws := wsX10_requireEntry) B.pre
  have hown : s.vm.findClass RX10 = some m.cls := findClass_of_methodNamed B.named
  have hlocks := B.notSynchronized
  have C0 : wk_C p s m _ meth c cX10_requireEntry 2 none wsX10_requireEntry RX10 := ⟨hx, hb, hml, hr, hlocks, hown, hts⟩
  have hP : va_P (dC, dI) vwCl [(a 0, .inr (10, [.ref (a 1), .ref (a 14), .ref (a 16), .int L_hasSnapshot, .ref (a 29), .ref (a 34), .int L_formError, .int L_commandError, .ref (a 38)])), (a 1, .inr (5, [.ref (a 2), .ref (a 8), .int C_nights, .int C_netWidth, .int C_shows, .int C_fallen])), (a 2, .inr (9, [.int T_count, .ref (a 3), .ref (a 4), .ref (a 5), .ref (a 6), .ref (a 7)])), (a 3, .inl (Y 0, 6, .inl T_weights)), (a 4, .inl (Y 0, 6, .inl T_strengths)), (a 5, .inl (Y 0, 6, .inl T_heights)), (a 6, .inl (Y 0, 6, .inl T_wages)), (a 7, .inl (Y 0, 6, .inl T_nightsToHeal)), (a 8, .inr (4, [.int B_accounts, .ref (a 9), .ref (a 10), .int B_entries, .ref (a 11), .ref (a 12), .ref (a 13)])), (a 9, .inl (Y 0, 11, .inl B_balances)), (a 10, .inl (Y 0, 11, .inl B_balancesAtClosing)), (a 11, .inl (Y 0, 60, .inl B_debited)), (a 12, .inl (Y 0, 60, .inl B_credited)), (a 13, .inl (Y 0, 60, .inl B_amounts))] s.heap := hP
  have hS : va_S (fun _ : Nat => False) s.heap s.heap [] := va_S.rf
  have hl := lv_entry ([.ref (a 0), .int x1]) (n := 2) (Nat.le_of_ble_eq_true rfl)
  rw [lg_entry_eq]
  generalize (lg_sl ([.ref (a 0), .int x1]) ++ List.replicate (2 - (lg_sl ([.ref (a 0), .int x1])).length) Slot.unset).toArray = ls at hl ⊢
  have hl : lv_has ls 2 [(0, .ref (a 0)), (1, .int x1)] := hl
  rw [f_X10_requireEntry] at hf
  refine lv_iload_n hx hb dX10_requireEntry_0 rfl (lv_at hl 1 rfl) ?_
  refine lv_if_lt (tgt := 18) hx hb dX10_requireEntry_1 (by decide) (fun q1 => ?_) (fun q1 => ?_)
  · have hf := wk_t hf q1
    have e0 := wke1 hf
    subst e0
    refine vx_throwSW (rest := []) (names := ["java/lang/RuntimeException", "java/lang/Exception"]) (text := "there is no such entry in the journal") (sa := g 5 11) (A := (fun _ => False)) hx hb hl0 hown (by decide) (by decide) (hts _ tw_X10_requireEntry_293.1) (hts _ tw_X10_requireEntry_293.2.1) ((wk_T.thr hT).2.2.1 11 (by decide)) (vx_hat (B := wk_tb "java/lang/IndexOutOfBoundsException") (fun w h => hts w (tw_X10_requireEntry_293.2.2 w h)) (by decide +kernel) (wk_tbp hT 0 (by decide) rfl)) (by decide +kernel) (wk_T.thr hT).1 (wk_T.thr hT).2.1 hS (hl.1.trans hml.symm) dX10_requireEntry_18 dX10_requireEntry_21 dX10_requireEntry_22 dX10_requireEntry_25 dX10_requireEntry_28 (fun x h => (htab x h).elim) (Nat.le_of_ble_eq_true rfl) (Nat.le_of_ble_eq_true rfl) (Nat.le_of_ble_eq_true rfl) (Nat.le_of_ble_eq_true rfl) hlocks (fun t hvm hz hq => ⟨rfl, hz, hq⟩) (fun q h => absurd h List.not_mem_nil) (Nat.le_of_ble_eq_true rfl) (Nat.le_of_ble_eq_true rfl)
  · have hf := wk_f hf q1
    refine lv_iload_n hx hb dX10_requireEntry_4 rfl (lv_at hl 1 rfl) ?_
    refine lv_aload_n hx hb dX10_requireEntry_5 rfl (lv_at hl 0 rfl) ?_
    refine va_get (D := (dC, dI)) (ci := 10) (v := .ref (a 1)) (C := RX10) (T := TX10) (N := 9) hx hb hts in_X10_requireEntry_X10 hown hK hP 0 rfl rfl 0 (by decide) (hts _ lk_X10_requireEntry_RX10_12) (fun _ h9 => h9) rfl dX10_requireEntry_6 ?_
    refine va_get (D := (dC, dI)) (ci := 5) (v := .ref (a 8)) (C := RX3) (T := TX3) (N := 6) hx hb hts in_X10_requireEntry_X3 hown hK hP 1 rfl rfl 1 (by decide) (hts _ lk_X10_requireEntry_RX10_74) (fun _ h9 => h9) rfl dX10_requireEntry_9 ?_
    refine va_get (D := (dC, dI)) (ci := 4) (v := .int B_entries) (C := RX2) (T := TX2) (N := 7) hx hb hts in_X10_requireEntry_X2 hown hK hP 8 rfl rfl 3 (by decide) (hts _ lk_X10_requireEntry_RX10_220) (fun _ h9 => h9) rfl dX10_requireEntry_12 ?_
    refine lv_icmp_lt (tgt := 29) hx hb dX10_requireEntry_15 (by decide) (fun q2 => ?_) (fun q2 => ?_)
    · have hf := wk_t hf q2
      have e0 := wke1 hf
      subst e0
      refine W.widen (k := 1) (n := 6) (Nat.le_of_ble_eq_true rfl) (Nat.le_of_ble_eq_true rfl) ?_
      refine vx_ret ?_
      exact W.vret hx hb hr (fun t ht hW => ⟨rfl, rfl, ht⟩) (fun q h => absurd h List.not_mem_nil) dX10_requireEntry_29
    · have hf := wk_f hf q2
      have e0 := wke1 hf
      subst e0
      refine vx_throwSW (rest := []) (names := ["java/lang/RuntimeException", "java/lang/Exception"]) (text := "there is no such entry in the journal") (sa := g 5 11) (A := (fun _ => False)) hx hb hl0 hown (by decide) (by decide) (hts _ tw_X10_requireEntry_293.1) (hts _ tw_X10_requireEntry_293.2.1) ((wk_T.thr hT).2.2.1 11 (by decide)) (vx_hat (B := wk_tb "java/lang/IndexOutOfBoundsException") (fun w h => hts w (tw_X10_requireEntry_293.2.2 w h)) (by decide +kernel) (wk_tbp hT 0 (by decide) rfl)) (by decide +kernel) (wk_T.thr hT).1 (wk_T.thr hT).2.1 hS (hl.1.trans hml.symm) dX10_requireEntry_18 dX10_requireEntry_21 dX10_requireEntry_22 dX10_requireEntry_25 dX10_requireEntry_28 (fun x h => (htab x h).elim) (Nat.le_of_ble_eq_true rfl) (Nat.le_of_ble_eq_true rfl) (Nat.le_of_ble_eq_true rfl) (Nat.le_of_ble_eq_true rfl) hlocks (fun t hvm hz hq => ⟨rfl, hz, hq⟩) (fun q h => absurd h List.not_mem_nil) (Nat.le_of_ble_eq_true rfl) (Nat.le_of_ble_eq_true rfl)
theorem tw_X10_requirePositiveBalance_388 : Cond.classLink RX10 388 "java/lang/ArithmeticException" ∈ wsX10_requirePositiveBalance ∧ Cond.initialized "java/lang/ArithmeticException" ∈ wsX10_requirePositiveBalance ∧ ∀ w ∈ (vx_atS RX10 392 "java/lang/ArithmeticException" ["java/lang/RuntimeException", "java/lang/Exception"]).filter goodWord, w ∈ wsX10_requirePositiveBalance := ⟨by decide +kernel, by decide +kernel, by decide +kernel⟩
theorem lk_X10_requirePositiveBalance_RX10_12 : Cond.fieldLink RX10 12 "CircusLedger" "now" "LCircusLedger$Circus;" ∈ wsX10_requirePositiveBalance := by decide +kernel
theorem lk_X10_requirePositiveBalance_RX10_74 : Cond.fieldLink RX10 74 "CircusLedger$Circus" "books" "LCircusLedger$Books;" ∈ wsX10_requirePositiveBalance := by decide +kernel
theorem in_X10_requirePositiveBalance_X10 : ∀ w ∈ u_ws RX10 TX10 9, w ∈ wsX10_requirePositiveBalance := by decide +kernel
theorem in_X10_requirePositiveBalance_X3 : ∀ w ∈ u_ws RX3 TX3 6, w ∈ wsX10_requirePositiveBalance := by decide +kernel
def f_X10_requirePositiveBalance (B_accounts : Int32) (B_balances : Nat → Int32) : Option ((Unit) ⊕ String) :=
  wkb1 (f_X2_positiveCount B_accounts B_balances) (fun r1 =>
  if r1 = 0 then
    (some (.inr "java/lang/ArithmeticException"))
  else
    (some (.inl ())))
set_option maxHeartbeats 4000000 in
set_option maxRecDepth 100000 in
theorem c_X10_requirePositiveBalance (l : Launch) (hl0 : l.stackTraces = false) (dC : Nat → ClassId) (dI : Nat → Nat → Nat) (Y : Nat → ClassId) (g : Nat → Nat → Nat) (a : Nat → Nat) (L_hasSnapshot : Int32) (L_formError : Int32) (L_commandError : Int32) (T_count : Int32) (T_weights : Nat → Int32) (T_strengths : Nat → Int32) (T_heights : Nat → Int32) (T_wages : Nat → Int32) (T_nightsToHeal : Nat → Int32) (B_accounts : Int32) (B_balances : Nat → Int32) (B_balancesAtClosing : Nat → Int32) (B_entries : Int32) (B_debited : Nat → Int32) (B_credited : Nat → Int32) (B_amounts : Nat → Int32) (C_nights : Int32) (C_netWidth : Int32) (C_shows : Int32) (C_fallen : Int32)  (out : Unit ⊕ String) (hf : f_X10_requirePositiveBalance B_accounts B_balances = some out) : vx_Met l yX10_requirePositiveBalance wsX10_requirePositiveBalance ({ frames := 8, cells := 1, slots := 6, locals := 120 } : Room) (va_Pc [.ref (a 0)] (wk_BT (dC, dI) Y g (wX10n Y a L_hasSnapshot L_formError L_commandError T_count T_weights T_strengths T_heights T_wages T_nightsToHeal B_accounts B_balances B_balancesAtClosing B_entries B_debited B_credited B_amounts C_nights C_netWidth C_shows C_fallen))) (wxQv out) (wxX out) 1 6 (fun _ => False) := by
  refine vx_ofW (cc := cX10_requirePositiveBalance) (maxL := 1) (ret := none) (by decide) rfl ?_
  intro p e s m args below meth c s₁ B hml htab hv
  obtain ⟨rfl, ⟨hP, hK⟩, hT⟩ := hv
  have hx := B.exec
  have hb := B.bytes
  have hr := B.returns
  have hts := atoms_spec (ws := wsX10_requirePositiveBalance) B.pre
  have hown : s.vm.findClass RX10 = some m.cls := findClass_of_methodNamed B.named
  have hlocks := B.notSynchronized
  have C0 : wk_C p s m _ meth c cX10_requirePositiveBalance 1 none wsX10_requirePositiveBalance RX10 := ⟨hx, hb, hml, hr, hlocks, hown, hts⟩
  have hP : va_P (dC, dI) vwCl [(a 0, .inr (10, [.ref (a 1), .ref (a 14), .ref (a 16), .int L_hasSnapshot, .ref (a 29), .ref (a 34), .int L_formError, .int L_commandError, .ref (a 38)])), (a 1, .inr (5, [.ref (a 2), .ref (a 8), .int C_nights, .int C_netWidth, .int C_shows, .int C_fallen])), (a 2, .inr (9, [.int T_count, .ref (a 3), .ref (a 4), .ref (a 5), .ref (a 6), .ref (a 7)])), (a 3, .inl (Y 0, 6, .inl T_weights)), (a 4, .inl (Y 0, 6, .inl T_strengths)), (a 5, .inl (Y 0, 6, .inl T_heights)), (a 6, .inl (Y 0, 6, .inl T_wages)), (a 7, .inl (Y 0, 6, .inl T_nightsToHeal)), (a 8, .inr (4, [.int B_accounts, .ref (a 9), .ref (a 10), .int B_entries, .ref (a 11), .ref (a 12), .ref (a 13)])), (a 9, .inl (Y 0, 11, .inl B_balances)), (a 10, .inl (Y 0, 11, .inl B_balancesAtClosing)), (a 11, .inl (Y 0, 60, .inl B_debited)), (a 12, .inl (Y 0, 60, .inl B_credited)), (a 13, .inl (Y 0, 60, .inl B_amounts))] s.heap := hP
  have hS : va_S (fun _ : Nat => False) s.heap s.heap [] := va_S.rf
  have hl := lv_entry ([.ref (a 0)]) (n := 1) (Nat.le_of_ble_eq_true rfl)
  rw [lg_entry_eq]
  generalize (lg_sl ([.ref (a 0)]) ++ List.replicate (1 - (lg_sl ([.ref (a 0)])).length) Slot.unset).toArray = ls at hl ⊢
  have hl : lv_has ls 1 [(0, .ref (a 0))] := hl
  rw [f_X10_requirePositiveBalance] at hf
  refine lv_aload_n hx hb dX10_requirePositiveBalance_0 rfl (lv_at hl 0 rfl) ?_
  refine va_get (D := (dC, dI)) (ci := 10) (v := .ref (a 1)) (C := RX10) (T := TX10) (N := 9) hx hb hts in_X10_requirePositiveBalance_X10 hown hK hP 0 rfl rfl 0 (by decide) (hts _ lk_X10_requirePositiveBalance_RX10_12) (fun _ h9 => h9) rfl dX10_requirePositiveBalance_1 ?_
  refine va_get (D := (dC, dI)) (ci := 5) (v := .ref (a 8)) (C := RX3) (T := TX3) (N := 6) hx hb hts in_X10_requirePositiveBalance_X3 hown hK hP 1 rfl rfl 1 (by decide) (hts _ lk_X10_requirePositiveBalance_RX10_74) (fun _ h9 => h9) rfl dX10_requirePositiveBalance_4 ?_
  obtain ⟨r1, hr2, hf⟩ := wkb1_s hf
  have hPc := hP.sub (ws' := (wX2 Y (fun k => a (k + 8)) B_accounts B_balances B_balancesAtClosing B_entries B_debited B_credited B_amounts)) [8, 9, 10, 11, 12, 13] rfl
  refine wk_vi (As := []) (rest := []) ⟨hx, hb, hml, hown, hts⟩ (c_X2_positiveCount l dC dI Y (fun k => a (k + 8)) B_accounts B_balances B_balancesAtClosing B_entries B_debited B_credited B_amounts r1 hr2) (cwV 0 hts gX10_requirePositiveBalance_X2_positiveCount rfl rfl rfl (by decide +kernel) ⟨Nat.le_of_ble_eq_true rfl, Nat.le_of_ble_eq_true rfl⟩) hK hPc (va_recv hK hP (ci := 4) (q0 := 8) rfl rfl) rfl hl.1 rfl (Nat.le_of_ble_eq_true rfl) dX10_requirePositiveBalance_7 ⟨Nat.le_of_ble_eq_true rfl, Nat.le_of_ble_eq_true rfl⟩ ?_
  refine lv_if_ne (tgt := 24) hx hb dX10_requirePositiveBalance_10 (by decide) (fun q3 => ?_) (fun q3 => ?_)
  · have hf := wk_f hf q3
    have e0 := wke1 hf
    subst e0
    refine W.widen (k := 1) (n := 6) (Nat.le_of_ble_eq_true rfl) (Nat.le_of_ble_eq_true rfl) ?_
    refine vx_ret ?_
    exact W.vret hx hb hr (fun t ht hW => ⟨rfl, rfl, ht⟩) (fun q h => absurd h List.not_mem_nil) dX10_requirePositiveBalance_24
  · have hf := wk_t hf q3
    have e0 := wke1 hf
    subst e0
    refine vx_throwSW (rest := []) (names := ["java/lang/RuntimeException", "java/lang/Exception"]) (text := "no balance is positive") (sa := g 5 12) (A := (fun _ => False)) hx hb hl0 hown (by decide) (by decide) (hts _ tw_X10_requirePositiveBalance_388.1) (hts _ tw_X10_requirePositiveBalance_388.2.1) ((wk_T.thr hT).2.2.1 12 (by decide)) (vx_hat (B := wk_tb "java/lang/ArithmeticException") (fun w h => hts w (tw_X10_requirePositiveBalance_388.2.2 w h)) (by decide +kernel) (wk_tbp hT 3 (by decide) rfl)) (by decide +kernel) (wk_T.thr hT).1 (wk_T.thr hT).2.1 hS (hl.1.trans hml.symm) dX10_requirePositiveBalance_13 dX10_requirePositiveBalance_16 dX10_requirePositiveBalance_17 dX10_requirePositiveBalance_20 dX10_requirePositiveBalance_23 (fun x h => (htab x h).elim) (Nat.le_of_ble_eq_true rfl) (Nat.le_of_ble_eq_true rfl) (Nat.le_of_ble_eq_true rfl) (Nat.le_of_ble_eq_true rfl) hlocks (fun t hvm hz hq => ⟨rfl, hz, hq⟩) (fun q h => absurd h List.not_mem_nil) (Nat.le_of_ble_eq_true rfl) (Nat.le_of_ble_eq_true rfl)
theorem tw_X10_requireSeveral_388 : Cond.classLink RX10 388 "java/lang/ArithmeticException" ∈ wsX10_requireSeveral ∧ Cond.initialized "java/lang/ArithmeticException" ∈ wsX10_requireSeveral ∧ ∀ w ∈ (vx_atS RX10 392 "java/lang/ArithmeticException" ["java/lang/RuntimeException", "java/lang/Exception"]).filter goodWord, w ∈ wsX10_requireSeveral := ⟨by decide +kernel, by decide +kernel, by decide +kernel⟩
def f_X10_requireSeveral (x0 : Int32) : Option ((Unit) ⊕ String) :=
  wkb1 (f_J6_bitCount_0f7a4 x0) (fun r1 =>
  if (2 : Int32) ≤ r1 then
    (some (.inl ()))
  else
    (some (.inr "java/lang/ArithmeticException")))
set_option maxHeartbeats 4000000 in
set_option maxRecDepth 100000 in
theorem c_X10_requireSeveral (l : Launch) (hl0 : l.stackTraces = false) (dC : Nat → ClassId) (dI : Nat → Nat → Nat) (Y : Nat → ClassId) (g : Nat → Nat → Nat)   (x0 : Int32) (out : Unit ⊕ String) (hf : f_X10_requireSeveral x0 = some out) : vx_Met l yX10_requireSeveral wsX10_requireSeveral ({ frames := 8, cells := 1, slots := 6, locals := 120 } : Room) (va_Pc [.int x0] (wk_BT (dC, dI) Y g ([] : va_W))) (wxQv out) (wxX out) 1 6 (fun _ => False) := by
  refine vx_ofW (cc := cX10_requireSeveral) (maxL := 1) (ret := none) (by decide) rfl ?_
  intro p e s m args below meth c s₁ B hml htab hv
  obtain ⟨rfl, ⟨hP, hK⟩, hT⟩ := hv
  have hx := B.exec
  have hb := B.bytes
  have hr := B.returns
  have hts := atoms_spec (ws := wsX10_requireSeveral) B.pre
  have hown : s.vm.findClass RX10 = some m.cls := findClass_of_methodNamed B.named
  have hlocks := B.notSynchronized
  have C0 : wk_C p s m _ meth c cX10_requireSeveral 1 none wsX10_requireSeveral RX10 := ⟨hx, hb, hml, hr, hlocks, hown, hts⟩
  have hP : va_P (dC, dI) vwCl [] s.heap := hP
  have hS : va_S (fun _ : Nat => False) s.heap s.heap [] := va_S.rf
  have hl := lv_entry ([.int x0]) (n := 1) (Nat.le_of_ble_eq_true rfl)
  rw [lg_entry_eq]
  generalize (lg_sl ([.int x0]) ++ List.replicate (1 - (lg_sl ([.int x0])).length) Slot.unset).toArray = ls at hl ⊢
  have hl : lv_has ls 1 [(0, .int x0)] := hl
  rw [f_X10_requireSeveral] at hf
  refine lv_iload_n hx hb dX10_requireSeveral_0 rfl (lv_at hl 0 rfl) ?_
  obtain ⟨r1, hr2, hf⟩ := wkb1_s hf
  have hPc := hP.sub (ws' := ([] : va_W)) [] rfl
  refine wk_si (As := [.int x0]) (rest := []) ⟨hx, hb, hml, hown, hts⟩ (c_J6_bitCount_0f7a4 l dC dI Y x0 r1 hr2) (va_cwS 1 hts gX10_requireSeveral_J6_bitCount_0f7a4 rfl rfl rfl (by decide +kernel) ⟨Nat.le_of_ble_eq_true rfl, Nat.le_of_ble_eq_true rfl⟩) hK hPc rfl hl.1 rfl (Nat.le_of_ble_eq_true rfl) dX10_requireSeveral_1 ⟨Nat.le_of_ble_eq_true rfl, Nat.le_of_ble_eq_true rfl⟩ ?_
  refine lv_iconst (v := 2) hx hb dX10_requireSeveral_4 (by decide) ?_
  refine lv_icmp_ge (tgt := 19) hx hb dX10_requireSeveral_5 (by decide) (fun q3 => ?_) (fun q3 => ?_)
  · have hf := wk_t hf q3
    have e0 := wke1 hf
    subst e0
    refine W.widen (k := 1) (n := 6) (Nat.le_of_ble_eq_true rfl) (Nat.le_of_ble_eq_true rfl) ?_
    refine vx_ret ?_
    exact W.vret hx hb hr (fun t ht hW => ⟨rfl, rfl, ht⟩) (fun q h => absurd h List.not_mem_nil) dX10_requireSeveral_19
  · have hf := wk_f hf q3
    have e0 := wke1 hf
    subst e0
    refine vx_throwSW (rest := []) (names := ["java/lang/RuntimeException", "java/lang/Exception"]) (text := "the column has only one acrobat") (sa := g 5 13) (A := (fun _ => False)) hx hb hl0 hown (by decide) (by decide) (hts _ tw_X10_requireSeveral_388.1) (hts _ tw_X10_requireSeveral_388.2.1) ((wk_T.thr hT).2.2.1 13 (by decide)) (vx_hat (B := wk_tb "java/lang/ArithmeticException") (fun w h => hts w (tw_X10_requireSeveral_388.2.2 w h)) (by decide +kernel) (wk_tbp hT 3 (by decide) rfl)) (by decide +kernel) (wk_T.thr hT).1 (wk_T.thr hT).2.1 hS (hl.1.trans hml.symm) dX10_requireSeveral_8 dX10_requireSeveral_11 dX10_requireSeveral_12 dX10_requireSeveral_15 dX10_requireSeveral_18 (fun x h => (htab x h).elim) (Nat.le_of_ble_eq_true rfl) (Nat.le_of_ble_eq_true rfl) (Nat.le_of_ble_eq_true rfl) (Nat.le_of_ble_eq_true rfl) hlocks (fun t hvm hz hq => ⟨rfl, hz, hq⟩) (fun q h => absurd h List.not_mem_nil) (Nat.le_of_ble_eq_true rfl) (Nat.le_of_ble_eq_true rfl)
theorem tw_X10_requireFound_167 : Cond.classLink RX10 167 "java/util/NoSuchElementException" ∈ wsX10_requireFound ∧ Cond.initialized "java/util/NoSuchElementException" ∈ wsX10_requireFound ∧ ∀ w ∈ (vx_atS RX10 171 "java/util/NoSuchElementException" ["java/lang/RuntimeException", "java/lang/Exception"]).filter goodWord, w ∈ wsX10_requireFound := ⟨by decide +kernel, by decide +kernel, by decide +kernel⟩
def f_X10_requireFound (x0 : Int32) : Option ((Int32) ⊕ String) :=
  if x0 = (-1) then
    (some (.inr "java/util/NoSuchElementException"))
  else
    (some (.inl (x0)))
set_option maxHeartbeats 4000000 in
set_option maxRecDepth 100000 in
theorem c_X10_requireFound (l : Launch) (hl0 : l.stackTraces = false) (dC : Nat → ClassId) (dI : Nat → Nat → Nat) (Y : Nat → ClassId) (g : Nat → Nat → Nat)   (x0 : Int32) (out : Int32 ⊕ String) (hf : f_X10_requireFound x0 = some out) : vx_Met l yX10_requireFound wsX10_requireFound ({ frames := 8, cells := 1, slots := 6, locals := 120 } : Room) (va_Pc [.int x0] (wk_BT (dC, dI) Y g ([] : va_W))) (wxQi out) (wxX out) 1 6 (fun _ => False) := by
  refine vx_ofW (cc := cX10_requireFound) (maxL := 1) (ret := (some .int)) (by decide) rfl ?_
  intro p e s m args below meth c s₁ B hml htab hv
  obtain ⟨rfl, ⟨hP, hK⟩, hT⟩ := hv
  have hx := B.exec
  have hb := B.bytes
  have hr := B.returns
  have hts := atoms_spec (ws := wsX10_requireFound) B.pre
  have hown : s.vm.findClass RX10 = some m.cls := findClass_of_methodNamed B.named
  have hlocks := B.notSynchronized
  have C0 : wk_C p s m _ meth c cX10_requireFound 1 (some .int) wsX10_requireFound RX10 := ⟨hx, hb, hml, hr, hlocks, hown, hts⟩
  have hP : va_P (dC, dI) vwCl [] s.heap := hP
  have hS : va_S (fun _ : Nat => False) s.heap s.heap [] := va_S.rf
  have hl := lv_entry ([.int x0]) (n := 1) (Nat.le_of_ble_eq_true rfl)
  rw [lg_entry_eq]
  generalize (lg_sl ([.int x0]) ++ List.replicate (1 - (lg_sl ([.int x0])).length) Slot.unset).toArray = ls at hl ⊢
  have hl : lv_has ls 1 [(0, .int x0)] := hl
  rw [f_X10_requireFound] at hf
  refine lv_iload_n hx hb dX10_requireFound_0 rfl (lv_at hl 0 rfl) ?_
  refine lv_iconst (v := (-1)) hx hb dX10_requireFound_1 (by decide) ?_
  refine lv_icmp_ne (tgt := 16) hx hb dX10_requireFound_2 (by decide) (fun q1 => ?_) (fun q1 => ?_)
  · have hf := wk_f hf q1
    refine lv_iload_n hx hb dX10_requireFound_16 rfl (lv_at hl 0 rfl) ?_
    have e0 := wke1 hf
    subst e0
    refine W.widen (k := 1) (n := 6) (Nat.le_of_ble_eq_true rfl) (Nat.le_of_ble_eq_true rfl) ?_
    refine vx_ret ?_
    exact W.iret (v := x0) hx hb hr (fun t ht hW => ⟨x0, rfl, rfl, ht⟩) (fun q h => absurd h List.not_mem_nil) dX10_requireFound_17
  · have hf := wk_t hf q1
    have e0 := wke1 hf
    subst e0
    refine vx_throwSW (rest := []) (names := ["java/lang/RuntimeException", "java/lang/Exception"]) (text := "there is no such thing") (sa := g 5 14) (A := (fun _ => False)) hx hb hl0 hown (by decide) (by decide) (hts _ tw_X10_requireFound_167.1) (hts _ tw_X10_requireFound_167.2.1) ((wk_T.thr hT).2.2.1 14 (by decide)) (vx_hat (B := wk_tb "java/util/NoSuchElementException") (fun w h => hts w (tw_X10_requireFound_167.2.2 w h)) (by decide +kernel) (wk_tbp hT 5 (by decide) rfl)) (by decide +kernel) (wk_T.thr hT).1 (wk_T.thr hT).2.1 hS (hl.1.trans hml.symm) dX10_requireFound_5 dX10_requireFound_8 dX10_requireFound_9 dX10_requireFound_12 dX10_requireFound_15 (fun x h => (htab x h).elim) (Nat.le_of_ble_eq_true rfl) (Nat.le_of_ble_eq_true rfl) (Nat.le_of_ble_eq_true rfl) (Nat.le_of_ble_eq_true rfl) hlocks (fun t hvm hz hq => ⟨rfl, hz, hq⟩) (fun q h => absurd h List.not_mem_nil) (Nat.le_of_ble_eq_true rfl) (Nat.le_of_ble_eq_true rfl)
theorem lk_X10_acrobatCount_RX10_12 : Cond.fieldLink RX10 12 "CircusLedger" "now" "LCircusLedger$Circus;" ∈ wsX10_acrobatCount := by decide +kernel
theorem lk_X10_acrobatCount_RX10_122 : Cond.fieldLink RX10 122 "CircusLedger$Circus" "troupe" "LCircusLedger$Troupe;" ∈ wsX10_acrobatCount := by decide +kernel
theorem lk_X10_acrobatCount_RX10_126 : Cond.fieldLink RX10 126 "CircusLedger$Troupe" "count" "I" ∈ wsX10_acrobatCount := by decide +kernel
theorem in_X10_acrobatCount_X10 : ∀ w ∈ u_ws RX10 TX10 9, w ∈ wsX10_acrobatCount := by decide +kernel
theorem in_X10_acrobatCount_X3 : ∀ w ∈ u_ws RX3 TX3 6, w ∈ wsX10_acrobatCount := by decide +kernel
theorem in_X10_acrobatCount_X9 : ∀ w ∈ u_ws RX9 TX9 6, w ∈ wsX10_acrobatCount := by decide +kernel
def f_X10_acrobatCount (T_count : Int32) : Option (Int32) :=
  some (T_count)
set_option maxHeartbeats 4000000 in
set_option maxRecDepth 100000 in
theorem c_X10_acrobatCount (l : Launch) (dC : Nat → ClassId) (dI : Nat → Nat → Nat) (Y : Nat → ClassId) (a : Nat → Nat) (L_hasSnapshot : Int32) (L_formError : Int32) (L_commandError : Int32) (T_count : Int32) (T_weights : Nat → Int32) (T_strengths : Nat → Int32) (T_heights : Nat → Int32) (T_wages : Nat → Int32) (T_nightsToHeal : Nat → Int32) (B_accounts : Int32) (B_balances : Nat → Int32) (B_balancesAtClosing : Nat → Int32) (B_entries : Int32) (B_debited : Nat → Int32) (B_credited : Nat → Int32) (B_amounts : Nat → Int32) (C_nights : Int32) (C_netWidth : Int32) (C_shows : Int32) (C_fallen : Int32)  (r : Int32) (hf : f_X10_acrobatCount T_count = some (r)) : Met l yX10_acrobatCount wsX10_acrobatCount ({ frames := 0, cells := 0, slots := 0, locals := 0 } : Room) (va_Pc [.ref (a 0)] (wk_B (dC, dI) Y (wX10n Y a L_hasSnapshot L_formError L_commandError T_count T_weights T_strengths T_heights T_wages T_nightsToHeal B_accounts B_balances B_balancesAtClosing B_entries B_debited B_credited B_amounts C_nights C_netWidth C_shows C_fallen))) (vp_Si (fun r2 => r2 = r)) 0 0 (fun _ => False) := by
  refine Met.ofW (cc := cX10_acrobatCount) (maxL := 1) (ret := (some .int)) (by decide) rfl ?_
  intro p e s m args below meth c s₁ B hml hv
  obtain ⟨rfl, hP, hK⟩ := hv
  have hx := B.exec
  have hb := B.bytes
  have hr := B.returns
  have hts := atoms_spec (ws := wsX10_acrobatCount) B.pre
  have hown : s.vm.findClass RX10 = some m.cls := findClass_of_methodNamed B.named
  have hlocks := B.notSynchronized
  have C0 : wk_C p s m _ meth c cX10_acrobatCount 1 (some .int) wsX10_acrobatCount RX10 := ⟨hx, hb, hml, hr, hlocks, hown, hts⟩
  have hP : va_P (dC, dI) vwCl [(a 0, .inr (10, [.ref (a 1), .ref (a 14), .ref (a 16), .int L_hasSnapshot, .ref (a 29), .ref (a 34), .int L_formError, .int L_commandError, .ref (a 38)])), (a 1, .inr (5, [.ref (a 2), .ref (a 8), .int C_nights, .int C_netWidth, .int C_shows, .int C_fallen])), (a 2, .inr (9, [.int T_count, .ref (a 3), .ref (a 4), .ref (a 5), .ref (a 6), .ref (a 7)])), (a 3, .inl (Y 0, 6, .inl T_weights)), (a 4, .inl (Y 0, 6, .inl T_strengths)), (a 5, .inl (Y 0, 6, .inl T_heights)), (a 6, .inl (Y 0, 6, .inl T_wages)), (a 7, .inl (Y 0, 6, .inl T_nightsToHeal)), (a 8, .inr (4, [.int B_accounts, .ref (a 9), .ref (a 10), .int B_entries, .ref (a 11), .ref (a 12), .ref (a 13)])), (a 9, .inl (Y 0, 11, .inl B_balances)), (a 10, .inl (Y 0, 11, .inl B_balancesAtClosing)), (a 11, .inl (Y 0, 60, .inl B_debited)), (a 12, .inl (Y 0, 60, .inl B_credited)), (a 13, .inl (Y 0, 60, .inl B_amounts))] s.heap := hP
  have hl := lv_entry ([.ref (a 0)]) (n := 1) (Nat.le_of_ble_eq_true rfl)
  rw [lg_entry_eq]
  generalize (lg_sl ([.ref (a 0)]) ++ List.replicate (1 - (lg_sl ([.ref (a 0)])).length) Slot.unset).toArray = ls at hl ⊢
  have hl : lv_has ls 1 [(0, .ref (a 0))] := hl
  rw [f_X10_acrobatCount] at hf
  refine lv_aload_n hx hb dX10_acrobatCount_0 rfl (lv_at hl 0 rfl) ?_
  refine va_get (D := (dC, dI)) (ci := 10) (v := .ref (a 1)) (C := RX10) (T := TX10) (N := 9) hx hb hts in_X10_acrobatCount_X10 hown hK hP 0 rfl rfl 0 (by decide) (hts _ lk_X10_acrobatCount_RX10_12) (fun _ h9 => h9) rfl dX10_acrobatCount_1 ?_
  refine va_get (D := (dC, dI)) (ci := 5) (v := .ref (a 2)) (C := RX3) (T := TX3) (N := 6) hx hb hts in_X10_acrobatCount_X3 hown hK hP 1 rfl rfl 0 (by decide) (hts _ lk_X10_acrobatCount_RX10_122) (fun _ h9 => h9) rfl dX10_acrobatCount_4 ?_
  refine va_get (D := (dC, dI)) (ci := 9) (v := .int T_count) (C := RX9) (T := TX9) (N := 6) hx hb hts in_X10_acrobatCount_X9 hown hK hP 2 rfl rfl 0 (by decide) (hts _ lk_X10_acrobatCount_RX10_126) (fun _ h9 => h9) rfl dX10_acrobatCount_7 ?_
  have e0 := wke1 hf
  subst e0
  exact W.iret (v := T_count) hx hb hr (fun t ht hW => ⟨T_count, rfl, rfl, ht⟩) (fun q h => absurd h List.not_mem_nil) dX10_acrobatCount_10
theorem lk_X10_accountCount_RX10_12 : Cond.fieldLink RX10 12 "CircusLedger" "now" "LCircusLedger$Circus;" ∈ wsX10_accountCount := by decide +kernel
theorem lk_X10_accountCount_RX10_74 : Cond.fieldLink RX10 74 "CircusLedger$Circus" "books" "LCircusLedger$Books;" ∈ wsX10_accountCount := by decide +kernel
theorem lk_X10_accountCount_RX10_205 : Cond.fieldLink RX10 205 "CircusLedger$Books" "accounts" "I" ∈ wsX10_accountCount := by decide +kernel
theorem in_X10_accountCount_X10 : ∀ w ∈ u_ws RX10 TX10 9, w ∈ wsX10_accountCount := by decide +kernel
theorem in_X10_accountCount_X2 : ∀ w ∈ u_ws RX2 TX2 7, w ∈ wsX10_accountCount := by decide +kernel
theorem in_X10_accountCount_X3 : ∀ w ∈ u_ws RX3 TX3 6, w ∈ wsX10_accountCount := by decide +kernel
def f_X10_accountCount (B_accounts : Int32) : Option (Int32) :=
  some (B_accounts)
set_option maxHeartbeats 4000000 in
set_option maxRecDepth 100000 in
theorem c_X10_accountCount (l : Launch) (dC : Nat → ClassId) (dI : Nat → Nat → Nat) (Y : Nat → ClassId) (a : Nat → Nat) (L_hasSnapshot : Int32) (L_formError : Int32) (L_commandError : Int32) (T_count : Int32) (T_weights : Nat → Int32) (T_strengths : Nat → Int32) (T_heights : Nat → Int32) (T_wages : Nat → Int32) (T_nightsToHeal : Nat → Int32) (B_accounts : Int32) (B_balances : Nat → Int32) (B_balancesAtClosing : Nat → Int32) (B_entries : Int32) (B_debited : Nat → Int32) (B_credited : Nat → Int32) (B_amounts : Nat → Int32) (C_nights : Int32) (C_netWidth : Int32) (C_shows : Int32) (C_fallen : Int32)  (r : Int32) (hf : f_X10_accountCount B_accounts = some (r)) : Met l yX10_accountCount wsX10_accountCount ({ frames := 0, cells := 0, slots := 0, locals := 0 } : Room) (va_Pc [.ref (a 0)] (wk_B (dC, dI) Y (wX10n Y a L_hasSnapshot L_formError L_commandError T_count T_weights T_strengths T_heights T_wages T_nightsToHeal B_accounts B_balances B_balancesAtClosing B_entries B_debited B_credited B_amounts C_nights C_netWidth C_shows C_fallen))) (vp_Si (fun r2 => r2 = r)) 0 0 (fun _ => False) := by
  refine Met.ofW (cc := cX10_accountCount) (maxL := 1) (ret := (some .int)) (by decide) rfl ?_
  intro p e s m args below meth c s₁ B hml hv
  obtain ⟨rfl, hP, hK⟩ := hv
  have hx := B.exec
  have hb := B.bytes
  have hr := B.returns
  have hts := atoms_spec (ws := wsX10_accountCount) B.pre
  have hown : s.vm.findClass RX10 = some m.cls := findClass_of_methodNamed B.named
  have hlocks := B.notSynchronized
  have C0 : wk_C p s m _ meth c cX10_accountCount 1 (some .int) wsX10_accountCount RX10 := ⟨hx, hb, hml, hr, hlocks, hown, hts⟩
  have hP : va_P (dC, dI) vwCl [(a 0, .inr (10, [.ref (a 1), .ref (a 14), .ref (a 16), .int L_hasSnapshot, .ref (a 29), .ref (a 34), .int L_formError, .int L_commandError, .ref (a 38)])), (a 1, .inr (5, [.ref (a 2), .ref (a 8), .int C_nights, .int C_netWidth, .int C_shows, .int C_fallen])), (a 2, .inr (9, [.int T_count, .ref (a 3), .ref (a 4), .ref (a 5), .ref (a 6), .ref (a 7)])), (a 3, .inl (Y 0, 6, .inl T_weights)), (a 4, .inl (Y 0, 6, .inl T_strengths)), (a 5, .inl (Y 0, 6, .inl T_heights)), (a 6, .inl (Y 0, 6, .inl T_wages)), (a 7, .inl (Y 0, 6, .inl T_nightsToHeal)), (a 8, .inr (4, [.int B_accounts, .ref (a 9), .ref (a 10), .int B_entries, .ref (a 11), .ref (a 12), .ref (a 13)])), (a 9, .inl (Y 0, 11, .inl B_balances)), (a 10, .inl (Y 0, 11, .inl B_balancesAtClosing)), (a 11, .inl (Y 0, 60, .inl B_debited)), (a 12, .inl (Y 0, 60, .inl B_credited)), (a 13, .inl (Y 0, 60, .inl B_amounts))] s.heap := hP
  have hl := lv_entry ([.ref (a 0)]) (n := 1) (Nat.le_of_ble_eq_true rfl)
  rw [lg_entry_eq]
  generalize (lg_sl ([.ref (a 0)]) ++ List.replicate (1 - (lg_sl ([.ref (a 0)])).length) Slot.unset).toArray = ls at hl ⊢
  have hl : lv_has ls 1 [(0, .ref (a 0))] := hl
  rw [f_X10_accountCount] at hf
  refine lv_aload_n hx hb dX10_accountCount_0 rfl (lv_at hl 0 rfl) ?_
  refine va_get (D := (dC, dI)) (ci := 10) (v := .ref (a 1)) (C := RX10) (T := TX10) (N := 9) hx hb hts in_X10_accountCount_X10 hown hK hP 0 rfl rfl 0 (by decide) (hts _ lk_X10_accountCount_RX10_12) (fun _ h9 => h9) rfl dX10_accountCount_1 ?_
  refine va_get (D := (dC, dI)) (ci := 5) (v := .ref (a 8)) (C := RX3) (T := TX3) (N := 6) hx hb hts in_X10_accountCount_X3 hown hK hP 1 rfl rfl 1 (by decide) (hts _ lk_X10_accountCount_RX10_74) (fun _ h9 => h9) rfl dX10_accountCount_4 ?_
  refine va_get (D := (dC, dI)) (ci := 4) (v := .int B_accounts) (C := RX2) (T := TX2) (N := 7) hx hb hts in_X10_accountCount_X2 hown hK hP 8 rfl rfl 0 (by decide) (hts _ lk_X10_accountCount_RX10_205) (fun _ h9 => h9) rfl dX10_accountCount_7 ?_
  have e0 := wke1 hf
  subst e0
  exact W.iret (v := B_accounts) hx hb hr (fun t ht hW => ⟨B_accounts, rfl, rfl, ht⟩) (fun q h => absurd h List.not_mem_nil) dX10_accountCount_10
theorem lk_X10_bestHeight_RX10_12 : Cond.fieldLink RX10 12 "CircusLedger" "now" "LCircusLedger$Circus;" ∈ wsX10_bestHeight := by decide +kernel
theorem lk_X10_bestHeight_RX10_122 : Cond.fieldLink RX10 122 "CircusLedger$Circus" "troupe" "LCircusLedger$Troupe;" ∈ wsX10_bestHeight := by decide +kernel
theorem in_X10_bestHeight_X10 : ∀ w ∈ u_ws RX10 TX10 9, w ∈ wsX10_bestHeight := by decide +kernel
theorem in_X10_bestHeight_X3 : ∀ w ∈ u_ws RX3 TX3 6, w ∈ wsX10_bestHeight := by decide +kernel
def f_X10_bestHeight (T_count : Int32) (T_weights : Nat → Int32) (T_strengths : Nat → Int32) (T_heights : Nat → Int32) (T_nightsToHeal : Nat → Int32) : Option (Int32) :=
  wkb1 (f_X9_highestSet T_count T_weights T_strengths T_heights T_nightsToHeal) (fun r1 =>
  wkb1 (f_X9_heightOf T_count T_heights r1) (fun r3 =>
  some (r3)))
set_option maxHeartbeats 4000000 in
set_option maxRecDepth 100000 in
theorem c_X10_bestHeight (l : Launch) (dC : Nat → ClassId) (dI : Nat → Nat → Nat) (Y : Nat → ClassId) (a : Nat → Nat) (L_hasSnapshot : Int32) (L_formError : Int32) (L_commandError : Int32) (T_count : Int32) (T_weights : Nat → Int32) (T_strengths : Nat → Int32) (T_heights : Nat → Int32) (T_wages : Nat → Int32) (T_nightsToHeal : Nat → Int32) (B_accounts : Int32) (B_balances : Nat → Int32) (B_balancesAtClosing : Nat → Int32) (B_entries : Int32) (B_debited : Nat → Int32) (B_credited : Nat → Int32) (B_amounts : Nat → Int32) (C_nights : Int32) (C_netWidth : Int32) (C_shows : Int32) (C_fallen : Int32)  (r : Int32) (hf : f_X10_bestHeight T_count T_weights T_strengths T_heights T_nightsToHeal = some (r)) : Met l yX10_bestHeight wsX10_bestHeight ({ frames := 4, cells := 0, slots := 0, locals := 94 } : Room) (va_Pc [.ref (a 0)] (wk_B (dC, dI) Y (wX10n Y a L_hasSnapshot L_formError L_commandError T_count T_weights T_strengths T_heights T_wages T_nightsToHeal B_accounts B_balances B_balancesAtClosing B_entries B_debited B_credited B_amounts C_nights C_netWidth C_shows C_fallen))) (vp_Si (fun r2 => r2 = r)) 0 0 (fun _ => False) := by
  refine Met.ofW (cc := cX10_bestHeight) (maxL := 1) (ret := (some .int)) (by decide) rfl ?_
  intro p e s m args below meth c s₁ B hml hv
  obtain ⟨rfl, hP, hK⟩ := hv
  have hx := B.exec
  have hb := B.bytes
  have hr := B.returns
  have hts := atoms_spec (ws := wsX10_bestHeight) B.pre
  have hown : s.vm.findClass RX10 = some m.cls := findClass_of_methodNamed B.named
  have hlocks := B.notSynchronized
  have C0 : wk_C p s m _ meth c cX10_bestHeight 1 (some .int) wsX10_bestHeight RX10 := ⟨hx, hb, hml, hr, hlocks, hown, hts⟩
  have hP : va_P (dC, dI) vwCl [(a 0, .inr (10, [.ref (a 1), .ref (a 14), .ref (a 16), .int L_hasSnapshot, .ref (a 29), .ref (a 34), .int L_formError, .int L_commandError, .ref (a 38)])), (a 1, .inr (5, [.ref (a 2), .ref (a 8), .int C_nights, .int C_netWidth, .int C_shows, .int C_fallen])), (a 2, .inr (9, [.int T_count, .ref (a 3), .ref (a 4), .ref (a 5), .ref (a 6), .ref (a 7)])), (a 3, .inl (Y 0, 6, .inl T_weights)), (a 4, .inl (Y 0, 6, .inl T_strengths)), (a 5, .inl (Y 0, 6, .inl T_heights)), (a 6, .inl (Y 0, 6, .inl T_wages)), (a 7, .inl (Y 0, 6, .inl T_nightsToHeal)), (a 8, .inr (4, [.int B_accounts, .ref (a 9), .ref (a 10), .int B_entries, .ref (a 11), .ref (a 12), .ref (a 13)])), (a 9, .inl (Y 0, 11, .inl B_balances)), (a 10, .inl (Y 0, 11, .inl B_balancesAtClosing)), (a 11, .inl (Y 0, 60, .inl B_debited)), (a 12, .inl (Y 0, 60, .inl B_credited)), (a 13, .inl (Y 0, 60, .inl B_amounts))] s.heap := hP
  have hl := lv_entry ([.ref (a 0)]) (n := 1) (Nat.le_of_ble_eq_true rfl)
  rw [lg_entry_eq]
  generalize (lg_sl ([.ref (a 0)]) ++ List.replicate (1 - (lg_sl ([.ref (a 0)])).length) Slot.unset).toArray = ls at hl ⊢
  have hl : lv_has ls 1 [(0, .ref (a 0))] := hl
  rw [f_X10_bestHeight] at hf
  refine lv_aload_n hx hb dX10_bestHeight_0 rfl (lv_at hl 0 rfl) ?_
  refine va_get (D := (dC, dI)) (ci := 10) (v := .ref (a 1)) (C := RX10) (T := TX10) (N := 9) hx hb hts in_X10_bestHeight_X10 hown hK hP 0 rfl rfl 0 (by decide) (hts _ lk_X10_bestHeight_RX10_12) (fun _ h9 => h9) rfl dX10_bestHeight_1 ?_
  refine va_get (D := (dC, dI)) (ci := 5) (v := .ref (a 2)) (C := RX3) (T := TX3) (N := 6) hx hb hts in_X10_bestHeight_X3 hown hK hP 1 rfl rfl 0 (by decide) (hts _ lk_X10_bestHeight_RX10_122) (fun _ h9 => h9) rfl dX10_bestHeight_4 ?_
  refine lv_aload_n hx hb dX10_bestHeight_7 rfl (lv_at hl 0 rfl) ?_
  refine va_get (D := (dC, dI)) (ci := 10) (v := .ref (a 1)) (C := RX10) (T := TX10) (N := 9) hx hb hts in_X10_bestHeight_X10 hown hK hP 0 rfl rfl 0 (by decide) (hts _ lk_X10_bestHeight_RX10_12) (fun _ h9 => h9) rfl dX10_bestHeight_8 ?_
  refine va_get (D := (dC, dI)) (ci := 5) (v := .ref (a 2)) (C := RX3) (T := TX3) (N := 6) hx hb hts in_X10_bestHeight_X3 hown hK hP 1 rfl rfl 0 (by decide) (hts _ lk_X10_bestHeight_RX10_122) (fun _ h9 => h9) rfl dX10_bestHeight_11 ?_
  obtain ⟨r1, hr2, hf⟩ := wkb1_s hf
  have hPc := hP.sub (ws' := (wX9 Y (fun k => a (k + 2)) T_count T_weights T_strengths T_heights T_wages T_nightsToHeal)) [2, 3, 4, 5, 6, 7] rfl
  refine wk_vi (As := []) (rest := [.ref (a 2)]) ⟨hx, hb, hml, hown, hts⟩ (c_X9_highestSet l dC dI Y (fun k => a (k + 2)) T_count T_weights T_strengths T_heights T_wages T_nightsToHeal r1 hr2) (cwV 0 hts gX10_bestHeight_X9_highestSet rfl rfl rfl (by decide +kernel) ⟨Nat.le_of_ble_eq_true rfl, Nat.le_of_ble_eq_true rfl⟩) hK hPc (va_recv hK hP (ci := 9) (q0 := 2) rfl rfl) rfl hl.1 rfl (Nat.le_of_ble_eq_true rfl) dX10_bestHeight_14 ⟨Nat.le_of_ble_eq_true rfl, Nat.le_of_ble_eq_true rfl⟩ ?_
  obtain ⟨r3, hr4, hf⟩ := wkb1_s hf
  have hPc := hP.sub (ws' := (wX9 Y (fun k => a (k + 2)) T_count T_weights T_strengths T_heights T_wages T_nightsToHeal)) [2, 3, 4, 5, 6, 7] rfl
  refine wk_vi (As := [.int r1]) (rest := []) ⟨hx, hb, hml, hown, hts⟩ (c_X9_heightOf l dC dI Y (fun k => a (k + 2)) T_count T_weights T_strengths T_heights T_wages T_nightsToHeal r1 r3 hr4) (cwV 1 hts gX10_bestHeight_X9_heightOf rfl rfl rfl (by decide +kernel) ⟨Nat.le_of_ble_eq_true rfl, Nat.le_of_ble_eq_true rfl⟩) hK hPc (va_recv hK hP (ci := 9) (q0 := 2) rfl rfl) rfl hl.1 rfl (Nat.le_of_ble_eq_true rfl) dX10_bestHeight_17 ⟨Nat.le_of_ble_eq_true rfl, Nat.le_of_ble_eq_true rfl⟩ ?_
  have e0 := wke1 hf
  subst e0
  exact W.iret (v := r3) hx hb hr (fun t ht hW => ⟨r3, rfl, rfl, ht⟩) (fun q h => absurd h List.not_mem_nil) dX10_bestHeight_20
theorem lk_X10_bestHeightBySearch_RX10_12 : Cond.fieldLink RX10 12 "CircusLedger" "now" "LCircusLedger$Circus;" ∈ wsX10_bestHeightBySearch := by decide +kernel
theorem lk_X10_bestHeightBySearch_RX10_122 : Cond.fieldLink RX10 122 "CircusLedger$Circus" "troupe" "LCircusLedger$Troupe;" ∈ wsX10_bestHeightBySearch := by decide +kernel
theorem in_X10_bestHeightBySearch_X10 : ∀ w ∈ u_ws RX10 TX10 9, w ∈ wsX10_bestHeightBySearch := by decide +kernel
theorem in_X10_bestHeightBySearch_X3 : ∀ w ∈ u_ws RX3 TX3 6, w ∈ wsX10_bestHeightBySearch := by decide +kernel
def f_X10_bestHeightBySearch (T_count : Int32) (T_weights : Nat → Int32) (T_strengths : Nat → Int32) (T_heights : Nat → Int32) (T_nightsToHeal : Nat → Int32) : Option (Int32) :=
  wkb1 (f_X9_highestBySearch T_count T_weights T_strengths T_heights T_nightsToHeal) (fun r1 =>
  some (r1))
set_option maxHeartbeats 4000000 in
set_option maxRecDepth 100000 in
theorem c_X10_bestHeightBySearch (l : Launch) (dC : Nat → ClassId) (dI : Nat → Nat → Nat) (Y : Nat → ClassId) (a : Nat → Nat) (L_hasSnapshot : Int32) (L_formError : Int32) (L_commandError : Int32) (T_count : Int32) (T_weights : Nat → Int32) (T_strengths : Nat → Int32) (T_heights : Nat → Int32) (T_wages : Nat → Int32) (T_nightsToHeal : Nat → Int32) (B_accounts : Int32) (B_balances : Nat → Int32) (B_balancesAtClosing : Nat → Int32) (B_entries : Int32) (B_debited : Nat → Int32) (B_credited : Nat → Int32) (B_amounts : Nat → Int32) (C_nights : Int32) (C_netWidth : Int32) (C_shows : Int32) (C_fallen : Int32)  (r : Int32) (hf : f_X10_bestHeightBySearch T_count T_weights T_strengths T_heights T_nightsToHeal = some (r)) : Met l yX10_bestHeightBySearch wsX10_bestHeightBySearch ({ frames := 34, cells := 0, slots := 0, locals := 1006 } : Room) (va_Pc [.ref (a 0)] (wk_B (dC, dI) Y (wX10n Y a L_hasSnapshot L_formError L_commandError T_count T_weights T_strengths T_heights T_wages T_nightsToHeal B_accounts B_balances B_balancesAtClosing B_entries B_debited B_credited B_amounts C_nights C_netWidth C_shows C_fallen))) (vp_Si (fun r2 => r2 = r)) 0 0 (fun _ => False) := by
  refine Met.ofW (cc := cX10_bestHeightBySearch) (maxL := 1) (ret := (some .int)) (by decide) rfl ?_
  intro p e s m args below meth c s₁ B hml hv
  obtain ⟨rfl, hP, hK⟩ := hv
  have hx := B.exec
  have hb := B.bytes
  have hr := B.returns
  have hts := atoms_spec (ws := wsX10_bestHeightBySearch) B.pre
  have hown : s.vm.findClass RX10 = some m.cls := findClass_of_methodNamed B.named
  have hlocks := B.notSynchronized
  have C0 : wk_C p s m _ meth c cX10_bestHeightBySearch 1 (some .int) wsX10_bestHeightBySearch RX10 := ⟨hx, hb, hml, hr, hlocks, hown, hts⟩
  have hP : va_P (dC, dI) vwCl [(a 0, .inr (10, [.ref (a 1), .ref (a 14), .ref (a 16), .int L_hasSnapshot, .ref (a 29), .ref (a 34), .int L_formError, .int L_commandError, .ref (a 38)])), (a 1, .inr (5, [.ref (a 2), .ref (a 8), .int C_nights, .int C_netWidth, .int C_shows, .int C_fallen])), (a 2, .inr (9, [.int T_count, .ref (a 3), .ref (a 4), .ref (a 5), .ref (a 6), .ref (a 7)])), (a 3, .inl (Y 0, 6, .inl T_weights)), (a 4, .inl (Y 0, 6, .inl T_strengths)), (a 5, .inl (Y 0, 6, .inl T_heights)), (a 6, .inl (Y 0, 6, .inl T_wages)), (a 7, .inl (Y 0, 6, .inl T_nightsToHeal)), (a 8, .inr (4, [.int B_accounts, .ref (a 9), .ref (a 10), .int B_entries, .ref (a 11), .ref (a 12), .ref (a 13)])), (a 9, .inl (Y 0, 11, .inl B_balances)), (a 10, .inl (Y 0, 11, .inl B_balancesAtClosing)), (a 11, .inl (Y 0, 60, .inl B_debited)), (a 12, .inl (Y 0, 60, .inl B_credited)), (a 13, .inl (Y 0, 60, .inl B_amounts))] s.heap := hP
  have hl := lv_entry ([.ref (a 0)]) (n := 1) (Nat.le_of_ble_eq_true rfl)
  rw [lg_entry_eq]
  generalize (lg_sl ([.ref (a 0)]) ++ List.replicate (1 - (lg_sl ([.ref (a 0)])).length) Slot.unset).toArray = ls at hl ⊢
  have hl : lv_has ls 1 [(0, .ref (a 0))] := hl
  rw [f_X10_bestHeightBySearch] at hf
  refine lv_aload_n hx hb dX10_bestHeightBySearch_0 rfl (lv_at hl 0 rfl) ?_
  refine va_get (D := (dC, dI)) (ci := 10) (v := .ref (a 1)) (C := RX10) (T := TX10) (N := 9) hx hb hts in_X10_bestHeightBySearch_X10 hown hK hP 0 rfl rfl 0 (by decide) (hts _ lk_X10_bestHeightBySearch_RX10_12) (fun _ h9 => h9) rfl dX10_bestHeightBySearch_1 ?_
  refine va_get (D := (dC, dI)) (ci := 5) (v := .ref (a 2)) (C := RX3) (T := TX3) (N := 6) hx hb hts in_X10_bestHeightBySearch_X3 hown hK hP 1 rfl rfl 0 (by decide) (hts _ lk_X10_bestHeightBySearch_RX10_122) (fun _ h9 => h9) rfl dX10_bestHeightBySearch_4 ?_
  obtain ⟨r1, hr2, hf⟩ := wkb1_s hf
  have hPc := hP.sub (ws' := (wX9 Y (fun k => a (k + 2)) T_count T_weights T_strengths T_heights T_wages T_nightsToHeal)) [2, 3, 4, 5, 6, 7] rfl
  refine wk_vi (As := []) (rest := []) ⟨hx, hb, hml, hown, hts⟩ (c_X9_highestBySearch l dC dI Y (fun k => a (k + 2)) T_count T_weights T_strengths T_heights T_wages T_nightsToHeal r1 hr2) (cwV 0 hts gX10_bestHeightBySearch_X9_highestBySearch rfl rfl rfl (by decide +kernel) ⟨Nat.le_of_ble_eq_true rfl, Nat.le_of_ble_eq_true rfl⟩) hK hPc (va_recv hK hP (ci := 9) (q0 := 2) rfl rfl) rfl hl.1 rfl (Nat.le_of_ble_eq_true rfl) dX10_bestHeightBySearch_7 ⟨Nat.le_of_ble_eq_true rfl, Nat.le_of_ble_eq_true rfl⟩ ?_
  have e0 := wke1 hf
  subst e0
  exact W.iret (v := r1) hx hb hr (fun t ht hW => ⟨r1, rfl, rfl, ht⟩) (fun q h => absurd h List.not_mem_nil) dX10_bestHeightBySearch_10
theorem lk_X10_bestColumn_RX10_12 : Cond.fieldLink RX10 12 "CircusLedger" "now" "LCircusLedger$Circus;" ∈ wsX10_bestColumn := by decide +kernel
theorem lk_X10_bestColumn_RX10_122 : Cond.fieldLink RX10 122 "CircusLedger$Circus" "troupe" "LCircusLedger$Troupe;" ∈ wsX10_bestColumn := by decide +kernel
theorem in_X10_bestColumn_X10 : ∀ w ∈ u_ws RX10 TX10 9, w ∈ wsX10_bestColumn := by decide +kernel
theorem in_X10_bestColumn_X3 : ∀ w ∈ u_ws RX3 TX3 6, w ∈ wsX10_bestColumn := by decide +kernel
def f_X10_bestColumn (T_count : Int32) (T_weights : Nat → Int32) (T_strengths : Nat → Int32) (T_heights : Nat → Int32) (T_nightsToHeal : Nat → Int32) : Option (Int32) :=
  wkb1 (f_X9_highestSet T_count T_weights T_strengths T_heights T_nightsToHeal) (fun r1 =>
  some (r1))
set_option maxHeartbeats 4000000 in
set_option maxRecDepth 100000 in
theorem c_X10_bestColumn (l : Launch) (dC : Nat → ClassId) (dI : Nat → Nat → Nat) (Y : Nat → ClassId) (a : Nat → Nat) (L_hasSnapshot : Int32) (L_formError : Int32) (L_commandError : Int32) (T_count : Int32) (T_weights : Nat → Int32) (T_strengths : Nat → Int32) (T_heights : Nat → Int32) (T_wages : Nat → Int32) (T_nightsToHeal : Nat → Int32) (B_accounts : Int32) (B_balances : Nat → Int32) (B_balancesAtClosing : Nat → Int32) (B_entries : Int32) (B_debited : Nat → Int32) (B_credited : Nat → Int32) (B_amounts : Nat → Int32) (C_nights : Int32) (C_netWidth : Int32) (C_shows : Int32) (C_fallen : Int32)  (r : Int32) (hf : f_X10_bestColumn T_count T_weights T_strengths T_heights T_nightsToHeal = some (r)) : Met l yX10_bestColumn wsX10_bestColumn ({ frames := 4, cells := 0, slots := 0, locals := 94 } : Room) (va_Pc [.ref (a 0)] (wk_B (dC, dI) Y (wX10n Y a L_hasSnapshot L_formError L_commandError T_count T_weights T_strengths T_heights T_wages T_nightsToHeal B_accounts B_balances B_balancesAtClosing B_entries B_debited B_credited B_amounts C_nights C_netWidth C_shows C_fallen))) (vp_Si (fun r2 => r2 = r)) 0 0 (fun _ => False) := by
  refine Met.ofW (cc := cX10_bestColumn) (maxL := 1) (ret := (some .int)) (by decide) rfl ?_
  intro p e s m args below meth c s₁ B hml hv
  obtain ⟨rfl, hP, hK⟩ := hv
  have hx := B.exec
  have hb := B.bytes
  have hr := B.returns
  have hts := atoms_spec (ws := wsX10_bestColumn) B.pre
  have hown : s.vm.findClass RX10 = some m.cls := findClass_of_methodNamed B.named
  have hlocks := B.notSynchronized
  have C0 : wk_C p s m _ meth c cX10_bestColumn 1 (some .int) wsX10_bestColumn RX10 := ⟨hx, hb, hml, hr, hlocks, hown, hts⟩
  have hP : va_P (dC, dI) vwCl [(a 0, .inr (10, [.ref (a 1), .ref (a 14), .ref (a 16), .int L_hasSnapshot, .ref (a 29), .ref (a 34), .int L_formError, .int L_commandError, .ref (a 38)])), (a 1, .inr (5, [.ref (a 2), .ref (a 8), .int C_nights, .int C_netWidth, .int C_shows, .int C_fallen])), (a 2, .inr (9, [.int T_count, .ref (a 3), .ref (a 4), .ref (a 5), .ref (a 6), .ref (a 7)])), (a 3, .inl (Y 0, 6, .inl T_weights)), (a 4, .inl (Y 0, 6, .inl T_strengths)), (a 5, .inl (Y 0, 6, .inl T_heights)), (a 6, .inl (Y 0, 6, .inl T_wages)), (a 7, .inl (Y 0, 6, .inl T_nightsToHeal)), (a 8, .inr (4, [.int B_accounts, .ref (a 9), .ref (a 10), .int B_entries, .ref (a 11), .ref (a 12), .ref (a 13)])), (a 9, .inl (Y 0, 11, .inl B_balances)), (a 10, .inl (Y 0, 11, .inl B_balancesAtClosing)), (a 11, .inl (Y 0, 60, .inl B_debited)), (a 12, .inl (Y 0, 60, .inl B_credited)), (a 13, .inl (Y 0, 60, .inl B_amounts))] s.heap := hP
  have hl := lv_entry ([.ref (a 0)]) (n := 1) (Nat.le_of_ble_eq_true rfl)
  rw [lg_entry_eq]
  generalize (lg_sl ([.ref (a 0)]) ++ List.replicate (1 - (lg_sl ([.ref (a 0)])).length) Slot.unset).toArray = ls at hl ⊢
  have hl : lv_has ls 1 [(0, .ref (a 0))] := hl
  rw [f_X10_bestColumn] at hf
  refine lv_aload_n hx hb dX10_bestColumn_0 rfl (lv_at hl 0 rfl) ?_
  refine va_get (D := (dC, dI)) (ci := 10) (v := .ref (a 1)) (C := RX10) (T := TX10) (N := 9) hx hb hts in_X10_bestColumn_X10 hown hK hP 0 rfl rfl 0 (by decide) (hts _ lk_X10_bestColumn_RX10_12) (fun _ h9 => h9) rfl dX10_bestColumn_1 ?_
  refine va_get (D := (dC, dI)) (ci := 5) (v := .ref (a 2)) (C := RX3) (T := TX3) (N := 6) hx hb hts in_X10_bestColumn_X3 hown hK hP 1 rfl rfl 0 (by decide) (hts _ lk_X10_bestColumn_RX10_122) (fun _ h9 => h9) rfl dX10_bestColumn_4 ?_
  obtain ⟨r1, hr2, hf⟩ := wkb1_s hf
  have hPc := hP.sub (ws' := (wX9 Y (fun k => a (k + 2)) T_count T_weights T_strengths T_heights T_wages T_nightsToHeal)) [2, 3, 4, 5, 6, 7] rfl
  refine wk_vi (As := []) (rest := []) ⟨hx, hb, hml, hown, hts⟩ (c_X9_highestSet l dC dI Y (fun k => a (k + 2)) T_count T_weights T_strengths T_heights T_wages T_nightsToHeal r1 hr2) (cwV 0 hts gX10_bestColumn_X9_highestSet rfl rfl rfl (by decide +kernel) ⟨Nat.le_of_ble_eq_true rfl, Nat.le_of_ble_eq_true rfl⟩) hK hPc (va_recv hK hP (ci := 9) (q0 := 2) rfl rfl) rfl hl.1 rfl (Nat.le_of_ble_eq_true rfl) dX10_bestColumn_7 ⟨Nat.le_of_ble_eq_true rfl, Nat.le_of_ble_eq_true rfl⟩ ?_
  have e0 := wke1 hf
  subst e0
  exact W.iret (v := r1) hx hb hr (fun t ht hW => ⟨r1, rfl, rfl, ht⟩) (fun q h => absurd h List.not_mem_nil) dX10_bestColumn_10
theorem lk_X10_entryCount_RX10_12 : Cond.fieldLink RX10 12 "CircusLedger" "now" "LCircusLedger$Circus;" ∈ wsX10_entryCount := by decide +kernel
theorem lk_X10_entryCount_RX10_74 : Cond.fieldLink RX10 74 "CircusLedger$Circus" "books" "LCircusLedger$Books;" ∈ wsX10_entryCount := by decide +kernel
theorem lk_X10_entryCount_RX10_220 : Cond.fieldLink RX10 220 "CircusLedger$Books" "entries" "I" ∈ wsX10_entryCount := by decide +kernel
theorem in_X10_entryCount_X10 : ∀ w ∈ u_ws RX10 TX10 9, w ∈ wsX10_entryCount := by decide +kernel
theorem in_X10_entryCount_X2 : ∀ w ∈ u_ws RX2 TX2 7, w ∈ wsX10_entryCount := by decide +kernel
theorem in_X10_entryCount_X3 : ∀ w ∈ u_ws RX3 TX3 6, w ∈ wsX10_entryCount := by decide +kernel
def f_X10_entryCount (B_entries : Int32) : Option (Int32) :=
  some (B_entries)
set_option maxHeartbeats 4000000 in
set_option maxRecDepth 100000 in
theorem c_X10_entryCount (l : Launch) (dC : Nat → ClassId) (dI : Nat → Nat → Nat) (Y : Nat → ClassId) (a : Nat → Nat) (L_hasSnapshot : Int32) (L_formError : Int32) (L_commandError : Int32) (T_count : Int32) (T_weights : Nat → Int32) (T_strengths : Nat → Int32) (T_heights : Nat → Int32) (T_wages : Nat → Int32) (T_nightsToHeal : Nat → Int32) (B_accounts : Int32) (B_balances : Nat → Int32) (B_balancesAtClosing : Nat → Int32) (B_entries : Int32) (B_debited : Nat → Int32) (B_credited : Nat → Int32) (B_amounts : Nat → Int32) (C_nights : Int32) (C_netWidth : Int32) (C_shows : Int32) (C_fallen : Int32)  (r : Int32) (hf : f_X10_entryCount B_entries = some (r)) : Met l yX10_entryCount wsX10_entryCount ({ frames := 0, cells := 0, slots := 0, locals := 0 } : Room) (va_Pc [.ref (a 0)] (wk_B (dC, dI) Y (wX10n Y a L_hasSnapshot L_formError L_commandError T_count T_weights T_strengths T_heights T_wages T_nightsToHeal B_accounts B_balances B_balancesAtClosing B_entries B_debited B_credited B_amounts C_nights C_netWidth C_shows C_fallen))) (vp_Si (fun r2 => r2 = r)) 0 0 (fun _ => False) := by
  refine Met.ofW (cc := cX10_entryCount) (maxL := 1) (ret := (some .int)) (by decide) rfl ?_
  intro p e s m args below meth c s₁ B hml hv
  obtain ⟨rfl, hP, hK⟩ := hv
  have hx := B.exec
  have hb := B.bytes
  have hr := B.returns
  have hts := atoms_spec (ws := wsX10_entryCount) B.pre
  have hown : s.vm.findClass RX10 = some m.cls := findClass_of_methodNamed B.named
  have hlocks := B.notSynchronized
  have C0 : wk_C p s m _ meth c cX10_entryCount 1 (some .int) wsX10_entryCount RX10 := ⟨hx, hb, hml, hr, hlocks, hown, hts⟩
  have hP : va_P (dC, dI) vwCl [(a 0, .inr (10, [.ref (a 1), .ref (a 14), .ref (a 16), .int L_hasSnapshot, .ref (a 29), .ref (a 34), .int L_formError, .int L_commandError, .ref (a 38)])), (a 1, .inr (5, [.ref (a 2), .ref (a 8), .int C_nights, .int C_netWidth, .int C_shows, .int C_fallen])), (a 2, .inr (9, [.int T_count, .ref (a 3), .ref (a 4), .ref (a 5), .ref (a 6), .ref (a 7)])), (a 3, .inl (Y 0, 6, .inl T_weights)), (a 4, .inl (Y 0, 6, .inl T_strengths)), (a 5, .inl (Y 0, 6, .inl T_heights)), (a 6, .inl (Y 0, 6, .inl T_wages)), (a 7, .inl (Y 0, 6, .inl T_nightsToHeal)), (a 8, .inr (4, [.int B_accounts, .ref (a 9), .ref (a 10), .int B_entries, .ref (a 11), .ref (a 12), .ref (a 13)])), (a 9, .inl (Y 0, 11, .inl B_balances)), (a 10, .inl (Y 0, 11, .inl B_balancesAtClosing)), (a 11, .inl (Y 0, 60, .inl B_debited)), (a 12, .inl (Y 0, 60, .inl B_credited)), (a 13, .inl (Y 0, 60, .inl B_amounts))] s.heap := hP
  have hl := lv_entry ([.ref (a 0)]) (n := 1) (Nat.le_of_ble_eq_true rfl)
  rw [lg_entry_eq]
  generalize (lg_sl ([.ref (a 0)]) ++ List.replicate (1 - (lg_sl ([.ref (a 0)])).length) Slot.unset).toArray = ls at hl ⊢
  have hl : lv_has ls 1 [(0, .ref (a 0))] := hl
  rw [f_X10_entryCount] at hf
  refine lv_aload_n hx hb dX10_entryCount_0 rfl (lv_at hl 0 rfl) ?_
  refine va_get (D := (dC, dI)) (ci := 10) (v := .ref (a 1)) (C := RX10) (T := TX10) (N := 9) hx hb hts in_X10_entryCount_X10 hown hK hP 0 rfl rfl 0 (by decide) (hts _ lk_X10_entryCount_RX10_12) (fun _ h9 => h9) rfl dX10_entryCount_1 ?_
  refine va_get (D := (dC, dI)) (ci := 5) (v := .ref (a 8)) (C := RX3) (T := TX3) (N := 6) hx hb hts in_X10_entryCount_X3 hown hK hP 1 rfl rfl 1 (by decide) (hts _ lk_X10_entryCount_RX10_74) (fun _ h9 => h9) rfl dX10_entryCount_4 ?_
  refine va_get (D := (dC, dI)) (ci := 4) (v := .int B_entries) (C := RX2) (T := TX2) (N := 7) hx hb hts in_X10_entryCount_X2 hown hK hP 8 rfl rfl 3 (by decide) (hts _ lk_X10_entryCount_RX10_220) (fun _ h9 => h9) rfl dX10_entryCount_7 ?_
  have e0 := wke1 hf
  subst e0
  exact W.iret (v := B_entries) hx hb hr (fun t ht hW => ⟨B_entries, rfl, rfl, ht⟩) (fun q h => absurd h List.not_mem_nil) dX10_entryCount_10
theorem lk_X10_night_RX10_12 : Cond.fieldLink RX10 12 "CircusLedger" "now" "LCircusLedger$Circus;" ∈ wsX10_night := by decide +kernel
theorem lk_X10_night_RX10_245 : Cond.fieldLink RX10 245 "CircusLedger$Circus" "nights" "I" ∈ wsX10_night := by decide +kernel
theorem in_X10_night_X10 : ∀ w ∈ u_ws RX10 TX10 9, w ∈ wsX10_night := by decide +kernel
theorem in_X10_night_X3 : ∀ w ∈ u_ws RX3 TX3 6, w ∈ wsX10_night := by decide +kernel
def f_X10_night (C_nights : Int32) : Option (Int32) :=
  some (C_nights)
set_option maxHeartbeats 4000000 in
set_option maxRecDepth 100000 in
theorem c_X10_night (l : Launch) (dC : Nat → ClassId) (dI : Nat → Nat → Nat) (Y : Nat → ClassId) (a : Nat → Nat) (L_hasSnapshot : Int32) (L_formError : Int32) (L_commandError : Int32) (T_count : Int32) (T_weights : Nat → Int32) (T_strengths : Nat → Int32) (T_heights : Nat → Int32) (T_wages : Nat → Int32) (T_nightsToHeal : Nat → Int32) (B_accounts : Int32) (B_balances : Nat → Int32) (B_balancesAtClosing : Nat → Int32) (B_entries : Int32) (B_debited : Nat → Int32) (B_credited : Nat → Int32) (B_amounts : Nat → Int32) (C_nights : Int32) (C_netWidth : Int32) (C_shows : Int32) (C_fallen : Int32)  (r : Int32) (hf : f_X10_night C_nights = some (r)) : Met l yX10_night wsX10_night ({ frames := 0, cells := 0, slots := 0, locals := 0 } : Room) (va_Pc [.ref (a 0)] (wk_B (dC, dI) Y (wX10n Y a L_hasSnapshot L_formError L_commandError T_count T_weights T_strengths T_heights T_wages T_nightsToHeal B_accounts B_balances B_balancesAtClosing B_entries B_debited B_credited B_amounts C_nights C_netWidth C_shows C_fallen))) (vp_Si (fun r2 => r2 = r)) 0 0 (fun _ => False) := by
  refine Met.ofW (cc := cX10_night) (maxL := 1) (ret := (some .int)) (by decide) rfl ?_
  intro p e s m args below meth c s₁ B hml hv
  obtain ⟨rfl, hP, hK⟩ := hv
  have hx := B.exec
  have hb := B.bytes
  have hr := B.returns
  have hts := atoms_spec (ws := wsX10_night) B.pre
  have hown : s.vm.findClass RX10 = some m.cls := findClass_of_methodNamed B.named
  have hlocks := B.notSynchronized
  have C0 : wk_C p s m _ meth c cX10_night 1 (some .int) wsX10_night RX10 := ⟨hx, hb, hml, hr, hlocks, hown, hts⟩
  have hP : va_P (dC, dI) vwCl [(a 0, .inr (10, [.ref (a 1), .ref (a 14), .ref (a 16), .int L_hasSnapshot, .ref (a 29), .ref (a 34), .int L_formError, .int L_commandError, .ref (a 38)])), (a 1, .inr (5, [.ref (a 2), .ref (a 8), .int C_nights, .int C_netWidth, .int C_shows, .int C_fallen])), (a 2, .inr (9, [.int T_count, .ref (a 3), .ref (a 4), .ref (a 5), .ref (a 6), .ref (a 7)])), (a 3, .inl (Y 0, 6, .inl T_weights)), (a 4, .inl (Y 0, 6, .inl T_strengths)), (a 5, .inl (Y 0, 6, .inl T_heights)), (a 6, .inl (Y 0, 6, .inl T_wages)), (a 7, .inl (Y 0, 6, .inl T_nightsToHeal)), (a 8, .inr (4, [.int B_accounts, .ref (a 9), .ref (a 10), .int B_entries, .ref (a 11), .ref (a 12), .ref (a 13)])), (a 9, .inl (Y 0, 11, .inl B_balances)), (a 10, .inl (Y 0, 11, .inl B_balancesAtClosing)), (a 11, .inl (Y 0, 60, .inl B_debited)), (a 12, .inl (Y 0, 60, .inl B_credited)), (a 13, .inl (Y 0, 60, .inl B_amounts))] s.heap := hP
  have hl := lv_entry ([.ref (a 0)]) (n := 1) (Nat.le_of_ble_eq_true rfl)
  rw [lg_entry_eq]
  generalize (lg_sl ([.ref (a 0)]) ++ List.replicate (1 - (lg_sl ([.ref (a 0)])).length) Slot.unset).toArray = ls at hl ⊢
  have hl : lv_has ls 1 [(0, .ref (a 0))] := hl
  rw [f_X10_night] at hf
  refine lv_aload_n hx hb dX10_night_0 rfl (lv_at hl 0 rfl) ?_
  refine va_get (D := (dC, dI)) (ci := 10) (v := .ref (a 1)) (C := RX10) (T := TX10) (N := 9) hx hb hts in_X10_night_X10 hown hK hP 0 rfl rfl 0 (by decide) (hts _ lk_X10_night_RX10_12) (fun _ h9 => h9) rfl dX10_night_1 ?_
  refine va_get (D := (dC, dI)) (ci := 5) (v := .int C_nights) (C := RX3) (T := TX3) (N := 6) hx hb hts in_X10_night_X3 hown hK hP 1 rfl rfl 2 (by decide) (hts _ lk_X10_night_RX10_245) (fun _ h9 => h9) rfl dX10_night_4 ?_
  have e0 := wke1 hf
  subst e0
  exact W.iret (v := C_nights) hx hb hr (fun t ht hW => ⟨C_nights, rfl, rfl, ht⟩) (fun q h => absurd h List.not_mem_nil) dX10_night_7
theorem lk_X10_net_RX10_12 : Cond.fieldLink RX10 12 "CircusLedger" "now" "LCircusLedger$Circus;" ∈ wsX10_net := by decide +kernel
theorem lk_X10_net_RX10_248 : Cond.fieldLink RX10 248 "CircusLedger$Circus" "netWidth" "I" ∈ wsX10_net := by decide +kernel
theorem in_X10_net_X10 : ∀ w ∈ u_ws RX10 TX10 9, w ∈ wsX10_net := by decide +kernel
theorem in_X10_net_X3 : ∀ w ∈ u_ws RX3 TX3 6, w ∈ wsX10_net := by decide +kernel
def f_X10_net (C_netWidth : Int32) : Option (Int32) :=
  some (C_netWidth)
set_option maxHeartbeats 4000000 in
set_option maxRecDepth 100000 in
theorem c_X10_net (l : Launch) (dC : Nat → ClassId) (dI : Nat → Nat → Nat) (Y : Nat → ClassId) (a : Nat → Nat) (L_hasSnapshot : Int32) (L_formError : Int32) (L_commandError : Int32) (T_count : Int32) (T_weights : Nat → Int32) (T_strengths : Nat → Int32) (T_heights : Nat → Int32) (T_wages : Nat → Int32) (T_nightsToHeal : Nat → Int32) (B_accounts : Int32) (B_balances : Nat → Int32) (B_balancesAtClosing : Nat → Int32) (B_entries : Int32) (B_debited : Nat → Int32) (B_credited : Nat → Int32) (B_amounts : Nat → Int32) (C_nights : Int32) (C_netWidth : Int32) (C_shows : Int32) (C_fallen : Int32)  (r : Int32) (hf : f_X10_net C_netWidth = some (r)) : Met l yX10_net wsX10_net ({ frames := 0, cells := 0, slots := 0, locals := 0 } : Room) (va_Pc [.ref (a 0)] (wk_B (dC, dI) Y (wX10n Y a L_hasSnapshot L_formError L_commandError T_count T_weights T_strengths T_heights T_wages T_nightsToHeal B_accounts B_balances B_balancesAtClosing B_entries B_debited B_credited B_amounts C_nights C_netWidth C_shows C_fallen))) (vp_Si (fun r2 => r2 = r)) 0 0 (fun _ => False) := by
  refine Met.ofW (cc := cX10_net) (maxL := 1) (ret := (some .int)) (by decide) rfl ?_
  intro p e s m args below meth c s₁ B hml hv
  obtain ⟨rfl, hP, hK⟩ := hv
  have hx := B.exec
  have hb := B.bytes
  have hr := B.returns
  have hts := atoms_spec (ws := wsX10_net) B.pre
  have hown : s.vm.findClass RX10 = some m.cls := findClass_of_methodNamed B.named
  have hlocks := B.notSynchronized
  have C0 : wk_C p s m _ meth c cX10_net 1 (some .int) wsX10_net RX10 := ⟨hx, hb, hml, hr, hlocks, hown, hts⟩
  have hP : va_P (dC, dI) vwCl [(a 0, .inr (10, [.ref (a 1), .ref (a 14), .ref (a 16), .int L_hasSnapshot, .ref (a 29), .ref (a 34), .int L_formError, .int L_commandError, .ref (a 38)])), (a 1, .inr (5, [.ref (a 2), .ref (a 8), .int C_nights, .int C_netWidth, .int C_shows, .int C_fallen])), (a 2, .inr (9, [.int T_count, .ref (a 3), .ref (a 4), .ref (a 5), .ref (a 6), .ref (a 7)])), (a 3, .inl (Y 0, 6, .inl T_weights)), (a 4, .inl (Y 0, 6, .inl T_strengths)), (a 5, .inl (Y 0, 6, .inl T_heights)), (a 6, .inl (Y 0, 6, .inl T_wages)), (a 7, .inl (Y 0, 6, .inl T_nightsToHeal)), (a 8, .inr (4, [.int B_accounts, .ref (a 9), .ref (a 10), .int B_entries, .ref (a 11), .ref (a 12), .ref (a 13)])), (a 9, .inl (Y 0, 11, .inl B_balances)), (a 10, .inl (Y 0, 11, .inl B_balancesAtClosing)), (a 11, .inl (Y 0, 60, .inl B_debited)), (a 12, .inl (Y 0, 60, .inl B_credited)), (a 13, .inl (Y 0, 60, .inl B_amounts))] s.heap := hP
  have hl := lv_entry ([.ref (a 0)]) (n := 1) (Nat.le_of_ble_eq_true rfl)
  rw [lg_entry_eq]
  generalize (lg_sl ([.ref (a 0)]) ++ List.replicate (1 - (lg_sl ([.ref (a 0)])).length) Slot.unset).toArray = ls at hl ⊢
  have hl : lv_has ls 1 [(0, .ref (a 0))] := hl
  rw [f_X10_net] at hf
  refine lv_aload_n hx hb dX10_net_0 rfl (lv_at hl 0 rfl) ?_
  refine va_get (D := (dC, dI)) (ci := 10) (v := .ref (a 1)) (C := RX10) (T := TX10) (N := 9) hx hb hts in_X10_net_X10 hown hK hP 0 rfl rfl 0 (by decide) (hts _ lk_X10_net_RX10_12) (fun _ h9 => h9) rfl dX10_net_1 ?_
  refine va_get (D := (dC, dI)) (ci := 5) (v := .int C_netWidth) (C := RX3) (T := TX3) (N := 6) hx hb hts in_X10_net_X3 hown hK hP 1 rfl rfl 3 (by decide) (hts _ lk_X10_net_RX10_248) (fun _ h9 => h9) rfl dX10_net_4 ?_
  have e0 := wke1 hf
  subst e0
  exact W.iret (v := C_netWidth) hx hb hr (fun t ht hW => ⟨C_netWidth, rfl, rfl, ht⟩) (fun q h => absurd h List.not_mem_nil) dX10_net_7
theorem lk_X10_showTotal_RX10_12 : Cond.fieldLink RX10 12 "CircusLedger" "now" "LCircusLedger$Circus;" ∈ wsX10_showTotal := by decide +kernel
theorem lk_X10_showTotal_RX10_251 : Cond.fieldLink RX10 251 "CircusLedger$Circus" "shows" "I" ∈ wsX10_showTotal := by decide +kernel
theorem in_X10_showTotal_X10 : ∀ w ∈ u_ws RX10 TX10 9, w ∈ wsX10_showTotal := by decide +kernel
theorem in_X10_showTotal_X3 : ∀ w ∈ u_ws RX3 TX3 6, w ∈ wsX10_showTotal := by decide +kernel
def f_X10_showTotal (C_shows : Int32) : Option (Int32) :=
  some (C_shows)
set_option maxHeartbeats 4000000 in
set_option maxRecDepth 100000 in
theorem c_X10_showTotal (l : Launch) (dC : Nat → ClassId) (dI : Nat → Nat → Nat) (Y : Nat → ClassId) (a : Nat → Nat) (L_hasSnapshot : Int32) (L_formError : Int32) (L_commandError : Int32) (T_count : Int32) (T_weights : Nat → Int32) (T_strengths : Nat → Int32) (T_heights : Nat → Int32) (T_wages : Nat → Int32) (T_nightsToHeal : Nat → Int32) (B_accounts : Int32) (B_balances : Nat → Int32) (B_balancesAtClosing : Nat → Int32) (B_entries : Int32) (B_debited : Nat → Int32) (B_credited : Nat → Int32) (B_amounts : Nat → Int32) (C_nights : Int32) (C_netWidth : Int32) (C_shows : Int32) (C_fallen : Int32)  (r : Int32) (hf : f_X10_showTotal C_shows = some (r)) : Met l yX10_showTotal wsX10_showTotal ({ frames := 0, cells := 0, slots := 0, locals := 0 } : Room) (va_Pc [.ref (a 0)] (wk_B (dC, dI) Y (wX10n Y a L_hasSnapshot L_formError L_commandError T_count T_weights T_strengths T_heights T_wages T_nightsToHeal B_accounts B_balances B_balancesAtClosing B_entries B_debited B_credited B_amounts C_nights C_netWidth C_shows C_fallen))) (vp_Si (fun r2 => r2 = r)) 0 0 (fun _ => False) := by
  refine Met.ofW (cc := cX10_showTotal) (maxL := 1) (ret := (some .int)) (by decide) rfl ?_
  intro p e s m args below meth c s₁ B hml hv
  obtain ⟨rfl, hP, hK⟩ := hv
  have hx := B.exec
  have hb := B.bytes
  have hr := B.returns
  have hts := atoms_spec (ws := wsX10_showTotal) B.pre
  have hown : s.vm.findClass RX10 = some m.cls := findClass_of_methodNamed B.named
  have hlocks := B.notSynchronized
  have C0 : wk_C p s m _ meth c cX10_showTotal 1 (some .int) wsX10_showTotal RX10 := ⟨hx, hb, hml, hr, hlocks, hown, hts⟩
  have hP : va_P (dC, dI) vwCl [(a 0, .inr (10, [.ref (a 1), .ref (a 14), .ref (a 16), .int L_hasSnapshot, .ref (a 29), .ref (a 34), .int L_formError, .int L_commandError, .ref (a 38)])), (a 1, .inr (5, [.ref (a 2), .ref (a 8), .int C_nights, .int C_netWidth, .int C_shows, .int C_fallen])), (a 2, .inr (9, [.int T_count, .ref (a 3), .ref (a 4), .ref (a 5), .ref (a 6), .ref (a 7)])), (a 3, .inl (Y 0, 6, .inl T_weights)), (a 4, .inl (Y 0, 6, .inl T_strengths)), (a 5, .inl (Y 0, 6, .inl T_heights)), (a 6, .inl (Y 0, 6, .inl T_wages)), (a 7, .inl (Y 0, 6, .inl T_nightsToHeal)), (a 8, .inr (4, [.int B_accounts, .ref (a 9), .ref (a 10), .int B_entries, .ref (a 11), .ref (a 12), .ref (a 13)])), (a 9, .inl (Y 0, 11, .inl B_balances)), (a 10, .inl (Y 0, 11, .inl B_balancesAtClosing)), (a 11, .inl (Y 0, 60, .inl B_debited)), (a 12, .inl (Y 0, 60, .inl B_credited)), (a 13, .inl (Y 0, 60, .inl B_amounts))] s.heap := hP
  have hl := lv_entry ([.ref (a 0)]) (n := 1) (Nat.le_of_ble_eq_true rfl)
  rw [lg_entry_eq]
  generalize (lg_sl ([.ref (a 0)]) ++ List.replicate (1 - (lg_sl ([.ref (a 0)])).length) Slot.unset).toArray = ls at hl ⊢
  have hl : lv_has ls 1 [(0, .ref (a 0))] := hl
  rw [f_X10_showTotal] at hf
  refine lv_aload_n hx hb dX10_showTotal_0 rfl (lv_at hl 0 rfl) ?_
  refine va_get (D := (dC, dI)) (ci := 10) (v := .ref (a 1)) (C := RX10) (T := TX10) (N := 9) hx hb hts in_X10_showTotal_X10 hown hK hP 0 rfl rfl 0 (by decide) (hts _ lk_X10_showTotal_RX10_12) (fun _ h9 => h9) rfl dX10_showTotal_1 ?_
  refine va_get (D := (dC, dI)) (ci := 5) (v := .int C_shows) (C := RX3) (T := TX3) (N := 6) hx hb hts in_X10_showTotal_X3 hown hK hP 1 rfl rfl 4 (by decide) (hts _ lk_X10_showTotal_RX10_251) (fun _ h9 => h9) rfl dX10_showTotal_4 ?_
  have e0 := wke1 hf
  subst e0
  exact W.iret (v := C_shows) hx hb hr (fun t ht hW => ⟨C_shows, rfl, rfl, ht⟩) (fun q h => absurd h List.not_mem_nil) dX10_showTotal_7
theorem lk_X10_fallenTotal_RX10_12 : Cond.fieldLink RX10 12 "CircusLedger" "now" "LCircusLedger$Circus;" ∈ wsX10_fallenTotal := by decide +kernel
theorem lk_X10_fallenTotal_RX10_254 : Cond.fieldLink RX10 254 "CircusLedger$Circus" "fallen" "I" ∈ wsX10_fallenTotal := by decide +kernel
theorem in_X10_fallenTotal_X10 : ∀ w ∈ u_ws RX10 TX10 9, w ∈ wsX10_fallenTotal := by decide +kernel
theorem in_X10_fallenTotal_X3 : ∀ w ∈ u_ws RX3 TX3 6, w ∈ wsX10_fallenTotal := by decide +kernel
def f_X10_fallenTotal (C_fallen : Int32) : Option (Int32) :=
  some (C_fallen)
set_option maxHeartbeats 4000000 in
set_option maxRecDepth 100000 in
theorem c_X10_fallenTotal (l : Launch) (dC : Nat → ClassId) (dI : Nat → Nat → Nat) (Y : Nat → ClassId) (a : Nat → Nat) (L_hasSnapshot : Int32) (L_formError : Int32) (L_commandError : Int32) (T_count : Int32) (T_weights : Nat → Int32) (T_strengths : Nat → Int32) (T_heights : Nat → Int32) (T_wages : Nat → Int32) (T_nightsToHeal : Nat → Int32) (B_accounts : Int32) (B_balances : Nat → Int32) (B_balancesAtClosing : Nat → Int32) (B_entries : Int32) (B_debited : Nat → Int32) (B_credited : Nat → Int32) (B_amounts : Nat → Int32) (C_nights : Int32) (C_netWidth : Int32) (C_shows : Int32) (C_fallen : Int32)  (r : Int32) (hf : f_X10_fallenTotal C_fallen = some (r)) : Met l yX10_fallenTotal wsX10_fallenTotal ({ frames := 0, cells := 0, slots := 0, locals := 0 } : Room) (va_Pc [.ref (a 0)] (wk_B (dC, dI) Y (wX10n Y a L_hasSnapshot L_formError L_commandError T_count T_weights T_strengths T_heights T_wages T_nightsToHeal B_accounts B_balances B_balancesAtClosing B_entries B_debited B_credited B_amounts C_nights C_netWidth C_shows C_fallen))) (vp_Si (fun r2 => r2 = r)) 0 0 (fun _ => False) := by
  refine Met.ofW (cc := cX10_fallenTotal) (maxL := 1) (ret := (some .int)) (by decide) rfl ?_
  intro p e s m args below meth c s₁ B hml hv
  obtain ⟨rfl, hP, hK⟩ := hv
  have hx := B.exec
  have hb := B.bytes
  have hr := B.returns
  have hts := atoms_spec (ws := wsX10_fallenTotal) B.pre
  have hown : s.vm.findClass RX10 = some m.cls := findClass_of_methodNamed B.named
  have hlocks := B.notSynchronized
  have C0 : wk_C p s m _ meth c cX10_fallenTotal 1 (some .int) wsX10_fallenTotal RX10 := ⟨hx, hb, hml, hr, hlocks, hown, hts⟩
  have hP : va_P (dC, dI) vwCl [(a 0, .inr (10, [.ref (a 1), .ref (a 14), .ref (a 16), .int L_hasSnapshot, .ref (a 29), .ref (a 34), .int L_formError, .int L_commandError, .ref (a 38)])), (a 1, .inr (5, [.ref (a 2), .ref (a 8), .int C_nights, .int C_netWidth, .int C_shows, .int C_fallen])), (a 2, .inr (9, [.int T_count, .ref (a 3), .ref (a 4), .ref (a 5), .ref (a 6), .ref (a 7)])), (a 3, .inl (Y 0, 6, .inl T_weights)), (a 4, .inl (Y 0, 6, .inl T_strengths)), (a 5, .inl (Y 0, 6, .inl T_heights)), (a 6, .inl (Y 0, 6, .inl T_wages)), (a 7, .inl (Y 0, 6, .inl T_nightsToHeal)), (a 8, .inr (4, [.int B_accounts, .ref (a 9), .ref (a 10), .int B_entries, .ref (a 11), .ref (a 12), .ref (a 13)])), (a 9, .inl (Y 0, 11, .inl B_balances)), (a 10, .inl (Y 0, 11, .inl B_balancesAtClosing)), (a 11, .inl (Y 0, 60, .inl B_debited)), (a 12, .inl (Y 0, 60, .inl B_credited)), (a 13, .inl (Y 0, 60, .inl B_amounts))] s.heap := hP
  have hl := lv_entry ([.ref (a 0)]) (n := 1) (Nat.le_of_ble_eq_true rfl)
  rw [lg_entry_eq]
  generalize (lg_sl ([.ref (a 0)]) ++ List.replicate (1 - (lg_sl ([.ref (a 0)])).length) Slot.unset).toArray = ls at hl ⊢
  have hl : lv_has ls 1 [(0, .ref (a 0))] := hl
  rw [f_X10_fallenTotal] at hf
  refine lv_aload_n hx hb dX10_fallenTotal_0 rfl (lv_at hl 0 rfl) ?_
  refine va_get (D := (dC, dI)) (ci := 10) (v := .ref (a 1)) (C := RX10) (T := TX10) (N := 9) hx hb hts in_X10_fallenTotal_X10 hown hK hP 0 rfl rfl 0 (by decide) (hts _ lk_X10_fallenTotal_RX10_12) (fun _ h9 => h9) rfl dX10_fallenTotal_1 ?_
  refine va_get (D := (dC, dI)) (ci := 5) (v := .int C_fallen) (C := RX3) (T := TX3) (N := 6) hx hb hts in_X10_fallenTotal_X3 hown hK hP 1 rfl rfl 5 (by decide) (hts _ lk_X10_fallenTotal_RX10_254) (fun _ h9 => h9) rfl dX10_fallenTotal_4 ?_
  have e0 := wke1 hf
  subst e0
  exact W.iret (v := C_fallen) hx hb hr (fun t ht hW => ⟨C_fallen, rfl, rfl, ht⟩) (fun q h => absurd h List.not_mem_nil) dX10_fallenTotal_7
theorem lk_X10_weight_RX10_12 : Cond.fieldLink RX10 12 "CircusLedger" "now" "LCircusLedger$Circus;" ∈ wsX10_weight := by decide +kernel
theorem lk_X10_weight_RX10_122 : Cond.fieldLink RX10 122 "CircusLedger$Circus" "troupe" "LCircusLedger$Troupe;" ∈ wsX10_weight := by decide +kernel
theorem lk_X10_weight_RX10_135 : Cond.fieldLink RX10 135 "CircusLedger$Troupe" "weights" "[I" ∈ wsX10_weight := by decide +kernel
theorem in_X10_weight_X10 : ∀ w ∈ u_ws RX10 TX10 9, w ∈ wsX10_weight := by decide +kernel
theorem in_X10_weight_X3 : ∀ w ∈ u_ws RX3 TX3 6, w ∈ wsX10_weight := by decide +kernel
theorem in_X10_weight_X9 : ∀ w ∈ u_ws RX9 TX9 6, w ∈ wsX10_weight := by decide +kernel
def f_X10_weight (T_count : Int32) (T_weights : Nat → Int32) (x1 : Int32) : Option ((Int32) ⊕ String) :=
  wkx (f_X10_requireAcrobat T_count x1) (fun r2 =>
  gin x1 6 (some (.inl ((T_weights x1.toNatClampNeg)))))
set_option maxHeartbeats 4000000 in
set_option maxRecDepth 100000 in
theorem c_X10_weight (l : Launch) (hl0 : l.stackTraces = false) (dC : Nat → ClassId) (dI : Nat → Nat → Nat) (Y : Nat → ClassId) (g : Nat → Nat → Nat) (a : Nat → Nat) (L_hasSnapshot : Int32) (L_formError : Int32) (L_commandError : Int32) (T_count : Int32) (T_weights : Nat → Int32) (T_strengths : Nat → Int32) (T_heights : Nat → Int32) (T_wages : Nat → Int32) (T_nightsToHeal : Nat → Int32) (B_accounts : Int32) (B_balances : Nat → Int32) (B_balancesAtClosing : Nat → Int32) (B_entries : Int32) (B_debited : Nat → Int32) (B_credited : Nat → Int32) (B_amounts : Nat → Int32) (C_nights : Int32) (C_netWidth : Int32) (C_shows : Int32) (C_fallen : Int32) (x1 : Int32) (out : Int32 ⊕ String) (hf : f_X10_weight T_count T_weights x1 = some out) : vx_Met l yX10_weight wsX10_weight ({ frames := 9, cells := 1, slots := 6, locals := 141 } : Room) (va_Pc [.ref (a 0), .int x1] (wk_BT (dC, dI) Y g (wX10n Y a L_hasSnapshot L_formError L_commandError T_count T_weights T_strengths T_heights T_wages T_nightsToHeal B_accounts B_balances B_balancesAtClosing B_entries B_debited B_credited B_amounts C_nights C_netWidth C_shows C_fallen))) (wxQi out) (wxX out) 1 6 (fun _ => False) := by
  refine vx_ofW (cc := cX10_weight) (maxL := 2) (ret := (some .int)) (by decide) rfl ?_
  intro p e s m args below meth c s₁ B hml htab hv
  obtain ⟨rfl, ⟨hP, hK⟩, hT⟩ := hv
  have hx := B.exec
  have hb := B.bytes
  have hr := B.returns
  have hts := atoms_spec (ws := wsX10_weight) B.pre
  have hown : s.vm.findClass RX10 = some m.cls := findClass_of_methodNamed B.named
  have hlocks := B.notSynchronized
  have C0 : wk_C p s m _ meth c cX10_weight 2 (some .int) wsX10_weight RX10 := ⟨hx, hb, hml, hr, hlocks, hown, hts⟩
  have hP : va_P (dC, dI) vwCl [(a 0, .inr (10, [.ref (a 1), .ref (a 14), .ref (a 16), .int L_hasSnapshot, .ref (a 29), .ref (a 34), .int L_formError, .int L_commandError, .ref (a 38)])), (a 1, .inr (5, [.ref (a 2), .ref (a 8), .int C_nights, .int C_netWidth, .int C_shows, .int C_fallen])), (a 2, .inr (9, [.int T_count, .ref (a 3), .ref (a 4), .ref (a 5), .ref (a 6), .ref (a 7)])), (a 3, .inl (Y 0, 6, .inl T_weights)), (a 4, .inl (Y 0, 6, .inl T_strengths)), (a 5, .inl (Y 0, 6, .inl T_heights)), (a 6, .inl (Y 0, 6, .inl T_wages)), (a 7, .inl (Y 0, 6, .inl T_nightsToHeal)), (a 8, .inr (4, [.int B_accounts, .ref (a 9), .ref (a 10), .int B_entries, .ref (a 11), .ref (a 12), .ref (a 13)])), (a 9, .inl (Y 0, 11, .inl B_balances)), (a 10, .inl (Y 0, 11, .inl B_balancesAtClosing)), (a 11, .inl (Y 0, 60, .inl B_debited)), (a 12, .inl (Y 0, 60, .inl B_credited)), (a 13, .inl (Y 0, 60, .inl B_amounts))] s.heap := hP
  have hS : va_S (fun _ : Nat => False) s.heap s.heap [] := va_S.rf
  have hl := lv_entry ([.ref (a 0), .int x1]) (n := 2) (Nat.le_of_ble_eq_true rfl)
  rw [lg_entry_eq]
  generalize (lg_sl ([.ref (a 0), .int x1]) ++ List.replicate (2 - (lg_sl ([.ref (a 0), .int x1])).length) Slot.unset).toArray = ls at hl ⊢
  have hl : lv_has ls 2 [(0, .ref (a 0)), (1, .int x1)] := hl
  rw [f_X10_weight] at hf
  refine lv_aload_n hx hb dX10_weight_0 rfl (lv_at hl 0 rfl) ?_
  refine lv_iload_n hx hb dX10_weight_1 rfl (lv_at hl 1 rfl) ?_
  rcases wkx_s hf with ⟨r2, hr1, hf⟩ | ⟨E3, hr1, hf⟩
  · have hPc : va_P (dC, dI) vwCl (wX10n Y a L_hasSnapshot L_formError L_commandError T_count T_weights T_strengths T_heights T_wages T_nightsToHeal B_accounts B_balances B_balancesAtClosing B_entries B_debited B_credited B_amounts C_nights C_netWidth C_shows C_fallen) s.heap := hP
    refine wx_vvN (As := [.int x1]) (rest := []) ⟨hx, hb, hml, hown, hts⟩ (c_X10_requireAcrobat l hl0 dC dI Y g a L_hasSnapshot L_formError L_commandError T_count T_weights T_strengths T_heights T_wages T_nightsToHeal B_accounts B_balances B_balancesAtClosing B_entries B_debited B_credited B_amounts C_nights C_netWidth C_shows C_fallen x1 (.inl r2) hr1) (cwV 1 hts gX10_weight_X10_requireAcrobat rfl rfl rfl (by decide +kernel) ⟨Nat.le_of_ble_eq_true rfl, Nat.le_of_ble_eq_true rfl⟩) hK hPc hT hS (va_recv hK hP (ci := 10) (q0 := 0) rfl rfl) rfl hl.1 rfl (Nat.le_of_ble_eq_true rfl) dX10_weight_2 ⟨Nat.le_of_ble_eq_true rfl, Nat.le_of_ble_eq_true rfl⟩ ?_
    refine lv_aload_n hx hb dX10_weight_5 rfl (lv_at hl 0 rfl) ?_
    refine va_get (D := (dC, dI)) (ci := 10) (v := .ref (a 1)) (C := RX10) (T := TX10) (N := 9) hx hb hts in_X10_weight_X10 hown hK hP 0 rfl rfl 0 (by decide) (hts _ lk_X10_weight_RX10_12) (fun _ h9 => h9) rfl dX10_weight_6 ?_
    refine va_get (D := (dC, dI)) (ci := 5) (v := .ref (a 2)) (C := RX3) (T := TX3) (N := 6) hx hb hts in_X10_weight_X3 hown hK hP 1 rfl rfl 0 (by decide) (hts _ lk_X10_weight_RX10_122) (fun _ h9 => h9) rfl dX10_weight_9 ?_
    refine va_get (D := (dC, dI)) (ci := 9) (v := .ref (a 3)) (C := RX9) (T := TX9) (N := 6) hx hb hts in_X10_weight_X9 hown hK hP 2 rfl rfl 1 (by decide) (hts _ lk_X10_weight_RX10_135) (fun _ h9 => h9) rfl dX10_weight_12 ?_
    refine lv_iload_n hx hb dX10_weight_15 rfl (lv_at hl 1 rfl) ?_
    obtain ⟨h4, hf⟩ := gin_s hf
    refine wk_iald hx hb hK hP 3 0 rfl rfl h4 rfl dX10_weight_16 ?_
    have e0 := wke1 hf
    subst e0
    refine W.widen (k := 1) (n := 6) (Nat.le_of_ble_eq_true rfl) (Nat.le_of_ble_eq_true rfl) ?_
    refine vx_ret ?_
    exact W.iret (v := (T_weights x1.toNatClampNeg)) hx hb hr (fun t ht hW => ⟨(T_weights x1.toNatClampNeg), rfl, rfl, ht⟩) (fun q h => absurd h List.not_mem_nil) dX10_weight_17
  · subst hf
    have hPc : va_P (dC, dI) vwCl (wX10n Y a L_hasSnapshot L_formError L_commandError T_count T_weights T_strengths T_heights T_wages T_nightsToHeal B_accounts B_balances B_balancesAtClosing B_entries B_debited B_credited B_amounts C_nights C_netWidth C_shows C_fallen) s.heap := hP
    refine wx_vvX (As := [.int x1]) (rest := []) ⟨hx, hb, hml, hown, hts⟩ (c_X10_requireAcrobat l hl0 dC dI Y g a L_hasSnapshot L_formError L_commandError T_count T_weights T_strengths T_heights T_wages T_nightsToHeal B_accounts B_balances B_balancesAtClosing B_entries B_debited B_credited B_amounts C_nights C_netWidth C_shows C_fallen x1 (.inr E3) hr1) (cwV 1 hts gX10_weight_X10_requireAcrobat rfl rfl rfl (by decide +kernel) ⟨Nat.le_of_ble_eq_true rfl, Nat.le_of_ble_eq_true rfl⟩) hK hPc hT hS (va_recv hK hP (ci := 10) (q0 := 0) rfl rfl) rfl hl.1 rfl (Nat.le_of_ble_eq_true rfl) dX10_weight_2 ⟨Nat.le_of_ble_eq_true rfl, Nat.le_of_ble_eq_true rfl⟩ (fun H1 ce q9 hz hq hce hcv hcl => ?_)
    exact vx_out (fun x h => (htab x h).elim) hlocks hce hcv hcl (fun t ht hvm => ⟨rfl, by rw [ht]; exact hz, fun q h => by rw [ht]; exact hq q h⟩) (fun q h => absurd h List.not_mem_nil) (Nat.le_of_ble_eq_true rfl) (Nat.le_of_ble_eq_true rfl)
theorem lk_X10_strength_RX10_12 : Cond.fieldLink RX10 12 "CircusLedger" "now" "LCircusLedger$Circus;" ∈ wsX10_strength := by decide +kernel
theorem lk_X10_strength_RX10_122 : Cond.fieldLink RX10 122 "CircusLedger$Circus" "troupe" "LCircusLedger$Troupe;" ∈ wsX10_strength := by decide +kernel
theorem lk_X10_strength_RX10_139 : Cond.fieldLink RX10 139 "CircusLedger$Troupe" "strengths" "[I" ∈ wsX10_strength := by decide +kernel
theorem in_X10_strength_X10 : ∀ w ∈ u_ws RX10 TX10 9, w ∈ wsX10_strength := by decide +kernel
theorem in_X10_strength_X3 : ∀ w ∈ u_ws RX3 TX3 6, w ∈ wsX10_strength := by decide +kernel
theorem in_X10_strength_X9 : ∀ w ∈ u_ws RX9 TX9 6, w ∈ wsX10_strength := by decide +kernel
def f_X10_strength (T_count : Int32) (T_strengths : Nat → Int32) (x1 : Int32) : Option ((Int32) ⊕ String) :=
  wkx (f_X10_requireAcrobat T_count x1) (fun r2 =>
  gin x1 6 (some (.inl ((T_strengths x1.toNatClampNeg)))))
set_option maxHeartbeats 4000000 in
set_option maxRecDepth 100000 in
theorem c_X10_strength (l : Launch) (hl0 : l.stackTraces = false) (dC : Nat → ClassId) (dI : Nat → Nat → Nat) (Y : Nat → ClassId) (g : Nat → Nat → Nat) (a : Nat → Nat) (L_hasSnapshot : Int32) (L_formError : Int32) (L_commandError : Int32) (T_count : Int32) (T_weights : Nat → Int32) (T_strengths : Nat → Int32) (T_heights : Nat → Int32) (T_wages : Nat → Int32) (T_nightsToHeal : Nat → Int32) (B_accounts : Int32) (B_balances : Nat → Int32) (B_balancesAtClosing : Nat → Int32) (B_entries : Int32) (B_debited : Nat → Int32) (B_credited : Nat → Int32) (B_amounts : Nat → Int32) (C_nights : Int32) (C_netWidth : Int32) (C_shows : Int32) (C_fallen : Int32) (x1 : Int32) (out : Int32 ⊕ String) (hf : f_X10_strength T_count T_strengths x1 = some out) : vx_Met l yX10_strength wsX10_strength ({ frames := 9, cells := 1, slots := 6, locals := 141 } : Room) (va_Pc [.ref (a 0), .int x1] (wk_BT (dC, dI) Y g (wX10n Y a L_hasSnapshot L_formError L_commandError T_count T_weights T_strengths T_heights T_wages T_nightsToHeal B_accounts B_balances B_balancesAtClosing B_entries B_debited B_credited B_amounts C_nights C_netWidth C_shows C_fallen))) (wxQi out) (wxX out) 1 6 (fun _ => False) := by
  refine vx_ofW (cc := cX10_strength) (maxL := 2) (ret := (some .int)) (by decide) rfl ?_
  intro p e s m args below meth c s₁ B hml htab hv
  obtain ⟨rfl, ⟨hP, hK⟩, hT⟩ := hv
  have hx := B.exec
  have hb := B.bytes
  have hr := B.returns
  have hts := atoms_spec (ws := wsX10_strength) B.pre
  have hown : s.vm.findClass RX10 = some m.cls := findClass_of_methodNamed B.named
  have hlocks := B.notSynchronized
  have C0 : wk_C p s m _ meth c cX10_strength 2 (some .int) wsX10_strength RX10 := ⟨hx, hb, hml, hr, hlocks, hown, hts⟩
  have hP : va_P (dC, dI) vwCl [(a 0, .inr (10, [.ref (a 1), .ref (a 14), .ref (a 16), .int L_hasSnapshot, .ref (a 29), .ref (a 34), .int L_formError, .int L_commandError, .ref (a 38)])), (a 1, .inr (5, [.ref (a 2), .ref (a 8), .int C_nights, .int C_netWidth, .int C_shows, .int C_fallen])), (a 2, .inr (9, [.int T_count, .ref (a 3), .ref (a 4), .ref (a 5), .ref (a 6), .ref (a 7)])), (a 3, .inl (Y 0, 6, .inl T_weights)), (a 4, .inl (Y 0, 6, .inl T_strengths)), (a 5, .inl (Y 0, 6, .inl T_heights)), (a 6, .inl (Y 0, 6, .inl T_wages)), (a 7, .inl (Y 0, 6, .inl T_nightsToHeal)), (a 8, .inr (4, [.int B_accounts, .ref (a 9), .ref (a 10), .int B_entries, .ref (a 11), .ref (a 12), .ref (a 13)])), (a 9, .inl (Y 0, 11, .inl B_balances)), (a 10, .inl (Y 0, 11, .inl B_balancesAtClosing)), (a 11, .inl (Y 0, 60, .inl B_debited)), (a 12, .inl (Y 0, 60, .inl B_credited)), (a 13, .inl (Y 0, 60, .inl B_amounts))] s.heap := hP
  have hS : va_S (fun _ : Nat => False) s.heap s.heap [] := va_S.rf
  have hl := lv_entry ([.ref (a 0), .int x1]) (n := 2) (Nat.le_of_ble_eq_true rfl)
  rw [lg_entry_eq]
  generalize (lg_sl ([.ref (a 0), .int x1]) ++ List.replicate (2 - (lg_sl ([.ref (a 0), .int x1])).length) Slot.unset).toArray = ls at hl ⊢
  have hl : lv_has ls 2 [(0, .ref (a 0)), (1, .int x1)] := hl
  rw [f_X10_strength] at hf
  refine lv_aload_n hx hb dX10_strength_0 rfl (lv_at hl 0 rfl) ?_
  refine lv_iload_n hx hb dX10_strength_1 rfl (lv_at hl 1 rfl) ?_
  rcases wkx_s hf with ⟨r2, hr1, hf⟩ | ⟨E3, hr1, hf⟩
  · have hPc : va_P (dC, dI) vwCl (wX10n Y a L_hasSnapshot L_formError L_commandError T_count T_weights T_strengths T_heights T_wages T_nightsToHeal B_accounts B_balances B_balancesAtClosing B_entries B_debited B_credited B_amounts C_nights C_netWidth C_shows C_fallen) s.heap := hP
    refine wx_vvN (As := [.int x1]) (rest := []) ⟨hx, hb, hml, hown, hts⟩ (c_X10_requireAcrobat l hl0 dC dI Y g a L_hasSnapshot L_formError L_commandError T_count T_weights T_strengths T_heights T_wages T_nightsToHeal B_accounts B_balances B_balancesAtClosing B_entries B_debited B_credited B_amounts C_nights C_netWidth C_shows C_fallen x1 (.inl r2) hr1) (cwV 1 hts gX10_strength_X10_requireAcrobat rfl rfl rfl (by decide +kernel) ⟨Nat.le_of_ble_eq_true rfl, Nat.le_of_ble_eq_true rfl⟩) hK hPc hT hS (va_recv hK hP (ci := 10) (q0 := 0) rfl rfl) rfl hl.1 rfl (Nat.le_of_ble_eq_true rfl) dX10_strength_2 ⟨Nat.le_of_ble_eq_true rfl, Nat.le_of_ble_eq_true rfl⟩ ?_
    refine lv_aload_n hx hb dX10_strength_5 rfl (lv_at hl 0 rfl) ?_
    refine va_get (D := (dC, dI)) (ci := 10) (v := .ref (a 1)) (C := RX10) (T := TX10) (N := 9) hx hb hts in_X10_strength_X10 hown hK hP 0 rfl rfl 0 (by decide) (hts _ lk_X10_strength_RX10_12) (fun _ h9 => h9) rfl dX10_strength_6 ?_
    refine va_get (D := (dC, dI)) (ci := 5) (v := .ref (a 2)) (C := RX3) (T := TX3) (N := 6) hx hb hts in_X10_strength_X3 hown hK hP 1 rfl rfl 0 (by decide) (hts _ lk_X10_strength_RX10_122) (fun _ h9 => h9) rfl dX10_strength_9 ?_
    refine va_get (D := (dC, dI)) (ci := 9) (v := .ref (a 4)) (C := RX9) (T := TX9) (N := 6) hx hb hts in_X10_strength_X9 hown hK hP 2 rfl rfl 2 (by decide) (hts _ lk_X10_strength_RX10_139) (fun _ h9 => h9) rfl dX10_strength_12 ?_
    refine lv_iload_n hx hb dX10_strength_15 rfl (lv_at hl 1 rfl) ?_
    obtain ⟨h4, hf⟩ := gin_s hf
    refine wk_iald hx hb hK hP 4 0 rfl rfl h4 rfl dX10_strength_16 ?_
    have e0 := wke1 hf
    subst e0
    refine W.widen (k := 1) (n := 6) (Nat.le_of_ble_eq_true rfl) (Nat.le_of_ble_eq_true rfl) ?_
    refine vx_ret ?_
    exact W.iret (v := (T_strengths x1.toNatClampNeg)) hx hb hr (fun t ht hW => ⟨(T_strengths x1.toNatClampNeg), rfl, rfl, ht⟩) (fun q h => absurd h List.not_mem_nil) dX10_strength_17
  · subst hf
    have hPc : va_P (dC, dI) vwCl (wX10n Y a L_hasSnapshot L_formError L_commandError T_count T_weights T_strengths T_heights T_wages T_nightsToHeal B_accounts B_balances B_balancesAtClosing B_entries B_debited B_credited B_amounts C_nights C_netWidth C_shows C_fallen) s.heap := hP
    refine wx_vvX (As := [.int x1]) (rest := []) ⟨hx, hb, hml, hown, hts⟩ (c_X10_requireAcrobat l hl0 dC dI Y g a L_hasSnapshot L_formError L_commandError T_count T_weights T_strengths T_heights T_wages T_nightsToHeal B_accounts B_balances B_balancesAtClosing B_entries B_debited B_credited B_amounts C_nights C_netWidth C_shows C_fallen x1 (.inr E3) hr1) (cwV 1 hts gX10_strength_X10_requireAcrobat rfl rfl rfl (by decide +kernel) ⟨Nat.le_of_ble_eq_true rfl, Nat.le_of_ble_eq_true rfl⟩) hK hPc hT hS (va_recv hK hP (ci := 10) (q0 := 0) rfl rfl) rfl hl.1 rfl (Nat.le_of_ble_eq_true rfl) dX10_strength_2 ⟨Nat.le_of_ble_eq_true rfl, Nat.le_of_ble_eq_true rfl⟩ (fun H1 ce q9 hz hq hce hcv hcl => ?_)
    exact vx_out (fun x h => (htab x h).elim) hlocks hce hcv hcl (fun t ht hvm => ⟨rfl, by rw [ht]; exact hz, fun q h => by rw [ht]; exact hq q h⟩) (fun q h => absurd h List.not_mem_nil) (Nat.le_of_ble_eq_true rfl) (Nat.le_of_ble_eq_true rfl)
theorem lk_X10_height_RX10_12 : Cond.fieldLink RX10 12 "CircusLedger" "now" "LCircusLedger$Circus;" ∈ wsX10_height := by decide +kernel
theorem lk_X10_height_RX10_122 : Cond.fieldLink RX10 122 "CircusLedger$Circus" "troupe" "LCircusLedger$Troupe;" ∈ wsX10_height := by decide +kernel
theorem lk_X10_height_RX10_142 : Cond.fieldLink RX10 142 "CircusLedger$Troupe" "heights" "[I" ∈ wsX10_height := by decide +kernel
theorem in_X10_height_X10 : ∀ w ∈ u_ws RX10 TX10 9, w ∈ wsX10_height := by decide +kernel
theorem in_X10_height_X3 : ∀ w ∈ u_ws RX3 TX3 6, w ∈ wsX10_height := by decide +kernel
theorem in_X10_height_X9 : ∀ w ∈ u_ws RX9 TX9 6, w ∈ wsX10_height := by decide +kernel
def f_X10_height (T_count : Int32) (T_heights : Nat → Int32) (x1 : Int32) : Option ((Int32) ⊕ String) :=
  wkx (f_X10_requireAcrobat T_count x1) (fun r2 =>
  gin x1 6 (some (.inl ((T_heights x1.toNatClampNeg)))))
set_option maxHeartbeats 4000000 in
set_option maxRecDepth 100000 in
theorem c_X10_height (l : Launch) (hl0 : l.stackTraces = false) (dC : Nat → ClassId) (dI : Nat → Nat → Nat) (Y : Nat → ClassId) (g : Nat → Nat → Nat) (a : Nat → Nat) (L_hasSnapshot : Int32) (L_formError : Int32) (L_commandError : Int32) (T_count : Int32) (T_weights : Nat → Int32) (T_strengths : Nat → Int32) (T_heights : Nat → Int32) (T_wages : Nat → Int32) (T_nightsToHeal : Nat → Int32) (B_accounts : Int32) (B_balances : Nat → Int32) (B_balancesAtClosing : Nat → Int32) (B_entries : Int32) (B_debited : Nat → Int32) (B_credited : Nat → Int32) (B_amounts : Nat → Int32) (C_nights : Int32) (C_netWidth : Int32) (C_shows : Int32) (C_fallen : Int32) (x1 : Int32) (out : Int32 ⊕ String) (hf : f_X10_height T_count T_heights x1 = some out) : vx_Met l yX10_height wsX10_height ({ frames := 9, cells := 1, slots := 6, locals := 141 } : Room) (va_Pc [.ref (a 0), .int x1] (wk_BT (dC, dI) Y g (wX10n Y a L_hasSnapshot L_formError L_commandError T_count T_weights T_strengths T_heights T_wages T_nightsToHeal B_accounts B_balances B_balancesAtClosing B_entries B_debited B_credited B_amounts C_nights C_netWidth C_shows C_fallen))) (wxQi out) (wxX out) 1 6 (fun _ => False) := by
  refine vx_ofW (cc := cX10_height) (maxL := 2) (ret := (some .int)) (by decide) rfl ?_
  intro p e s m args below meth c s₁ B hml htab hv
  obtain ⟨rfl, ⟨hP, hK⟩, hT⟩ := hv
  have hx := B.exec
  have hb := B.bytes
  have hr := B.returns
  have hts := atoms_spec (ws := wsX10_height) B.pre
  have hown : s.vm.findClass RX10 = some m.cls := findClass_of_methodNamed B.named
  have hlocks := B.notSynchronized
  have C0 : wk_C p s m _ meth c cX10_height 2 (some .int) wsX10_height RX10 := ⟨hx, hb, hml, hr, hlocks, hown, hts⟩
  have hP : va_P (dC, dI) vwCl [(a 0, .inr (10, [.ref (a 1), .ref (a 14), .ref (a 16), .int L_hasSnapshot, .ref (a 29), .ref (a 34), .int L_formError, .int L_commandError, .ref (a 38)])), (a 1, .inr (5, [.ref (a 2), .ref (a 8), .int C_nights, .int C_netWidth, .int C_shows, .int C_fallen])), (a 2, .inr (9, [.int T_count, .ref (a 3), .ref (a 4), .ref (a 5), .ref (a 6), .ref (a 7)])), (a 3, .inl (Y 0, 6, .inl T_weights)), (a 4, .inl (Y 0, 6, .inl T_strengths)), (a 5, .inl (Y 0, 6, .inl T_heights)), (a 6, .inl (Y 0, 6, .inl T_wages)), (a 7, .inl (Y 0, 6, .inl T_nightsToHeal)), (a 8, .inr (4, [.int B_accounts, .ref (a 9), .ref (a 10), .int B_entries, .ref (a 11), .ref (a 12), .ref (a 13)])), (a 9, .inl (Y 0, 11, .inl B_balances)), (a 10, .inl (Y 0, 11, .inl B_balancesAtClosing)), (a 11, .inl (Y 0, 60, .inl B_debited)), (a 12, .inl (Y 0, 60, .inl B_credited)), (a 13, .inl (Y 0, 60, .inl B_amounts))] s.heap := hP
  have hS : va_S (fun _ : Nat => False) s.heap s.heap [] := va_S.rf
  have hl := lv_entry ([.ref (a 0), .int x1]) (n := 2) (Nat.le_of_ble_eq_true rfl)
  rw [lg_entry_eq]
  generalize (lg_sl ([.ref (a 0), .int x1]) ++ List.replicate (2 - (lg_sl ([.ref (a 0), .int x1])).length) Slot.unset).toArray = ls at hl ⊢
  have hl : lv_has ls 2 [(0, .ref (a 0)), (1, .int x1)] := hl
  rw [f_X10_height] at hf
  refine lv_aload_n hx hb dX10_height_0 rfl (lv_at hl 0 rfl) ?_
  refine lv_iload_n hx hb dX10_height_1 rfl (lv_at hl 1 rfl) ?_
  rcases wkx_s hf with ⟨r2, hr1, hf⟩ | ⟨E3, hr1, hf⟩
  · have hPc : va_P (dC, dI) vwCl (wX10n Y a L_hasSnapshot L_formError L_commandError T_count T_weights T_strengths T_heights T_wages T_nightsToHeal B_accounts B_balances B_balancesAtClosing B_entries B_debited B_credited B_amounts C_nights C_netWidth C_shows C_fallen) s.heap := hP
    refine wx_vvN (As := [.int x1]) (rest := []) ⟨hx, hb, hml, hown, hts⟩ (c_X10_requireAcrobat l hl0 dC dI Y g a L_hasSnapshot L_formError L_commandError T_count T_weights T_strengths T_heights T_wages T_nightsToHeal B_accounts B_balances B_balancesAtClosing B_entries B_debited B_credited B_amounts C_nights C_netWidth C_shows C_fallen x1 (.inl r2) hr1) (cwV 1 hts gX10_height_X10_requireAcrobat rfl rfl rfl (by decide +kernel) ⟨Nat.le_of_ble_eq_true rfl, Nat.le_of_ble_eq_true rfl⟩) hK hPc hT hS (va_recv hK hP (ci := 10) (q0 := 0) rfl rfl) rfl hl.1 rfl (Nat.le_of_ble_eq_true rfl) dX10_height_2 ⟨Nat.le_of_ble_eq_true rfl, Nat.le_of_ble_eq_true rfl⟩ ?_
    refine lv_aload_n hx hb dX10_height_5 rfl (lv_at hl 0 rfl) ?_
    refine va_get (D := (dC, dI)) (ci := 10) (v := .ref (a 1)) (C := RX10) (T := TX10) (N := 9) hx hb hts in_X10_height_X10 hown hK hP 0 rfl rfl 0 (by decide) (hts _ lk_X10_height_RX10_12) (fun _ h9 => h9) rfl dX10_height_6 ?_
    refine va_get (D := (dC, dI)) (ci := 5) (v := .ref (a 2)) (C := RX3) (T := TX3) (N := 6) hx hb hts in_X10_height_X3 hown hK hP 1 rfl rfl 0 (by decide) (hts _ lk_X10_height_RX10_122) (fun _ h9 => h9) rfl dX10_height_9 ?_
    refine va_get (D := (dC, dI)) (ci := 9) (v := .ref (a 5)) (C := RX9) (T := TX9) (N := 6) hx hb hts in_X10_height_X9 hown hK hP 2 rfl rfl 3 (by decide) (hts _ lk_X10_height_RX10_142) (fun _ h9 => h9) rfl dX10_height_12 ?_
    refine lv_iload_n hx hb dX10_height_15 rfl (lv_at hl 1 rfl) ?_
    obtain ⟨h4, hf⟩ := gin_s hf
    refine wk_iald hx hb hK hP 5 0 rfl rfl h4 rfl dX10_height_16 ?_
    have e0 := wke1 hf
    subst e0
    refine W.widen (k := 1) (n := 6) (Nat.le_of_ble_eq_true rfl) (Nat.le_of_ble_eq_true rfl) ?_
    refine vx_ret ?_
    exact W.iret (v := (T_heights x1.toNatClampNeg)) hx hb hr (fun t ht hW => ⟨(T_heights x1.toNatClampNeg), rfl, rfl, ht⟩) (fun q h => absurd h List.not_mem_nil) dX10_height_17
  · subst hf
    have hPc : va_P (dC, dI) vwCl (wX10n Y a L_hasSnapshot L_formError L_commandError T_count T_weights T_strengths T_heights T_wages T_nightsToHeal B_accounts B_balances B_balancesAtClosing B_entries B_debited B_credited B_amounts C_nights C_netWidth C_shows C_fallen) s.heap := hP
    refine wx_vvX (As := [.int x1]) (rest := []) ⟨hx, hb, hml, hown, hts⟩ (c_X10_requireAcrobat l hl0 dC dI Y g a L_hasSnapshot L_formError L_commandError T_count T_weights T_strengths T_heights T_wages T_nightsToHeal B_accounts B_balances B_balancesAtClosing B_entries B_debited B_credited B_amounts C_nights C_netWidth C_shows C_fallen x1 (.inr E3) hr1) (cwV 1 hts gX10_height_X10_requireAcrobat rfl rfl rfl (by decide +kernel) ⟨Nat.le_of_ble_eq_true rfl, Nat.le_of_ble_eq_true rfl⟩) hK hPc hT hS (va_recv hK hP (ci := 10) (q0 := 0) rfl rfl) rfl hl.1 rfl (Nat.le_of_ble_eq_true rfl) dX10_height_2 ⟨Nat.le_of_ble_eq_true rfl, Nat.le_of_ble_eq_true rfl⟩ (fun H1 ce q9 hz hq hce hcv hcl => ?_)
    exact vx_out (fun x h => (htab x h).elim) hlocks hce hcv hcl (fun t ht hvm => ⟨rfl, by rw [ht]; exact hz, fun q h => by rw [ht]; exact hq q h⟩) (fun q h => absurd h List.not_mem_nil) (Nat.le_of_ble_eq_true rfl) (Nat.le_of_ble_eq_true rfl)
theorem lk_X10_wage_RX10_12 : Cond.fieldLink RX10 12 "CircusLedger" "now" "LCircusLedger$Circus;" ∈ wsX10_wage := by decide +kernel
theorem lk_X10_wage_RX10_122 : Cond.fieldLink RX10 122 "CircusLedger$Circus" "troupe" "LCircusLedger$Troupe;" ∈ wsX10_wage := by decide +kernel
theorem lk_X10_wage_RX10_145 : Cond.fieldLink RX10 145 "CircusLedger$Troupe" "wages" "[I" ∈ wsX10_wage := by decide +kernel
theorem in_X10_wage_X10 : ∀ w ∈ u_ws RX10 TX10 9, w ∈ wsX10_wage := by decide +kernel
theorem in_X10_wage_X3 : ∀ w ∈ u_ws RX3 TX3 6, w ∈ wsX10_wage := by decide +kernel
theorem in_X10_wage_X9 : ∀ w ∈ u_ws RX9 TX9 6, w ∈ wsX10_wage := by decide +kernel
def f_X10_wage (T_count : Int32) (T_wages : Nat → Int32) (x1 : Int32) : Option ((Int32) ⊕ String) :=
  wkx (f_X10_requireAcrobat T_count x1) (fun r2 =>
  gin x1 6 (some (.inl ((T_wages x1.toNatClampNeg)))))
set_option maxHeartbeats 4000000 in
set_option maxRecDepth 100000 in
theorem c_X10_wage (l : Launch) (hl0 : l.stackTraces = false) (dC : Nat → ClassId) (dI : Nat → Nat → Nat) (Y : Nat → ClassId) (g : Nat → Nat → Nat) (a : Nat → Nat) (L_hasSnapshot : Int32) (L_formError : Int32) (L_commandError : Int32) (T_count : Int32) (T_weights : Nat → Int32) (T_strengths : Nat → Int32) (T_heights : Nat → Int32) (T_wages : Nat → Int32) (T_nightsToHeal : Nat → Int32) (B_accounts : Int32) (B_balances : Nat → Int32) (B_balancesAtClosing : Nat → Int32) (B_entries : Int32) (B_debited : Nat → Int32) (B_credited : Nat → Int32) (B_amounts : Nat → Int32) (C_nights : Int32) (C_netWidth : Int32) (C_shows : Int32) (C_fallen : Int32) (x1 : Int32) (out : Int32 ⊕ String) (hf : f_X10_wage T_count T_wages x1 = some out) : vx_Met l yX10_wage wsX10_wage ({ frames := 9, cells := 1, slots := 6, locals := 141 } : Room) (va_Pc [.ref (a 0), .int x1] (wk_BT (dC, dI) Y g (wX10n Y a L_hasSnapshot L_formError L_commandError T_count T_weights T_strengths T_heights T_wages T_nightsToHeal B_accounts B_balances B_balancesAtClosing B_entries B_debited B_credited B_amounts C_nights C_netWidth C_shows C_fallen))) (wxQi out) (wxX out) 1 6 (fun _ => False) := by
  refine vx_ofW (cc := cX10_wage) (maxL := 2) (ret := (some .int)) (by decide) rfl ?_
  intro p e s m args below meth c s₁ B hml htab hv
  obtain ⟨rfl, ⟨hP, hK⟩, hT⟩ := hv
  have hx := B.exec
  have hb := B.bytes
  have hr := B.returns
  have hts := atoms_spec (ws := wsX10_wage) B.pre
  have hown : s.vm.findClass RX10 = some m.cls := findClass_of_methodNamed B.named
  have hlocks := B.notSynchronized
  have C0 : wk_C p s m _ meth c cX10_wage 2 (some .int) wsX10_wage RX10 := ⟨hx, hb, hml, hr, hlocks, hown, hts⟩
  have hP : va_P (dC, dI) vwCl [(a 0, .inr (10, [.ref (a 1), .ref (a 14), .ref (a 16), .int L_hasSnapshot, .ref (a 29), .ref (a 34), .int L_formError, .int L_commandError, .ref (a 38)])), (a 1, .inr (5, [.ref (a 2), .ref (a 8), .int C_nights, .int C_netWidth, .int C_shows, .int C_fallen])), (a 2, .inr (9, [.int T_count, .ref (a 3), .ref (a 4), .ref (a 5), .ref (a 6), .ref (a 7)])), (a 3, .inl (Y 0, 6, .inl T_weights)), (a 4, .inl (Y 0, 6, .inl T_strengths)), (a 5, .inl (Y 0, 6, .inl T_heights)), (a 6, .inl (Y 0, 6, .inl T_wages)), (a 7, .inl (Y 0, 6, .inl T_nightsToHeal)), (a 8, .inr (4, [.int B_accounts, .ref (a 9), .ref (a 10), .int B_entries, .ref (a 11), .ref (a 12), .ref (a 13)])), (a 9, .inl (Y 0, 11, .inl B_balances)), (a 10, .inl (Y 0, 11, .inl B_balancesAtClosing)), (a 11, .inl (Y 0, 60, .inl B_debited)), (a 12, .inl (Y 0, 60, .inl B_credited)), (a 13, .inl (Y 0, 60, .inl B_amounts))] s.heap := hP
  have hS : va_S (fun _ : Nat => False) s.heap s.heap [] := va_S.rf
  have hl := lv_entry ([.ref (a 0), .int x1]) (n := 2) (Nat.le_of_ble_eq_true rfl)
  rw [lg_entry_eq]
  generalize (lg_sl ([.ref (a 0), .int x1]) ++ List.replicate (2 - (lg_sl ([.ref (a 0), .int x1])).length) Slot.unset).toArray = ls at hl ⊢
  have hl : lv_has ls 2 [(0, .ref (a 0)), (1, .int x1)] := hl
  rw [f_X10_wage] at hf
  refine lv_aload_n hx hb dX10_wage_0 rfl (lv_at hl 0 rfl) ?_
  refine lv_iload_n hx hb dX10_wage_1 rfl (lv_at hl 1 rfl) ?_
  rcases wkx_s hf with ⟨r2, hr1, hf⟩ | ⟨E3, hr1, hf⟩
  · have hPc : va_P (dC, dI) vwCl (wX10n Y a L_hasSnapshot L_formError L_commandError T_count T_weights T_strengths T_heights T_wages T_nightsToHeal B_accounts B_balances B_balancesAtClosing B_entries B_debited B_credited B_amounts C_nights C_netWidth C_shows C_fallen) s.heap := hP
    refine wx_vvN (As := [.int x1]) (rest := []) ⟨hx, hb, hml, hown, hts⟩ (c_X10_requireAcrobat l hl0 dC dI Y g a L_hasSnapshot L_formError L_commandError T_count T_weights T_strengths T_heights T_wages T_nightsToHeal B_accounts B_balances B_balancesAtClosing B_entries B_debited B_credited B_amounts C_nights C_netWidth C_shows C_fallen x1 (.inl r2) hr1) (cwV 1 hts gX10_wage_X10_requireAcrobat rfl rfl rfl (by decide +kernel) ⟨Nat.le_of_ble_eq_true rfl, Nat.le_of_ble_eq_true rfl⟩) hK hPc hT hS (va_recv hK hP (ci := 10) (q0 := 0) rfl rfl) rfl hl.1 rfl (Nat.le_of_ble_eq_true rfl) dX10_wage_2 ⟨Nat.le_of_ble_eq_true rfl, Nat.le_of_ble_eq_true rfl⟩ ?_
    refine lv_aload_n hx hb dX10_wage_5 rfl (lv_at hl 0 rfl) ?_
    refine va_get (D := (dC, dI)) (ci := 10) (v := .ref (a 1)) (C := RX10) (T := TX10) (N := 9) hx hb hts in_X10_wage_X10 hown hK hP 0 rfl rfl 0 (by decide) (hts _ lk_X10_wage_RX10_12) (fun _ h9 => h9) rfl dX10_wage_6 ?_
    refine va_get (D := (dC, dI)) (ci := 5) (v := .ref (a 2)) (C := RX3) (T := TX3) (N := 6) hx hb hts in_X10_wage_X3 hown hK hP 1 rfl rfl 0 (by decide) (hts _ lk_X10_wage_RX10_122) (fun _ h9 => h9) rfl dX10_wage_9 ?_
    refine va_get (D := (dC, dI)) (ci := 9) (v := .ref (a 6)) (C := RX9) (T := TX9) (N := 6) hx hb hts in_X10_wage_X9 hown hK hP 2 rfl rfl 4 (by decide) (hts _ lk_X10_wage_RX10_145) (fun _ h9 => h9) rfl dX10_wage_12 ?_
    refine lv_iload_n hx hb dX10_wage_15 rfl (lv_at hl 1 rfl) ?_
    obtain ⟨h4, hf⟩ := gin_s hf
    refine wk_iald hx hb hK hP 6 0 rfl rfl h4 rfl dX10_wage_16 ?_
    have e0 := wke1 hf
    subst e0
    refine W.widen (k := 1) (n := 6) (Nat.le_of_ble_eq_true rfl) (Nat.le_of_ble_eq_true rfl) ?_
    refine vx_ret ?_
    exact W.iret (v := (T_wages x1.toNatClampNeg)) hx hb hr (fun t ht hW => ⟨(T_wages x1.toNatClampNeg), rfl, rfl, ht⟩) (fun q h => absurd h List.not_mem_nil) dX10_wage_17
  · subst hf
    have hPc : va_P (dC, dI) vwCl (wX10n Y a L_hasSnapshot L_formError L_commandError T_count T_weights T_strengths T_heights T_wages T_nightsToHeal B_accounts B_balances B_balancesAtClosing B_entries B_debited B_credited B_amounts C_nights C_netWidth C_shows C_fallen) s.heap := hP
    refine wx_vvX (As := [.int x1]) (rest := []) ⟨hx, hb, hml, hown, hts⟩ (c_X10_requireAcrobat l hl0 dC dI Y g a L_hasSnapshot L_formError L_commandError T_count T_weights T_strengths T_heights T_wages T_nightsToHeal B_accounts B_balances B_balancesAtClosing B_entries B_debited B_credited B_amounts C_nights C_netWidth C_shows C_fallen x1 (.inr E3) hr1) (cwV 1 hts gX10_wage_X10_requireAcrobat rfl rfl rfl (by decide +kernel) ⟨Nat.le_of_ble_eq_true rfl, Nat.le_of_ble_eq_true rfl⟩) hK hPc hT hS (va_recv hK hP (ci := 10) (q0 := 0) rfl rfl) rfl hl.1 rfl (Nat.le_of_ble_eq_true rfl) dX10_wage_2 ⟨Nat.le_of_ble_eq_true rfl, Nat.le_of_ble_eq_true rfl⟩ (fun H1 ce q9 hz hq hce hcv hcl => ?_)
    exact vx_out (fun x h => (htab x h).elim) hlocks hce hcv hcl (fun t ht hvm => ⟨rfl, by rw [ht]; exact hz, fun q h => by rw [ht]; exact hq q h⟩) (fun q h => absurd h List.not_mem_nil) (Nat.le_of_ble_eq_true rfl) (Nat.le_of_ble_eq_true rfl)
theorem lk_X10_isInjured_RX10_12 : Cond.fieldLink RX10 12 "CircusLedger" "now" "LCircusLedger$Circus;" ∈ wsX10_isInjured := by decide +kernel
theorem lk_X10_isInjured_RX10_122 : Cond.fieldLink RX10 122 "CircusLedger$Circus" "troupe" "LCircusLedger$Troupe;" ∈ wsX10_isInjured := by decide +kernel
theorem lk_X10_isInjured_RX10_148 : Cond.fieldLink RX10 148 "CircusLedger$Troupe" "nightsToHeal" "[I" ∈ wsX10_isInjured := by decide +kernel
theorem in_X10_isInjured_X10 : ∀ w ∈ u_ws RX10 TX10 9, w ∈ wsX10_isInjured := by decide +kernel
theorem in_X10_isInjured_X3 : ∀ w ∈ u_ws RX3 TX3 6, w ∈ wsX10_isInjured := by decide +kernel
theorem in_X10_isInjured_X9 : ∀ w ∈ u_ws RX9 TX9 6, w ∈ wsX10_isInjured := by decide +kernel
def f_X10_isInjured (T_count : Int32) (T_nightsToHeal : Nat → Int32) (x1 : Int32) : Option ((Int32) ⊕ String) :=
  wkx (f_X10_requireAcrobat T_count x1) (fun r2 =>
  gin x1 6 (if (T_nightsToHeal x1.toNatClampNeg) ≤ 0 then
    (some (.inl (0)))
  else
    (some (.inl (1)))))
set_option maxHeartbeats 4000000 in
set_option maxRecDepth 100000 in
theorem c_X10_isInjured (l : Launch) (hl0 : l.stackTraces = false) (dC : Nat → ClassId) (dI : Nat → Nat → Nat) (Y : Nat → ClassId) (g : Nat → Nat → Nat) (a : Nat → Nat) (L_hasSnapshot : Int32) (L_formError : Int32) (L_commandError : Int32) (T_count : Int32) (T_weights : Nat → Int32) (T_strengths : Nat → Int32) (T_heights : Nat → Int32) (T_wages : Nat → Int32) (T_nightsToHeal : Nat → Int32) (B_accounts : Int32) (B_balances : Nat → Int32) (B_balancesAtClosing : Nat → Int32) (B_entries : Int32) (B_debited : Nat → Int32) (B_credited : Nat → Int32) (B_amounts : Nat → Int32) (C_nights : Int32) (C_netWidth : Int32) (C_shows : Int32) (C_fallen : Int32) (x1 : Int32) (out : Int32 ⊕ String) (hf : f_X10_isInjured T_count T_nightsToHeal x1 = some out) : vx_Met l yX10_isInjured wsX10_isInjured ({ frames := 9, cells := 1, slots := 6, locals := 141 } : Room) (va_Pc [.ref (a 0), .int x1] (wk_BT (dC, dI) Y g (wX10n Y a L_hasSnapshot L_formError L_commandError T_count T_weights T_strengths T_heights T_wages T_nightsToHeal B_accounts B_balances B_balancesAtClosing B_entries B_debited B_credited B_amounts C_nights C_netWidth C_shows C_fallen))) (wxQi out) (wxX out) 1 6 (fun _ => False) := by
  refine vx_ofW (cc := cX10_isInjured) (maxL := 2) (ret := (some .boolean)) (by decide) rfl ?_
  intro p e s m args below meth c s₁ B hml htab hv
  obtain ⟨rfl, ⟨hP, hK⟩, hT⟩ := hv
  have hx := B.exec
  have hb := B.bytes
  have hr := B.returns
  have hts := atoms_spec (ws := wsX10_isInjured) B.pre
  have hown : s.vm.findClass RX10 = some m.cls := findClass_of_methodNamed B.named
  have hlocks := B.notSynchronized
  have C0 : wk_C p s m _ meth c cX10_isInjured 2 (some .boolean) wsX10_isInjured RX10 := ⟨hx, hb, hml, hr, hlocks, hown, hts⟩
  have hP : va_P (dC, dI) vwCl [(a 0, .inr (10, [.ref (a 1), .ref (a 14), .ref (a 16), .int L_hasSnapshot, .ref (a 29), .ref (a 34), .int L_formError, .int L_commandError, .ref (a 38)])), (a 1, .inr (5, [.ref (a 2), .ref (a 8), .int C_nights, .int C_netWidth, .int C_shows, .int C_fallen])), (a 2, .inr (9, [.int T_count, .ref (a 3), .ref (a 4), .ref (a 5), .ref (a 6), .ref (a 7)])), (a 3, .inl (Y 0, 6, .inl T_weights)), (a 4, .inl (Y 0, 6, .inl T_strengths)), (a 5, .inl (Y 0, 6, .inl T_heights)), (a 6, .inl (Y 0, 6, .inl T_wages)), (a 7, .inl (Y 0, 6, .inl T_nightsToHeal)), (a 8, .inr (4, [.int B_accounts, .ref (a 9), .ref (a 10), .int B_entries, .ref (a 11), .ref (a 12), .ref (a 13)])), (a 9, .inl (Y 0, 11, .inl B_balances)), (a 10, .inl (Y 0, 11, .inl B_balancesAtClosing)), (a 11, .inl (Y 0, 60, .inl B_debited)), (a 12, .inl (Y 0, 60, .inl B_credited)), (a 13, .inl (Y 0, 60, .inl B_amounts))] s.heap := hP
  have hS : va_S (fun _ : Nat => False) s.heap s.heap [] := va_S.rf
  have hl := lv_entry ([.ref (a 0), .int x1]) (n := 2) (Nat.le_of_ble_eq_true rfl)
  rw [lg_entry_eq]
  generalize (lg_sl ([.ref (a 0), .int x1]) ++ List.replicate (2 - (lg_sl ([.ref (a 0), .int x1])).length) Slot.unset).toArray = ls at hl ⊢
  have hl : lv_has ls 2 [(0, .ref (a 0)), (1, .int x1)] := hl
  rw [f_X10_isInjured] at hf
  refine lv_aload_n hx hb dX10_isInjured_0 rfl (lv_at hl 0 rfl) ?_
  refine lv_iload_n hx hb dX10_isInjured_1 rfl (lv_at hl 1 rfl) ?_
  rcases wkx_s hf with ⟨r2, hr1, hf⟩ | ⟨E3, hr1, hf⟩
  · have hPc : va_P (dC, dI) vwCl (wX10n Y a L_hasSnapshot L_formError L_commandError T_count T_weights T_strengths T_heights T_wages T_nightsToHeal B_accounts B_balances B_balancesAtClosing B_entries B_debited B_credited B_amounts C_nights C_netWidth C_shows C_fallen) s.heap := hP
    refine wx_vvN (As := [.int x1]) (rest := []) ⟨hx, hb, hml, hown, hts⟩ (c_X10_requireAcrobat l hl0 dC dI Y g a L_hasSnapshot L_formError L_commandError T_count T_weights T_strengths T_heights T_wages T_nightsToHeal B_accounts B_balances B_balancesAtClosing B_entries B_debited B_credited B_amounts C_nights C_netWidth C_shows C_fallen x1 (.inl r2) hr1) (cwV 1 hts gX10_isInjured_X10_requireAcrobat rfl rfl rfl (by decide +kernel) ⟨Nat.le_of_ble_eq_true rfl, Nat.le_of_ble_eq_true rfl⟩) hK hPc hT hS (va_recv hK hP (ci := 10) (q0 := 0) rfl rfl) rfl hl.1 rfl (Nat.le_of_ble_eq_true rfl) dX10_isInjured_2 ⟨Nat.le_of_ble_eq_true rfl, Nat.le_of_ble_eq_true rfl⟩ ?_
    refine lv_aload_n hx hb dX10_isInjured_5 rfl (lv_at hl 0 rfl) ?_
    refine va_get (D := (dC, dI)) (ci := 10) (v := .ref (a 1)) (C := RX10) (T := TX10) (N := 9) hx hb hts in_X10_isInjured_X10 hown hK hP 0 rfl rfl 0 (by decide) (hts _ lk_X10_isInjured_RX10_12) (fun _ h9 => h9) rfl dX10_isInjured_6 ?_
    refine va_get (D := (dC, dI)) (ci := 5) (v := .ref (a 2)) (C := RX3) (T := TX3) (N := 6) hx hb hts in_X10_isInjured_X3 hown hK hP 1 rfl rfl 0 (by decide) (hts _ lk_X10_isInjured_RX10_122) (fun _ h9 => h9) rfl dX10_isInjured_9 ?_
    refine va_get (D := (dC, dI)) (ci := 9) (v := .ref (a 7)) (C := RX9) (T := TX9) (N := 6) hx hb hts in_X10_isInjured_X9 hown hK hP 2 rfl rfl 5 (by decide) (hts _ lk_X10_isInjured_RX10_148) (fun _ h9 => h9) rfl dX10_isInjured_12 ?_
    refine lv_iload_n hx hb dX10_isInjured_15 rfl (lv_at hl 1 rfl) ?_
    obtain ⟨h4, hf⟩ := gin_s hf
    refine wk_iald hx hb hK hP 7 0 rfl rfl h4 rfl dX10_isInjured_16 ?_
    refine lv_if_le (tgt := 24) hx hb dX10_isInjured_17 (by decide) (fun q5 => ?_) (fun q5 => ?_)
    · have hf := wk_t hf q5
      refine lv_iconst (v := 0) hx hb dX10_isInjured_24 (by decide) ?_
      have e0 := wke1 hf
      subst e0
      refine W.widen (k := 1) (n := 6) (Nat.le_of_ble_eq_true rfl) (Nat.le_of_ble_eq_true rfl) ?_
      refine vx_ret ?_
      exact W.zret (v := 0) (ty := .boolean) hx hb hr rfl (fun t ht hW => ⟨0, rfl, rfl, ht⟩) (fun q h => absurd h List.not_mem_nil) dX10_isInjured_25
    · have hf := wk_f hf q5
      refine lv_iconst (v := 1) hx hb dX10_isInjured_20 (by decide) ?_
      refine lv_goto (tgt := 25) hx hb dX10_isInjured_21 (by decide) ?_
      have e0 := wke1 hf
      subst e0
      refine W.widen (k := 1) (n := 6) (Nat.le_of_ble_eq_true rfl) (Nat.le_of_ble_eq_true rfl) ?_
      refine vx_ret ?_
      exact W.zret (v := 1) (ty := .boolean) hx hb hr rfl (fun t ht hW => ⟨1, rfl, rfl, ht⟩) (fun q h => absurd h List.not_mem_nil) dX10_isInjured_25
  · subst hf
    have hPc : va_P (dC, dI) vwCl (wX10n Y a L_hasSnapshot L_formError L_commandError T_count T_weights T_strengths T_heights T_wages T_nightsToHeal B_accounts B_balances B_balancesAtClosing B_entries B_debited B_credited B_amounts C_nights C_netWidth C_shows C_fallen) s.heap := hP
    refine wx_vvX (As := [.int x1]) (rest := []) ⟨hx, hb, hml, hown, hts⟩ (c_X10_requireAcrobat l hl0 dC dI Y g a L_hasSnapshot L_formError L_commandError T_count T_weights T_strengths T_heights T_wages T_nightsToHeal B_accounts B_balances B_balancesAtClosing B_entries B_debited B_credited B_amounts C_nights C_netWidth C_shows C_fallen x1 (.inr E3) hr1) (cwV 1 hts gX10_isInjured_X10_requireAcrobat rfl rfl rfl (by decide +kernel) ⟨Nat.le_of_ble_eq_true rfl, Nat.le_of_ble_eq_true rfl⟩) hK hPc hT hS (va_recv hK hP (ci := 10) (q0 := 0) rfl rfl) rfl hl.1 rfl (Nat.le_of_ble_eq_true rfl) dX10_isInjured_2 ⟨Nat.le_of_ble_eq_true rfl, Nat.le_of_ble_eq_true rfl⟩ (fun H1 ce q9 hz hq hce hcv hcl => ?_)
    exact vx_out (fun x h => (htab x h).elim) hlocks hce hcv hcl (fun t ht hvm => ⟨rfl, by rw [ht]; exact hz, fun q h => by rw [ht]; exact hq q h⟩) (fun q h => absurd h List.not_mem_nil) (Nat.le_of_ble_eq_true rfl) (Nat.le_of_ble_eq_true rfl)
theorem lk_X10_nightsUntilFit_RX10_12 : Cond.fieldLink RX10 12 "CircusLedger" "now" "LCircusLedger$Circus;" ∈ wsX10_nightsUntilFit := by decide +kernel
theorem lk_X10_nightsUntilFit_RX10_122 : Cond.fieldLink RX10 122 "CircusLedger$Circus" "troupe" "LCircusLedger$Troupe;" ∈ wsX10_nightsUntilFit := by decide +kernel
theorem lk_X10_nightsUntilFit_RX10_148 : Cond.fieldLink RX10 148 "CircusLedger$Troupe" "nightsToHeal" "[I" ∈ wsX10_nightsUntilFit := by decide +kernel
theorem in_X10_nightsUntilFit_X10 : ∀ w ∈ u_ws RX10 TX10 9, w ∈ wsX10_nightsUntilFit := by decide +kernel
theorem in_X10_nightsUntilFit_X3 : ∀ w ∈ u_ws RX3 TX3 6, w ∈ wsX10_nightsUntilFit := by decide +kernel
theorem in_X10_nightsUntilFit_X9 : ∀ w ∈ u_ws RX9 TX9 6, w ∈ wsX10_nightsUntilFit := by decide +kernel
def f_X10_nightsUntilFit (T_count : Int32) (T_nightsToHeal : Nat → Int32) (x1 : Int32) : Option ((Int32) ⊕ String) :=
  wkx (f_X10_requireAcrobat T_count x1) (fun r2 =>
  gin x1 6 (some (.inl ((T_nightsToHeal x1.toNatClampNeg)))))
set_option maxHeartbeats 4000000 in
set_option maxRecDepth 100000 in
theorem c_X10_nightsUntilFit (l : Launch) (hl0 : l.stackTraces = false) (dC : Nat → ClassId) (dI : Nat → Nat → Nat) (Y : Nat → ClassId) (g : Nat → Nat → Nat) (a : Nat → Nat) (L_hasSnapshot : Int32) (L_formError : Int32) (L_commandError : Int32) (T_count : Int32) (T_weights : Nat → Int32) (T_strengths : Nat → Int32) (T_heights : Nat → Int32) (T_wages : Nat → Int32) (T_nightsToHeal : Nat → Int32) (B_accounts : Int32) (B_balances : Nat → Int32) (B_balancesAtClosing : Nat → Int32) (B_entries : Int32) (B_debited : Nat → Int32) (B_credited : Nat → Int32) (B_amounts : Nat → Int32) (C_nights : Int32) (C_netWidth : Int32) (C_shows : Int32) (C_fallen : Int32) (x1 : Int32) (out : Int32 ⊕ String) (hf : f_X10_nightsUntilFit T_count T_nightsToHeal x1 = some out) : vx_Met l yX10_nightsUntilFit wsX10_nightsUntilFit ({ frames := 9, cells := 1, slots := 6, locals := 141 } : Room) (va_Pc [.ref (a 0), .int x1] (wk_BT (dC, dI) Y g (wX10n Y a L_hasSnapshot L_formError L_commandError T_count T_weights T_strengths T_heights T_wages T_nightsToHeal B_accounts B_balances B_balancesAtClosing B_entries B_debited B_credited B_amounts C_nights C_netWidth C_shows C_fallen))) (wxQi out) (wxX out) 1 6 (fun _ => False) := by
  refine vx_ofW (cc := cX10_nightsUntilFit) (maxL := 2) (ret := (some .int)) (by decide) rfl ?_
  intro p e s m args below meth c s₁ B hml htab hv
  obtain ⟨rfl, ⟨hP, hK⟩, hT⟩ := hv
  have hx := B.exec
  have hb := B.bytes
  have hr := B.returns
  have hts := atoms_spec (ws := wsX10_nightsUntilFit) B.pre
  have hown : s.vm.findClass RX10 = some m.cls := findClass_of_methodNamed B.named
  have hlocks := B.notSynchronized
  have C0 : wk_C p s m _ meth c cX10_nightsUntilFit 2 (some .int) wsX10_nightsUntilFit RX10 := ⟨hx, hb, hml, hr, hlocks, hown, hts⟩
  have hP : va_P (dC, dI) vwCl [(a 0, .inr (10, [.ref (a 1), .ref (a 14), .ref (a 16), .int L_hasSnapshot, .ref (a 29), .ref (a 34), .int L_formError, .int L_commandError, .ref (a 38)])), (a 1, .inr (5, [.ref (a 2), .ref (a 8), .int C_nights, .int C_netWidth, .int C_shows, .int C_fallen])), (a 2, .inr (9, [.int T_count, .ref (a 3), .ref (a 4), .ref (a 5), .ref (a 6), .ref (a 7)])), (a 3, .inl (Y 0, 6, .inl T_weights)), (a 4, .inl (Y 0, 6, .inl T_strengths)), (a 5, .inl (Y 0, 6, .inl T_heights)), (a 6, .inl (Y 0, 6, .inl T_wages)), (a 7, .inl (Y 0, 6, .inl T_nightsToHeal)), (a 8, .inr (4, [.int B_accounts, .ref (a 9), .ref (a 10), .int B_entries, .ref (a 11), .ref (a 12), .ref (a 13)])), (a 9, .inl (Y 0, 11, .inl B_balances)), (a 10, .inl (Y 0, 11, .inl B_balancesAtClosing)), (a 11, .inl (Y 0, 60, .inl B_debited)), (a 12, .inl (Y 0, 60, .inl B_credited)), (a 13, .inl (Y 0, 60, .inl B_amounts))] s.heap := hP
  have hS : va_S (fun _ : Nat => False) s.heap s.heap [] := va_S.rf
  have hl := lv_entry ([.ref (a 0), .int x1]) (n := 2) (Nat.le_of_ble_eq_true rfl)
  rw [lg_entry_eq]
  generalize (lg_sl ([.ref (a 0), .int x1]) ++ List.replicate (2 - (lg_sl ([.ref (a 0), .int x1])).length) Slot.unset).toArray = ls at hl ⊢
  have hl : lv_has ls 2 [(0, .ref (a 0)), (1, .int x1)] := hl
  rw [f_X10_nightsUntilFit] at hf
  refine lv_aload_n hx hb dX10_nightsUntilFit_0 rfl (lv_at hl 0 rfl) ?_
  refine lv_iload_n hx hb dX10_nightsUntilFit_1 rfl (lv_at hl 1 rfl) ?_
  rcases wkx_s hf with ⟨r2, hr1, hf⟩ | ⟨E3, hr1, hf⟩
  · have hPc : va_P (dC, dI) vwCl (wX10n Y a L_hasSnapshot L_formError L_commandError T_count T_weights T_strengths T_heights T_wages T_nightsToHeal B_accounts B_balances B_balancesAtClosing B_entries B_debited B_credited B_amounts C_nights C_netWidth C_shows C_fallen) s.heap := hP
    refine wx_vvN (As := [.int x1]) (rest := []) ⟨hx, hb, hml, hown, hts⟩ (c_X10_requireAcrobat l hl0 dC dI Y g a L_hasSnapshot L_formError L_commandError T_count T_weights T_strengths T_heights T_wages T_nightsToHeal B_accounts B_balances B_balancesAtClosing B_entries B_debited B_credited B_amounts C_nights C_netWidth C_shows C_fallen x1 (.inl r2) hr1) (cwV 1 hts gX10_nightsUntilFit_X10_requireAcrobat rfl rfl rfl (by decide +kernel) ⟨Nat.le_of_ble_eq_true rfl, Nat.le_of_ble_eq_true rfl⟩) hK hPc hT hS (va_recv hK hP (ci := 10) (q0 := 0) rfl rfl) rfl hl.1 rfl (Nat.le_of_ble_eq_true rfl) dX10_nightsUntilFit_2 ⟨Nat.le_of_ble_eq_true rfl, Nat.le_of_ble_eq_true rfl⟩ ?_
    refine lv_aload_n hx hb dX10_nightsUntilFit_5 rfl (lv_at hl 0 rfl) ?_
    refine va_get (D := (dC, dI)) (ci := 10) (v := .ref (a 1)) (C := RX10) (T := TX10) (N := 9) hx hb hts in_X10_nightsUntilFit_X10 hown hK hP 0 rfl rfl 0 (by decide) (hts _ lk_X10_nightsUntilFit_RX10_12) (fun _ h9 => h9) rfl dX10_nightsUntilFit_6 ?_
    refine va_get (D := (dC, dI)) (ci := 5) (v := .ref (a 2)) (C := RX3) (T := TX3) (N := 6) hx hb hts in_X10_nightsUntilFit_X3 hown hK hP 1 rfl rfl 0 (by decide) (hts _ lk_X10_nightsUntilFit_RX10_122) (fun _ h9 => h9) rfl dX10_nightsUntilFit_9 ?_
    refine va_get (D := (dC, dI)) (ci := 9) (v := .ref (a 7)) (C := RX9) (T := TX9) (N := 6) hx hb hts in_X10_nightsUntilFit_X9 hown hK hP 2 rfl rfl 5 (by decide) (hts _ lk_X10_nightsUntilFit_RX10_148) (fun _ h9 => h9) rfl dX10_nightsUntilFit_12 ?_
    refine lv_iload_n hx hb dX10_nightsUntilFit_15 rfl (lv_at hl 1 rfl) ?_
    obtain ⟨h4, hf⟩ := gin_s hf
    refine wk_iald hx hb hK hP 7 0 rfl rfl h4 rfl dX10_nightsUntilFit_16 ?_
    have e0 := wke1 hf
    subst e0
    refine W.widen (k := 1) (n := 6) (Nat.le_of_ble_eq_true rfl) (Nat.le_of_ble_eq_true rfl) ?_
    refine vx_ret ?_
    exact W.iret (v := (T_nightsToHeal x1.toNatClampNeg)) hx hb hr (fun t ht hW => ⟨(T_nightsToHeal x1.toNatClampNeg), rfl, rfl, ht⟩) (fun q h => absurd h List.not_mem_nil) dX10_nightsUntilFit_17
  · subst hf
    have hPc : va_P (dC, dI) vwCl (wX10n Y a L_hasSnapshot L_formError L_commandError T_count T_weights T_strengths T_heights T_wages T_nightsToHeal B_accounts B_balances B_balancesAtClosing B_entries B_debited B_credited B_amounts C_nights C_netWidth C_shows C_fallen) s.heap := hP
    refine wx_vvX (As := [.int x1]) (rest := []) ⟨hx, hb, hml, hown, hts⟩ (c_X10_requireAcrobat l hl0 dC dI Y g a L_hasSnapshot L_formError L_commandError T_count T_weights T_strengths T_heights T_wages T_nightsToHeal B_accounts B_balances B_balancesAtClosing B_entries B_debited B_credited B_amounts C_nights C_netWidth C_shows C_fallen x1 (.inr E3) hr1) (cwV 1 hts gX10_nightsUntilFit_X10_requireAcrobat rfl rfl rfl (by decide +kernel) ⟨Nat.le_of_ble_eq_true rfl, Nat.le_of_ble_eq_true rfl⟩) hK hPc hT hS (va_recv hK hP (ci := 10) (q0 := 0) rfl rfl) rfl hl.1 rfl (Nat.le_of_ble_eq_true rfl) dX10_nightsUntilFit_2 ⟨Nat.le_of_ble_eq_true rfl, Nat.le_of_ble_eq_true rfl⟩ (fun H1 ce q9 hz hq hce hcv hcl => ?_)
    exact vx_out (fun x h => (htab x h).elim) hlocks hce hcv hcl (fun t ht hvm => ⟨rfl, by rw [ht]; exact hz, fun q h => by rw [ht]; exact hq q h⟩) (fun q h => absurd h List.not_mem_nil) (Nat.le_of_ble_eq_true rfl) (Nat.le_of_ble_eq_true rfl)
theorem lk_X10_canStand_RX10_12 : Cond.fieldLink RX10 12 "CircusLedger" "now" "LCircusLedger$Circus;" ∈ wsX10_canStand := by decide +kernel
theorem lk_X10_canStand_RX10_122 : Cond.fieldLink RX10 122 "CircusLedger$Circus" "troupe" "LCircusLedger$Troupe;" ∈ wsX10_canStand := by decide +kernel
theorem in_X10_canStand_X10 : ∀ w ∈ u_ws RX10 TX10 9, w ∈ wsX10_canStand := by decide +kernel
theorem in_X10_canStand_X3 : ∀ w ∈ u_ws RX3 TX3 6, w ∈ wsX10_canStand := by decide +kernel
def f_X10_canStand (T_count : Int32) (T_weights : Nat → Int32) (T_strengths : Nat → Int32) (x1 : Int32) : Option ((Int32) ⊕ String) :=
  wkx (f_X10_requireSet T_count x1) (fun r2 =>
  wkb1 (f_X9_overloadedOf T_count T_weights T_strengths x1) (fun r4 =>
  if r4 = (-1) then
    (some (.inl (1)))
  else
    (some (.inl (0)))))
set_option maxHeartbeats 4000000 in
set_option maxRecDepth 100000 in
theorem c_X10_canStand (l : Launch) (hl0 : l.stackTraces = false) (dC : Nat → ClassId) (dI : Nat → Nat → Nat) (Y : Nat → ClassId) (g : Nat → Nat → Nat) (a : Nat → Nat) (L_hasSnapshot : Int32) (L_formError : Int32) (L_commandError : Int32) (T_count : Int32) (T_weights : Nat → Int32) (T_strengths : Nat → Int32) (T_heights : Nat → Int32) (T_wages : Nat → Int32) (T_nightsToHeal : Nat → Int32) (B_accounts : Int32) (B_balances : Nat → Int32) (B_balancesAtClosing : Nat → Int32) (B_entries : Int32) (B_debited : Nat → Int32) (B_credited : Nat → Int32) (B_amounts : Nat → Int32) (C_nights : Int32) (C_netWidth : Int32) (C_shows : Int32) (C_fallen : Int32) (x1 : Int32) (out : Int32 ⊕ String) (hf : f_X10_canStand T_count T_weights T_strengths x1 = some out) : vx_Met l yX10_canStand wsX10_canStand ({ frames := 9, cells := 1, slots := 6, locals := 141 } : Room) (va_Pc [.ref (a 0), .int x1] (wk_BT (dC, dI) Y g (wX10n Y a L_hasSnapshot L_formError L_commandError T_count T_weights T_strengths T_heights T_wages T_nightsToHeal B_accounts B_balances B_balancesAtClosing B_entries B_debited B_credited B_amounts C_nights C_netWidth C_shows C_fallen))) (wxQi out) (wxX out) 1 6 (fun _ => False) := by
  refine vx_ofW (cc := cX10_canStand) (maxL := 2) (ret := (some .boolean)) (by decide) rfl ?_
  intro p e s m args below meth c s₁ B hml htab hv
  obtain ⟨rfl, ⟨hP, hK⟩, hT⟩ := hv
  have hx := B.exec
  have hb := B.bytes
  have hr := B.returns
  have hts := atoms_spec (ws := wsX10_canStand) B.pre
  have hown : s.vm.findClass RX10 = some m.cls := findClass_of_methodNamed B.named
  have hlocks := B.notSynchronized
  have C0 : wk_C p s m _ meth c cX10_canStand 2 (some .boolean) wsX10_canStand RX10 := ⟨hx, hb, hml, hr, hlocks, hown, hts⟩
  have hP : va_P (dC, dI) vwCl [(a 0, .inr (10, [.ref (a 1), .ref (a 14), .ref (a 16), .int L_hasSnapshot, .ref (a 29), .ref (a 34), .int L_formError, .int L_commandError, .ref (a 38)])), (a 1, .inr (5, [.ref (a 2), .ref (a 8), .int C_nights, .int C_netWidth, .int C_shows, .int C_fallen])), (a 2, .inr (9, [.int T_count, .ref (a 3), .ref (a 4), .ref (a 5), .ref (a 6), .ref (a 7)])), (a 3, .inl (Y 0, 6, .inl T_weights)), (a 4, .inl (Y 0, 6, .inl T_strengths)), (a 5, .inl (Y 0, 6, .inl T_heights)), (a 6, .inl (Y 0, 6, .inl T_wages)), (a 7, .inl (Y 0, 6, .inl T_nightsToHeal)), (a 8, .inr (4, [.int B_accounts, .ref (a 9), .ref (a 10), .int B_entries, .ref (a 11), .ref (a 12), .ref (a 13)])), (a 9, .inl (Y 0, 11, .inl B_balances)), (a 10, .inl (Y 0, 11, .inl B_balancesAtClosing)), (a 11, .inl (Y 0, 60, .inl B_debited)), (a 12, .inl (Y 0, 60, .inl B_credited)), (a 13, .inl (Y 0, 60, .inl B_amounts))] s.heap := hP
  have hS : va_S (fun _ : Nat => False) s.heap s.heap [] := va_S.rf
  have hl := lv_entry ([.ref (a 0), .int x1]) (n := 2) (Nat.le_of_ble_eq_true rfl)
  rw [lg_entry_eq]
  generalize (lg_sl ([.ref (a 0), .int x1]) ++ List.replicate (2 - (lg_sl ([.ref (a 0), .int x1])).length) Slot.unset).toArray = ls at hl ⊢
  have hl : lv_has ls 2 [(0, .ref (a 0)), (1, .int x1)] := hl
  rw [f_X10_canStand] at hf
  refine lv_aload_n hx hb dX10_canStand_0 rfl (lv_at hl 0 rfl) ?_
  refine lv_iload_n hx hb dX10_canStand_1 rfl (lv_at hl 1 rfl) ?_
  rcases wkx_s hf with ⟨r2, hr1, hf⟩ | ⟨E3, hr1, hf⟩
  · have hPc : va_P (dC, dI) vwCl (wX10n Y a L_hasSnapshot L_formError L_commandError T_count T_weights T_strengths T_heights T_wages T_nightsToHeal B_accounts B_balances B_balancesAtClosing B_entries B_debited B_credited B_amounts C_nights C_netWidth C_shows C_fallen) s.heap := hP
    refine wx_vvN (As := [.int x1]) (rest := []) ⟨hx, hb, hml, hown, hts⟩ (c_X10_requireSet l hl0 dC dI Y g a L_hasSnapshot L_formError L_commandError T_count T_weights T_strengths T_heights T_wages T_nightsToHeal B_accounts B_balances B_balancesAtClosing B_entries B_debited B_credited B_amounts C_nights C_netWidth C_shows C_fallen x1 (.inl r2) hr1) (cwV 1 hts gX10_canStand_X10_requireSet rfl rfl rfl (by decide +kernel) ⟨Nat.le_of_ble_eq_true rfl, Nat.le_of_ble_eq_true rfl⟩) hK hPc hT hS (va_recv hK hP (ci := 10) (q0 := 0) rfl rfl) rfl hl.1 rfl (Nat.le_of_ble_eq_true rfl) dX10_canStand_2 ⟨Nat.le_of_ble_eq_true rfl, Nat.le_of_ble_eq_true rfl⟩ ?_
    refine lv_aload_n hx hb dX10_canStand_5 rfl (lv_at hl 0 rfl) ?_
    refine va_get (D := (dC, dI)) (ci := 10) (v := .ref (a 1)) (C := RX10) (T := TX10) (N := 9) hx hb hts in_X10_canStand_X10 hown hK hP 0 rfl rfl 0 (by decide) (hts _ lk_X10_canStand_RX10_12) (fun _ h9 => h9) rfl dX10_canStand_6 ?_
    refine va_get (D := (dC, dI)) (ci := 5) (v := .ref (a 2)) (C := RX3) (T := TX3) (N := 6) hx hb hts in_X10_canStand_X3 hown hK hP 1 rfl rfl 0 (by decide) (hts _ lk_X10_canStand_RX10_122) (fun _ h9 => h9) rfl dX10_canStand_9 ?_
    refine lv_iload_n hx hb dX10_canStand_12 rfl (lv_at hl 1 rfl) ?_
    obtain ⟨r4, hr5, hf⟩ := wkb1_s hf
    have hPc := hP.sub (ws' := (wX9 Y (fun k => a (k + 2)) T_count T_weights T_strengths T_heights T_wages T_nightsToHeal)) [2, 3, 4, 5, 6, 7] rfl
    refine wk_vi (As := [.int x1]) (rest := []) ⟨hx, hb, hml, hown, hts⟩ (c_X9_overloadedOf l dC dI Y (fun k => a (k + 2)) T_count T_weights T_strengths T_heights T_wages T_nightsToHeal x1 r4 hr5) (cwV 1 hts gX10_canStand_X9_overloadedOf rfl rfl rfl (by decide +kernel) ⟨Nat.le_of_ble_eq_true rfl, Nat.le_of_ble_eq_true rfl⟩) hK hPc (va_recv hK hP (ci := 9) (q0 := 2) rfl rfl) rfl hl.1 rfl (Nat.le_of_ble_eq_true rfl) dX10_canStand_13 ⟨Nat.le_of_ble_eq_true rfl, Nat.le_of_ble_eq_true rfl⟩ ?_
    refine lv_iconst (v := (-1)) hx hb dX10_canStand_16 (by decide) ?_
    refine lv_icmp_ne (tgt := 24) hx hb dX10_canStand_17 (by decide) (fun q6 => ?_) (fun q6 => ?_)
    · have hf := wk_f hf q6
      refine lv_iconst (v := 0) hx hb dX10_canStand_24 (by decide) ?_
      have e0 := wke1 hf
      subst e0
      refine W.widen (k := 1) (n := 6) (Nat.le_of_ble_eq_true rfl) (Nat.le_of_ble_eq_true rfl) ?_
      refine vx_ret ?_
      exact W.zret (v := 0) (ty := .boolean) hx hb hr rfl (fun t ht hW => ⟨0, rfl, rfl, ht⟩) (fun q h => absurd h List.not_mem_nil) dX10_canStand_25
    · have hf := wk_t hf q6
      refine lv_iconst (v := 1) hx hb dX10_canStand_20 (by decide) ?_
      refine lv_goto (tgt := 25) hx hb dX10_canStand_21 (by decide) ?_
      have e0 := wke1 hf
      subst e0
      refine W.widen (k := 1) (n := 6) (Nat.le_of_ble_eq_true rfl) (Nat.le_of_ble_eq_true rfl) ?_
      refine vx_ret ?_
      exact W.zret (v := 1) (ty := .boolean) hx hb hr rfl (fun t ht hW => ⟨1, rfl, rfl, ht⟩) (fun q h => absurd h List.not_mem_nil) dX10_canStand_25
  · subst hf
    have hPc : va_P (dC, dI) vwCl (wX10n Y a L_hasSnapshot L_formError L_commandError T_count T_weights T_strengths T_heights T_wages T_nightsToHeal B_accounts B_balances B_balancesAtClosing B_entries B_debited B_credited B_amounts C_nights C_netWidth C_shows C_fallen) s.heap := hP
    refine wx_vvX (As := [.int x1]) (rest := []) ⟨hx, hb, hml, hown, hts⟩ (c_X10_requireSet l hl0 dC dI Y g a L_hasSnapshot L_formError L_commandError T_count T_weights T_strengths T_heights T_wages T_nightsToHeal B_accounts B_balances B_balancesAtClosing B_entries B_debited B_credited B_amounts C_nights C_netWidth C_shows C_fallen x1 (.inr E3) hr1) (cwV 1 hts gX10_canStand_X10_requireSet rfl rfl rfl (by decide +kernel) ⟨Nat.le_of_ble_eq_true rfl, Nat.le_of_ble_eq_true rfl⟩) hK hPc hT hS (va_recv hK hP (ci := 10) (q0 := 0) rfl rfl) rfl hl.1 rfl (Nat.le_of_ble_eq_true rfl) dX10_canStand_2 ⟨Nat.le_of_ble_eq_true rfl, Nat.le_of_ble_eq_true rfl⟩ (fun H1 ce q9 hz hq hce hcv hcl => ?_)
    exact vx_out (fun x h => (htab x h).elim) hlocks hce hcv hcl (fun t ht hvm => ⟨rfl, by rw [ht]; exact hz, fun q h => by rw [ht]; exact hq q h⟩) (fun q h => absurd h List.not_mem_nil) (Nat.le_of_ble_eq_true rfl) (Nat.le_of_ble_eq_true rfl)
theorem lk_X10_acrobatAt_RX10_12 : Cond.fieldLink RX10 12 "CircusLedger" "now" "LCircusLedger$Circus;" ∈ wsX10_acrobatAt := by decide +kernel
theorem lk_X10_acrobatAt_RX10_122 : Cond.fieldLink RX10 122 "CircusLedger$Circus" "troupe" "LCircusLedger$Troupe;" ∈ wsX10_acrobatAt := by decide +kernel
theorem in_X10_acrobatAt_X10 : ∀ w ∈ u_ws RX10 TX10 9, w ∈ wsX10_acrobatAt := by decide +kernel
theorem in_X10_acrobatAt_X3 : ∀ w ∈ u_ws RX3 TX3 6, w ∈ wsX10_acrobatAt := by decide +kernel
def f_X10_acrobatAt (T_count : Int32) (T_weights : Nat → Int32) (T_strengths : Nat → Int32) (x1 : Int32) (x2 : Int32) : Option ((Int32) ⊕ String) :=
  wkx (f_X10_requireSet T_count x1) (fun r2 =>
  wkb1 (f_X9_memberAt T_count T_weights T_strengths x1 x2) (fun r4 =>
  wkx (f_X10_requireFound r4) (fun r6 =>
  some (.inl (r6)))))
set_option maxHeartbeats 4000000 in
set_option maxRecDepth 100000 in
theorem c_X10_acrobatAt (l : Launch) (hl0 : l.stackTraces = false) (dC : Nat → ClassId) (dI : Nat → Nat → Nat) (Y : Nat → ClassId) (g : Nat → Nat → Nat) (a : Nat → Nat) (L_hasSnapshot : Int32) (L_formError : Int32) (L_commandError : Int32) (T_count : Int32) (T_weights : Nat → Int32) (T_strengths : Nat → Int32) (T_heights : Nat → Int32) (T_wages : Nat → Int32) (T_nightsToHeal : Nat → Int32) (B_accounts : Int32) (B_balances : Nat → Int32) (B_balancesAtClosing : Nat → Int32) (B_entries : Int32) (B_debited : Nat → Int32) (B_credited : Nat → Int32) (B_amounts : Nat → Int32) (C_nights : Int32) (C_netWidth : Int32) (C_shows : Int32) (C_fallen : Int32) (x1 : Int32) (x2 : Int32) (out : Int32 ⊕ String) (hf : f_X10_acrobatAt T_count T_weights T_strengths x1 x2 = some out) : vx_Met l yX10_acrobatAt wsX10_acrobatAt ({ frames := 9, cells := 2, slots := 12, locals := 141 } : Room) (va_Pc [.ref (a 0), .int x1, .int x2] (wk_BT (dC, dI) Y g (wX10n Y a L_hasSnapshot L_formError L_commandError T_count T_weights T_strengths T_heights T_wages T_nightsToHeal B_accounts B_balances B_balancesAtClosing B_entries B_debited B_credited B_amounts C_nights C_netWidth C_shows C_fallen))) (wxQi out) (wxX out) 2 12 (fun _ => False) := by
  refine vx_ofW (cc := cX10_acrobatAt) (maxL := 3) (ret := (some .int)) (by decide) rfl ?_
  intro p e s m args below meth c s₁ B hml htab hv
  obtain ⟨rfl, ⟨hP, hK⟩, hT⟩ := hv
  have hx := B.exec
  have hb := B.bytes
  have hr := B.returns
  have hts := atoms_spec (ws := wsX10_acrobatAt) B.pre
  have hown : s.vm.findClass RX10 = some m.cls := findClass_of_methodNamed B.named
  have hlocks := B.notSynchronized
  have C0 : wk_C p s m _ meth c cX10_acrobatAt 3 (some .int) wsX10_acrobatAt RX10 := ⟨hx, hb, hml, hr, hlocks, hown, hts⟩
  have hP : va_P (dC, dI) vwCl [(a 0, .inr (10, [.ref (a 1), .ref (a 14), .ref (a 16), .int L_hasSnapshot, .ref (a 29), .ref (a 34), .int L_formError, .int L_commandError, .ref (a 38)])), (a 1, .inr (5, [.ref (a 2), .ref (a 8), .int C_nights, .int C_netWidth, .int C_shows, .int C_fallen])), (a 2, .inr (9, [.int T_count, .ref (a 3), .ref (a 4), .ref (a 5), .ref (a 6), .ref (a 7)])), (a 3, .inl (Y 0, 6, .inl T_weights)), (a 4, .inl (Y 0, 6, .inl T_strengths)), (a 5, .inl (Y 0, 6, .inl T_heights)), (a 6, .inl (Y 0, 6, .inl T_wages)), (a 7, .inl (Y 0, 6, .inl T_nightsToHeal)), (a 8, .inr (4, [.int B_accounts, .ref (a 9), .ref (a 10), .int B_entries, .ref (a 11), .ref (a 12), .ref (a 13)])), (a 9, .inl (Y 0, 11, .inl B_balances)), (a 10, .inl (Y 0, 11, .inl B_balancesAtClosing)), (a 11, .inl (Y 0, 60, .inl B_debited)), (a 12, .inl (Y 0, 60, .inl B_credited)), (a 13, .inl (Y 0, 60, .inl B_amounts))] s.heap := hP
  have hS : va_S (fun _ : Nat => False) s.heap s.heap [] := va_S.rf
  have hl := lv_entry ([.ref (a 0), .int x1, .int x2]) (n := 3) (Nat.le_of_ble_eq_true rfl)
  rw [lg_entry_eq]
  generalize (lg_sl ([.ref (a 0), .int x1, .int x2]) ++ List.replicate (3 - (lg_sl ([.ref (a 0), .int x1, .int x2])).length) Slot.unset).toArray = ls at hl ⊢
  have hl : lv_has ls 3 [(0, .ref (a 0)), (1, .int x1), (2, .int x2)] := hl
  rw [f_X10_acrobatAt] at hf
  refine lv_aload_n hx hb dX10_acrobatAt_0 rfl (lv_at hl 0 rfl) ?_
  refine lv_iload_n hx hb dX10_acrobatAt_1 rfl (lv_at hl 1 rfl) ?_
  rcases wkx_s hf with ⟨r2, hr1, hf⟩ | ⟨E3, hr1, hf⟩
  · have hPc : va_P (dC, dI) vwCl (wX10n Y a L_hasSnapshot L_formError L_commandError T_count T_weights T_strengths T_heights T_wages T_nightsToHeal B_accounts B_balances B_balancesAtClosing B_entries B_debited B_credited B_amounts C_nights C_netWidth C_shows C_fallen) s.heap := hP
    refine wx_vvN (As := [.int x1]) (rest := []) ⟨hx, hb, hml, hown, hts⟩ (c_X10_requireSet l hl0 dC dI Y g a L_hasSnapshot L_formError L_commandError T_count T_weights T_strengths T_heights T_wages T_nightsToHeal B_accounts B_balances B_balancesAtClosing B_entries B_debited B_credited B_amounts C_nights C_netWidth C_shows C_fallen x1 (.inl r2) hr1) (cwV 1 hts gX10_acrobatAt_X10_requireSet rfl rfl rfl (by decide +kernel) ⟨Nat.le_of_ble_eq_true rfl, Nat.le_of_ble_eq_true rfl⟩) hK hPc hT hS (va_recv hK hP (ci := 10) (q0 := 0) rfl rfl) rfl hl.1 rfl (Nat.le_of_ble_eq_true rfl) dX10_acrobatAt_2 ⟨Nat.le_of_ble_eq_true rfl, Nat.le_of_ble_eq_true rfl⟩ ?_
    refine lv_aload_n hx hb dX10_acrobatAt_5 rfl (lv_at hl 0 rfl) ?_
    refine va_get (D := (dC, dI)) (ci := 10) (v := .ref (a 1)) (C := RX10) (T := TX10) (N := 9) hx hb hts in_X10_acrobatAt_X10 hown hK hP 0 rfl rfl 0 (by decide) (hts _ lk_X10_acrobatAt_RX10_12) (fun _ h9 => h9) rfl dX10_acrobatAt_6 ?_
    refine va_get (D := (dC, dI)) (ci := 5) (v := .ref (a 2)) (C := RX3) (T := TX3) (N := 6) hx hb hts in_X10_acrobatAt_X3 hown hK hP 1 rfl rfl 0 (by decide) (hts _ lk_X10_acrobatAt_RX10_122) (fun _ h9 => h9) rfl dX10_acrobatAt_9 ?_
    refine lv_iload_n hx hb dX10_acrobatAt_12 rfl (lv_at hl 1 rfl) ?_
    refine lv_iload_n hx hb dX10_acrobatAt_13 rfl (lv_at hl 2 rfl) ?_
    obtain ⟨r4, hr5, hf⟩ := wkb1_s hf
    have hPc := hP.sub (ws' := (wX9 Y (fun k => a (k + 2)) T_count T_weights T_strengths T_heights T_wages T_nightsToHeal)) [2, 3, 4, 5, 6, 7] rfl
    refine wk_vi (As := [.int x1, .int x2]) (rest := []) ⟨hx, hb, hml, hown, hts⟩ (c_X9_memberAt l dC dI Y (fun k => a (k + 2)) T_count T_weights T_strengths T_heights T_wages T_nightsToHeal x1 x2 r4 hr5) (cwV 2 hts gX10_acrobatAt_X9_memberAt rfl rfl rfl (by decide +kernel) ⟨Nat.le_of_ble_eq_true rfl, Nat.le_of_ble_eq_true rfl⟩) hK hPc (va_recv hK hP (ci := 9) (q0 := 2) rfl rfl) rfl hl.1 rfl (Nat.le_of_ble_eq_true rfl) dX10_acrobatAt_14 ⟨Nat.le_of_ble_eq_true rfl, Nat.le_of_ble_eq_true rfl⟩ ?_
    rcases wkx_s hf with ⟨r6, hr7, hf⟩ | ⟨E8, hr7, hf⟩
    · have hPc := hP.sub (ws' := ([] : va_W)) [] rfl
      refine wx_siN (As := [.int r4]) (rest := []) ⟨hx, hb, hml, hown, hts⟩ (c_X10_requireFound l hl0 dC dI Y g   r4 (.inl r6) hr7) (va_cwS 1 hts gX10_acrobatAt_X10_requireFound rfl rfl rfl (by decide +kernel) ⟨Nat.le_of_ble_eq_true rfl, Nat.le_of_ble_eq_true rfl⟩) hK hPc hT hS rfl hl.1 rfl (Nat.le_of_ble_eq_true rfl) dX10_acrobatAt_17 ⟨Nat.le_of_ble_eq_true rfl, Nat.le_of_ble_eq_true rfl⟩ ?_
      have e0 := wke1 hf
      subst e0
      refine W.widen (k := 2) (n := 12) (Nat.le_of_ble_eq_true rfl) (Nat.le_of_ble_eq_true rfl) ?_
      refine vx_ret ?_
      exact W.iret (v := r6) hx hb hr (fun t ht hW => ⟨r6, rfl, rfl, ht⟩) (fun q h => absurd h List.not_mem_nil) dX10_acrobatAt_20
    · subst hf
      have hPc := hP.sub (ws' := ([] : va_W)) [] rfl
      refine wx_siX (As := [.int r4]) (rest := []) ⟨hx, hb, hml, hown, hts⟩ (c_X10_requireFound l hl0 dC dI Y g   r4 (.inr E8) hr7) (va_cwS 1 hts gX10_acrobatAt_X10_requireFound rfl rfl rfl (by decide +kernel) ⟨Nat.le_of_ble_eq_true rfl, Nat.le_of_ble_eq_true rfl⟩) hK hPc hT hS rfl hl.1 rfl (Nat.le_of_ble_eq_true rfl) dX10_acrobatAt_17 ⟨Nat.le_of_ble_eq_true rfl, Nat.le_of_ble_eq_true rfl⟩ (fun H1 ce q9 hz hq hce hcv hcl => ?_)
      exact vx_out (fun x h => (htab x h).elim) hlocks hce hcv hcl (fun t ht hvm => ⟨rfl, by rw [ht]; exact hz, fun q h => by rw [ht]; exact hq q h⟩) (fun q h => absurd h List.not_mem_nil) (Nat.le_of_ble_eq_true rfl) (Nat.le_of_ble_eq_true rfl)
  · subst hf
    have hPc : va_P (dC, dI) vwCl (wX10n Y a L_hasSnapshot L_formError L_commandError T_count T_weights T_strengths T_heights T_wages T_nightsToHeal B_accounts B_balances B_balancesAtClosing B_entries B_debited B_credited B_amounts C_nights C_netWidth C_shows C_fallen) s.heap := hP
    refine wx_vvX (As := [.int x1]) (rest := []) ⟨hx, hb, hml, hown, hts⟩ (c_X10_requireSet l hl0 dC dI Y g a L_hasSnapshot L_formError L_commandError T_count T_weights T_strengths T_heights T_wages T_nightsToHeal B_accounts B_balances B_balancesAtClosing B_entries B_debited B_credited B_amounts C_nights C_netWidth C_shows C_fallen x1 (.inr E3) hr1) (cwV 1 hts gX10_acrobatAt_X10_requireSet rfl rfl rfl (by decide +kernel) ⟨Nat.le_of_ble_eq_true rfl, Nat.le_of_ble_eq_true rfl⟩) hK hPc hT hS (va_recv hK hP (ci := 10) (q0 := 0) rfl rfl) rfl hl.1 rfl (Nat.le_of_ble_eq_true rfl) dX10_acrobatAt_2 ⟨Nat.le_of_ble_eq_true rfl, Nat.le_of_ble_eq_true rfl⟩ (fun H1 ce q9 hz hq hce hcv hcl => ?_)
    exact vx_out (fun x h => (htab x h).elim) hlocks hce hcv hcl (fun t ht hvm => ⟨rfl, by rw [ht]; exact hz, fun q h => by rw [ht]; exact hq q h⟩) (fun q h => absurd h List.not_mem_nil) (Nat.le_of_ble_eq_true rfl) (Nat.le_of_ble_eq_true rfl)
theorem tw_X10_loadOn_167 : Cond.classLink RX10 167 "java/util/NoSuchElementException" ∈ wsX10_loadOn ∧ Cond.initialized "java/util/NoSuchElementException" ∈ wsX10_loadOn ∧ ∀ w ∈ (vx_atS RX10 171 "java/util/NoSuchElementException" ["java/lang/RuntimeException", "java/lang/Exception"]).filter goodWord, w ∈ wsX10_loadOn := ⟨by decide +kernel, by decide +kernel, by decide +kernel⟩
theorem lk_X10_loadOn_RX10_12 : Cond.fieldLink RX10 12 "CircusLedger" "now" "LCircusLedger$Circus;" ∈ wsX10_loadOn := by decide +kernel
theorem lk_X10_loadOn_RX10_122 : Cond.fieldLink RX10 122 "CircusLedger$Circus" "troupe" "LCircusLedger$Troupe;" ∈ wsX10_loadOn := by decide +kernel
theorem in_X10_loadOn_X10 : ∀ w ∈ u_ws RX10 TX10 9, w ∈ wsX10_loadOn := by decide +kernel
theorem in_X10_loadOn_X3 : ∀ w ∈ u_ws RX3 TX3 6, w ∈ wsX10_loadOn := by decide +kernel
def f_X10_loadOn (T_count : Int32) (T_weights : Nat → Int32) (T_strengths : Nat → Int32) (x1 : Int32) (x2 : Int32) : Option ((Int32) ⊕ String) :=
  wkx (f_X10_requireSet T_count x1) (fun r2 =>
  wkb1 (f_X9_isMember T_count x1 x2) (fun r4 =>
  if r4 = 0 then
    (some (.inr "java/util/NoSuchElementException"))
  else
    (wkb1 (f_X9_loadOf T_count T_weights T_strengths x1 x2) (fun r7 =>
    some (.inl (r7))))))
set_option maxHeartbeats 4000000 in
set_option maxRecDepth 100000 in
theorem c_X10_loadOn (l : Launch) (hl0 : l.stackTraces = false) (dC : Nat → ClassId) (dI : Nat → Nat → Nat) (Y : Nat → ClassId) (g : Nat → Nat → Nat) (a : Nat → Nat) (L_hasSnapshot : Int32) (L_formError : Int32) (L_commandError : Int32) (T_count : Int32) (T_weights : Nat → Int32) (T_strengths : Nat → Int32) (T_heights : Nat → Int32) (T_wages : Nat → Int32) (T_nightsToHeal : Nat → Int32) (B_accounts : Int32) (B_balances : Nat → Int32) (B_balancesAtClosing : Nat → Int32) (B_entries : Int32) (B_debited : Nat → Int32) (B_credited : Nat → Int32) (B_amounts : Nat → Int32) (C_nights : Int32) (C_netWidth : Int32) (C_shows : Int32) (C_fallen : Int32) (x1 : Int32) (x2 : Int32) (out : Int32 ⊕ String) (hf : f_X10_loadOn T_count T_weights T_strengths x1 x2 = some out) : vx_Met l yX10_loadOn wsX10_loadOn ({ frames := 9, cells := 2, slots := 12, locals := 141 } : Room) (va_Pc [.ref (a 0), .int x1, .int x2] (wk_BT (dC, dI) Y g (wX10n Y a L_hasSnapshot L_formError L_commandError T_count T_weights T_strengths T_heights T_wages T_nightsToHeal B_accounts B_balances B_balancesAtClosing B_entries B_debited B_credited B_amounts C_nights C_netWidth C_shows C_fallen))) (wxQi out) (wxX out) 2 12 (fun _ => False) := by
  refine vx_ofW (cc := cX10_loadOn) (maxL := 3) (ret := (some .int)) (by decide) rfl ?_
  intro p e s m args below meth c s₁ B hml htab hv
  obtain ⟨rfl, ⟨hP, hK⟩, hT⟩ := hv
  have hx := B.exec
  have hb := B.bytes
  have hr := B.returns
  have hts := atoms_spec (ws := wsX10_loadOn) B.pre
  have hown : s.vm.findClass RX10 = some m.cls := findClass_of_methodNamed B.named
  have hlocks := B.notSynchronized
  have C0 : wk_C p s m _ meth c cX10_loadOn 3 (some .int) wsX10_loadOn RX10 := ⟨hx, hb, hml, hr, hlocks, hown, hts⟩
  have hP : va_P (dC, dI) vwCl [(a 0, .inr (10, [.ref (a 1), .ref (a 14), .ref (a 16), .int L_hasSnapshot, .ref (a 29), .ref (a 34), .int L_formError, .int L_commandError, .ref (a 38)])), (a 1, .inr (5, [.ref (a 2), .ref (a 8), .int C_nights, .int C_netWidth, .int C_shows, .int C_fallen])), (a 2, .inr (9, [.int T_count, .ref (a 3), .ref (a 4), .ref (a 5), .ref (a 6), .ref (a 7)])), (a 3, .inl (Y 0, 6, .inl T_weights)), (a 4, .inl (Y 0, 6, .inl T_strengths)), (a 5, .inl (Y 0, 6, .inl T_heights)), (a 6, .inl (Y 0, 6, .inl T_wages)), (a 7, .inl (Y 0, 6, .inl T_nightsToHeal)), (a 8, .inr (4, [.int B_accounts, .ref (a 9), .ref (a 10), .int B_entries, .ref (a 11), .ref (a 12), .ref (a 13)])), (a 9, .inl (Y 0, 11, .inl B_balances)), (a 10, .inl (Y 0, 11, .inl B_balancesAtClosing)), (a 11, .inl (Y 0, 60, .inl B_debited)), (a 12, .inl (Y 0, 60, .inl B_credited)), (a 13, .inl (Y 0, 60, .inl B_amounts))] s.heap := hP
  have hS : va_S (fun _ : Nat => False) s.heap s.heap [] := va_S.rf
  have hl := lv_entry ([.ref (a 0), .int x1, .int x2]) (n := 3) (Nat.le_of_ble_eq_true rfl)
  rw [lg_entry_eq]
  generalize (lg_sl ([.ref (a 0), .int x1, .int x2]) ++ List.replicate (3 - (lg_sl ([.ref (a 0), .int x1, .int x2])).length) Slot.unset).toArray = ls at hl ⊢
  have hl : lv_has ls 3 [(0, .ref (a 0)), (1, .int x1), (2, .int x2)] := hl
  rw [f_X10_loadOn] at hf
  refine lv_aload_n hx hb dX10_loadOn_0 rfl (lv_at hl 0 rfl) ?_
  refine lv_iload_n hx hb dX10_loadOn_1 rfl (lv_at hl 1 rfl) ?_
  rcases wkx_s hf with ⟨r2, hr1, hf⟩ | ⟨E3, hr1, hf⟩
  · have hPc : va_P (dC, dI) vwCl (wX10n Y a L_hasSnapshot L_formError L_commandError T_count T_weights T_strengths T_heights T_wages T_nightsToHeal B_accounts B_balances B_balancesAtClosing B_entries B_debited B_credited B_amounts C_nights C_netWidth C_shows C_fallen) s.heap := hP
    refine wx_vvN (As := [.int x1]) (rest := []) ⟨hx, hb, hml, hown, hts⟩ (c_X10_requireSet l hl0 dC dI Y g a L_hasSnapshot L_formError L_commandError T_count T_weights T_strengths T_heights T_wages T_nightsToHeal B_accounts B_balances B_balancesAtClosing B_entries B_debited B_credited B_amounts C_nights C_netWidth C_shows C_fallen x1 (.inl r2) hr1) (cwV 1 hts gX10_loadOn_X10_requireSet rfl rfl rfl (by decide +kernel) ⟨Nat.le_of_ble_eq_true rfl, Nat.le_of_ble_eq_true rfl⟩) hK hPc hT hS (va_recv hK hP (ci := 10) (q0 := 0) rfl rfl) rfl hl.1 rfl (Nat.le_of_ble_eq_true rfl) dX10_loadOn_2 ⟨Nat.le_of_ble_eq_true rfl, Nat.le_of_ble_eq_true rfl⟩ ?_
    refine lv_aload_n hx hb dX10_loadOn_5 rfl (lv_at hl 0 rfl) ?_
    refine va_get (D := (dC, dI)) (ci := 10) (v := .ref (a 1)) (C := RX10) (T := TX10) (N := 9) hx hb hts in_X10_loadOn_X10 hown hK hP 0 rfl rfl 0 (by decide) (hts _ lk_X10_loadOn_RX10_12) (fun _ h9 => h9) rfl dX10_loadOn_6 ?_
    refine va_get (D := (dC, dI)) (ci := 5) (v := .ref (a 2)) (C := RX3) (T := TX3) (N := 6) hx hb hts in_X10_loadOn_X3 hown hK hP 1 rfl rfl 0 (by decide) (hts _ lk_X10_loadOn_RX10_122) (fun _ h9 => h9) rfl dX10_loadOn_9 ?_
    refine lv_iload_n hx hb dX10_loadOn_12 rfl (lv_at hl 1 rfl) ?_
    refine lv_iload_n hx hb dX10_loadOn_13 rfl (lv_at hl 2 rfl) ?_
    obtain ⟨r4, hr5, hf⟩ := wkb1_s hf
    have hPc := hP.sub (ws' := (wX9 Y (fun k => a (k + 2)) T_count T_weights T_strengths T_heights T_wages T_nightsToHeal)) [2, 3, 4, 5, 6, 7] rfl
    refine wk_vi (As := [.int x1, .int x2]) (rest := []) ⟨hx, hb, hml, hown, hts⟩ (c_X9_isMember l dC dI Y (fun k => a (k + 2)) T_count T_weights T_strengths T_heights T_wages T_nightsToHeal x1 x2 r4 hr5) (cwV 2 hts gX10_loadOn_X9_isMember rfl rfl rfl (by decide +kernel) ⟨Nat.le_of_ble_eq_true rfl, Nat.le_of_ble_eq_true rfl⟩) hK hPc (va_recv hK hP (ci := 9) (q0 := 2) rfl rfl) rfl hl.1 rfl (Nat.le_of_ble_eq_true rfl) dX10_loadOn_14 ⟨Nat.le_of_ble_eq_true rfl, Nat.le_of_ble_eq_true rfl⟩ ?_
    refine lv_if_ne (tgt := 30) hx hb dX10_loadOn_17 (by decide) (fun q6 => ?_) (fun q6 => ?_)
    · have hf := wk_f hf q6
      refine lv_aload_n hx hb dX10_loadOn_30 rfl (lv_at hl 0 rfl) ?_
      refine va_get (D := (dC, dI)) (ci := 10) (v := .ref (a 1)) (C := RX10) (T := TX10) (N := 9) hx hb hts in_X10_loadOn_X10 hown hK hP 0 rfl rfl 0 (by decide) (hts _ lk_X10_loadOn_RX10_12) (fun _ h9 => h9) rfl dX10_loadOn_31 ?_
      refine va_get (D := (dC, dI)) (ci := 5) (v := .ref (a 2)) (C := RX3) (T := TX3) (N := 6) hx hb hts in_X10_loadOn_X3 hown hK hP 1 rfl rfl 0 (by decide) (hts _ lk_X10_loadOn_RX10_122) (fun _ h9 => h9) rfl dX10_loadOn_34 ?_
      refine lv_iload_n hx hb dX10_loadOn_37 rfl (lv_at hl 1 rfl) ?_
      refine lv_iload_n hx hb dX10_loadOn_38 rfl (lv_at hl 2 rfl) ?_
      obtain ⟨r7, hr8, hf⟩ := wkb1_s hf
      have hPc := hP.sub (ws' := (wX9 Y (fun k => a (k + 2)) T_count T_weights T_strengths T_heights T_wages T_nightsToHeal)) [2, 3, 4, 5, 6, 7] rfl
      refine wk_vi (As := [.int x1, .int x2]) (rest := []) ⟨hx, hb, hml, hown, hts⟩ (c_X9_loadOf l dC dI Y (fun k => a (k + 2)) T_count T_weights T_strengths T_heights T_wages T_nightsToHeal x1 x2 r7 hr8) (cwV 2 hts gX10_loadOn_X9_loadOf rfl rfl rfl (by decide +kernel) ⟨Nat.le_of_ble_eq_true rfl, Nat.le_of_ble_eq_true rfl⟩) hK hPc (va_recv hK hP (ci := 9) (q0 := 2) rfl rfl) rfl hl.1 rfl (Nat.le_of_ble_eq_true rfl) dX10_loadOn_39 ⟨Nat.le_of_ble_eq_true rfl, Nat.le_of_ble_eq_true rfl⟩ ?_
      have e0 := wke1 hf
      subst e0
      refine W.widen (k := 2) (n := 12) (Nat.le_of_ble_eq_true rfl) (Nat.le_of_ble_eq_true rfl) ?_
      refine vx_ret ?_
      exact W.iret (v := r7) hx hb hr (fun t ht hW => ⟨r7, rfl, rfl, ht⟩) (fun q h => absurd h List.not_mem_nil) dX10_loadOn_42
    · have hf := wk_t hf q6
      have e0 := wke1 hf
      subst e0
      refine vx_throwS (rest := []) (names := ["java/lang/RuntimeException", "java/lang/Exception"]) (text := "the acrobat is not in the set") (sa := g 5 0) (A := (fun _ => False)) hx hb hl0 hown (by decide) (by decide) (hts _ tw_X10_loadOn_167.1) (hts _ tw_X10_loadOn_167.2.1) ((wk_T.thr hT).2.2.1 0 (by decide)) (vx_hat (B := wk_tb "java/util/NoSuchElementException") (fun w h => hts w (tw_X10_loadOn_167.2.2 w h)) (by decide +kernel) (wk_tbp hT 5 (by decide) rfl)) (by decide +kernel) (wk_T.thr hT).1 (wk_T.thr hT).2.1 hS (hl.1.trans hml.symm) dX10_loadOn_20 dX10_loadOn_23 dX10_loadOn_24 dX10_loadOn_26 dX10_loadOn_29 (fun x h => (htab x h).elim) (Nat.le_of_ble_eq_true rfl) (Nat.le_of_ble_eq_true rfl) (Nat.le_of_ble_eq_true rfl) (Nat.le_of_ble_eq_true rfl) hlocks (fun t hvm hz hq => ⟨rfl, hz, hq⟩) (fun q h => absurd h List.not_mem_nil) (Nat.le_of_ble_eq_true rfl) (Nat.le_of_ble_eq_true rfl)
  · subst hf
    have hPc : va_P (dC, dI) vwCl (wX10n Y a L_hasSnapshot L_formError L_commandError T_count T_weights T_strengths T_heights T_wages T_nightsToHeal B_accounts B_balances B_balancesAtClosing B_entries B_debited B_credited B_amounts C_nights C_netWidth C_shows C_fallen) s.heap := hP
    refine wx_vvX (As := [.int x1]) (rest := []) ⟨hx, hb, hml, hown, hts⟩ (c_X10_requireSet l hl0 dC dI Y g a L_hasSnapshot L_formError L_commandError T_count T_weights T_strengths T_heights T_wages T_nightsToHeal B_accounts B_balances B_balancesAtClosing B_entries B_debited B_credited B_amounts C_nights C_netWidth C_shows C_fallen x1 (.inr E3) hr1) (cwV 1 hts gX10_loadOn_X10_requireSet rfl rfl rfl (by decide +kernel) ⟨Nat.le_of_ble_eq_true rfl, Nat.le_of_ble_eq_true rfl⟩) hK hPc hT hS (va_recv hK hP (ci := 10) (q0 := 0) rfl rfl) rfl hl.1 rfl (Nat.le_of_ble_eq_true rfl) dX10_loadOn_2 ⟨Nat.le_of_ble_eq_true rfl, Nat.le_of_ble_eq_true rfl⟩ (fun H1 ce q9 hz hq hce hcv hcl => ?_)
    exact vx_out (fun x h => (htab x h).elim) hlocks hce hcv hcl (fun t ht hvm => ⟨rfl, by rw [ht]; exact hz, fun q h => by rw [ht]; exact hq q h⟩) (fun q h => absurd h List.not_mem_nil) (Nat.le_of_ble_eq_true rfl) (Nat.le_of_ble_eq_true rfl)
theorem lk_X10_columnHeight_RX10_12 : Cond.fieldLink RX10 12 "CircusLedger" "now" "LCircusLedger$Circus;" ∈ wsX10_columnHeight := by decide +kernel
theorem lk_X10_columnHeight_RX10_122 : Cond.fieldLink RX10 122 "CircusLedger$Circus" "troupe" "LCircusLedger$Troupe;" ∈ wsX10_columnHeight := by decide +kernel
theorem in_X10_columnHeight_X10 : ∀ w ∈ u_ws RX10 TX10 9, w ∈ wsX10_columnHeight := by decide +kernel
theorem in_X10_columnHeight_X3 : ∀ w ∈ u_ws RX3 TX3 6, w ∈ wsX10_columnHeight := by decide +kernel
def f_X10_columnHeight (T_count : Int32) (T_heights : Nat → Int32) (x1 : Int32) : Option ((Int32) ⊕ String) :=
  wkx (f_X10_requireSet T_count x1) (fun r2 =>
  wkb1 (f_X9_heightOf T_count T_heights x1) (fun r4 =>
  some (.inl (r4))))
set_option maxHeartbeats 4000000 in
set_option maxRecDepth 100000 in
theorem c_X10_columnHeight (l : Launch) (hl0 : l.stackTraces = false) (dC : Nat → ClassId) (dI : Nat → Nat → Nat) (Y : Nat → ClassId) (g : Nat → Nat → Nat) (a : Nat → Nat) (L_hasSnapshot : Int32) (L_formError : Int32) (L_commandError : Int32) (T_count : Int32) (T_weights : Nat → Int32) (T_strengths : Nat → Int32) (T_heights : Nat → Int32) (T_wages : Nat → Int32) (T_nightsToHeal : Nat → Int32) (B_accounts : Int32) (B_balances : Nat → Int32) (B_balancesAtClosing : Nat → Int32) (B_entries : Int32) (B_debited : Nat → Int32) (B_credited : Nat → Int32) (B_amounts : Nat → Int32) (C_nights : Int32) (C_netWidth : Int32) (C_shows : Int32) (C_fallen : Int32) (x1 : Int32) (out : Int32 ⊕ String) (hf : f_X10_columnHeight T_count T_heights x1 = some out) : vx_Met l yX10_columnHeight wsX10_columnHeight ({ frames := 9, cells := 1, slots := 6, locals := 141 } : Room) (va_Pc [.ref (a 0), .int x1] (wk_BT (dC, dI) Y g (wX10n Y a L_hasSnapshot L_formError L_commandError T_count T_weights T_strengths T_heights T_wages T_nightsToHeal B_accounts B_balances B_balancesAtClosing B_entries B_debited B_credited B_amounts C_nights C_netWidth C_shows C_fallen))) (wxQi out) (wxX out) 1 6 (fun _ => False) := by
  refine vx_ofW (cc := cX10_columnHeight) (maxL := 2) (ret := (some .int)) (by decide) rfl ?_
  intro p e s m args below meth c s₁ B hml htab hv
  obtain ⟨rfl, ⟨hP, hK⟩, hT⟩ := hv
  have hx := B.exec
  have hb := B.bytes
  have hr := B.returns
  have hts := atoms_spec (ws := wsX10_columnHeight) B.pre
  have hown : s.vm.findClass RX10 = some m.cls := findClass_of_methodNamed B.named
  have hlocks := B.notSynchronized
  have C0 : wk_C p s m _ meth c cX10_columnHeight 2 (some .int) wsX10_columnHeight RX10 := ⟨hx, hb, hml, hr, hlocks, hown, hts⟩
  have hP : va_P (dC, dI) vwCl [(a 0, .inr (10, [.ref (a 1), .ref (a 14), .ref (a 16), .int L_hasSnapshot, .ref (a 29), .ref (a 34), .int L_formError, .int L_commandError, .ref (a 38)])), (a 1, .inr (5, [.ref (a 2), .ref (a 8), .int C_nights, .int C_netWidth, .int C_shows, .int C_fallen])), (a 2, .inr (9, [.int T_count, .ref (a 3), .ref (a 4), .ref (a 5), .ref (a 6), .ref (a 7)])), (a 3, .inl (Y 0, 6, .inl T_weights)), (a 4, .inl (Y 0, 6, .inl T_strengths)), (a 5, .inl (Y 0, 6, .inl T_heights)), (a 6, .inl (Y 0, 6, .inl T_wages)), (a 7, .inl (Y 0, 6, .inl T_nightsToHeal)), (a 8, .inr (4, [.int B_accounts, .ref (a 9), .ref (a 10), .int B_entries, .ref (a 11), .ref (a 12), .ref (a 13)])), (a 9, .inl (Y 0, 11, .inl B_balances)), (a 10, .inl (Y 0, 11, .inl B_balancesAtClosing)), (a 11, .inl (Y 0, 60, .inl B_debited)), (a 12, .inl (Y 0, 60, .inl B_credited)), (a 13, .inl (Y 0, 60, .inl B_amounts))] s.heap := hP
  have hS : va_S (fun _ : Nat => False) s.heap s.heap [] := va_S.rf
  have hl := lv_entry ([.ref (a 0), .int x1]) (n := 2) (Nat.le_of_ble_eq_true rfl)
  rw [lg_entry_eq]
  generalize (lg_sl ([.ref (a 0), .int x1]) ++ List.replicate (2 - (lg_sl ([.ref (a 0), .int x1])).length) Slot.unset).toArray = ls at hl ⊢
  have hl : lv_has ls 2 [(0, .ref (a 0)), (1, .int x1)] := hl
  rw [f_X10_columnHeight] at hf
  refine lv_aload_n hx hb dX10_columnHeight_0 rfl (lv_at hl 0 rfl) ?_
  refine lv_iload_n hx hb dX10_columnHeight_1 rfl (lv_at hl 1 rfl) ?_
  rcases wkx_s hf with ⟨r2, hr1, hf⟩ | ⟨E3, hr1, hf⟩
  · have hPc : va_P (dC, dI) vwCl (wX10n Y a L_hasSnapshot L_formError L_commandError T_count T_weights T_strengths T_heights T_wages T_nightsToHeal B_accounts B_balances B_balancesAtClosing B_entries B_debited B_credited B_amounts C_nights C_netWidth C_shows C_fallen) s.heap := hP
    refine wx_vvN (As := [.int x1]) (rest := []) ⟨hx, hb, hml, hown, hts⟩ (c_X10_requireSet l hl0 dC dI Y g a L_hasSnapshot L_formError L_commandError T_count T_weights T_strengths T_heights T_wages T_nightsToHeal B_accounts B_balances B_balancesAtClosing B_entries B_debited B_credited B_amounts C_nights C_netWidth C_shows C_fallen x1 (.inl r2) hr1) (cwV 1 hts gX10_columnHeight_X10_requireSet rfl rfl rfl (by decide +kernel) ⟨Nat.le_of_ble_eq_true rfl, Nat.le_of_ble_eq_true rfl⟩) hK hPc hT hS (va_recv hK hP (ci := 10) (q0 := 0) rfl rfl) rfl hl.1 rfl (Nat.le_of_ble_eq_true rfl) dX10_columnHeight_2 ⟨Nat.le_of_ble_eq_true rfl, Nat.le_of_ble_eq_true rfl⟩ ?_
    refine lv_aload_n hx hb dX10_columnHeight_5 rfl (lv_at hl 0 rfl) ?_
    refine va_get (D := (dC, dI)) (ci := 10) (v := .ref (a 1)) (C := RX10) (T := TX10) (N := 9) hx hb hts in_X10_columnHeight_X10 hown hK hP 0 rfl rfl 0 (by decide) (hts _ lk_X10_columnHeight_RX10_12) (fun _ h9 => h9) rfl dX10_columnHeight_6 ?_
    refine va_get (D := (dC, dI)) (ci := 5) (v := .ref (a 2)) (C := RX3) (T := TX3) (N := 6) hx hb hts in_X10_columnHeight_X3 hown hK hP 1 rfl rfl 0 (by decide) (hts _ lk_X10_columnHeight_RX10_122) (fun _ h9 => h9) rfl dX10_columnHeight_9 ?_
    refine lv_iload_n hx hb dX10_columnHeight_12 rfl (lv_at hl 1 rfl) ?_
    obtain ⟨r4, hr5, hf⟩ := wkb1_s hf
    have hPc := hP.sub (ws' := (wX9 Y (fun k => a (k + 2)) T_count T_weights T_strengths T_heights T_wages T_nightsToHeal)) [2, 3, 4, 5, 6, 7] rfl
    refine wk_vi (As := [.int x1]) (rest := []) ⟨hx, hb, hml, hown, hts⟩ (c_X9_heightOf l dC dI Y (fun k => a (k + 2)) T_count T_weights T_strengths T_heights T_wages T_nightsToHeal x1 r4 hr5) (cwV 1 hts gX10_columnHeight_X9_heightOf rfl rfl rfl (by decide +kernel) ⟨Nat.le_of_ble_eq_true rfl, Nat.le_of_ble_eq_true rfl⟩) hK hPc (va_recv hK hP (ci := 9) (q0 := 2) rfl rfl) rfl hl.1 rfl (Nat.le_of_ble_eq_true rfl) dX10_columnHeight_13 ⟨Nat.le_of_ble_eq_true rfl, Nat.le_of_ble_eq_true rfl⟩ ?_
    have e0 := wke1 hf
    subst e0
    refine W.widen (k := 1) (n := 6) (Nat.le_of_ble_eq_true rfl) (Nat.le_of_ble_eq_true rfl) ?_
    refine vx_ret ?_
    exact W.iret (v := r4) hx hb hr (fun t ht hW => ⟨r4, rfl, rfl, ht⟩) (fun q h => absurd h List.not_mem_nil) dX10_columnHeight_16
  · subst hf
    have hPc : va_P (dC, dI) vwCl (wX10n Y a L_hasSnapshot L_formError L_commandError T_count T_weights T_strengths T_heights T_wages T_nightsToHeal B_accounts B_balances B_balancesAtClosing B_entries B_debited B_credited B_amounts C_nights C_netWidth C_shows C_fallen) s.heap := hP
    refine wx_vvX (As := [.int x1]) (rest := []) ⟨hx, hb, hml, hown, hts⟩ (c_X10_requireSet l hl0 dC dI Y g a L_hasSnapshot L_formError L_commandError T_count T_weights T_strengths T_heights T_wages T_nightsToHeal B_accounts B_balances B_balancesAtClosing B_entries B_debited B_credited B_amounts C_nights C_netWidth C_shows C_fallen x1 (.inr E3) hr1) (cwV 1 hts gX10_columnHeight_X10_requireSet rfl rfl rfl (by decide +kernel) ⟨Nat.le_of_ble_eq_true rfl, Nat.le_of_ble_eq_true rfl⟩) hK hPc hT hS (va_recv hK hP (ci := 10) (q0 := 0) rfl rfl) rfl hl.1 rfl (Nat.le_of_ble_eq_true rfl) dX10_columnHeight_2 ⟨Nat.le_of_ble_eq_true rfl, Nat.le_of_ble_eq_true rfl⟩ (fun H1 ce q9 hz hq hce hcv hcl => ?_)
    exact vx_out (fun x h => (htab x h).elim) hlocks hce hcv hcl (fun t ht hvm => ⟨rfl, by rw [ht]; exact hz, fun q h => by rw [ht]; exact hq q h⟩) (fun q h => absurd h List.not_mem_nil) (Nat.le_of_ble_eq_true rfl) (Nat.le_of_ble_eq_true rfl)
theorem lk_X10_overloaded_RX10_12 : Cond.fieldLink RX10 12 "CircusLedger" "now" "LCircusLedger$Circus;" ∈ wsX10_overloaded := by decide +kernel
theorem lk_X10_overloaded_RX10_122 : Cond.fieldLink RX10 122 "CircusLedger$Circus" "troupe" "LCircusLedger$Troupe;" ∈ wsX10_overloaded := by decide +kernel
theorem in_X10_overloaded_X10 : ∀ w ∈ u_ws RX10 TX10 9, w ∈ wsX10_overloaded := by decide +kernel
theorem in_X10_overloaded_X3 : ∀ w ∈ u_ws RX3 TX3 6, w ∈ wsX10_overloaded := by decide +kernel
def f_X10_overloaded (T_count : Int32) (T_weights : Nat → Int32) (T_strengths : Nat → Int32) (x1 : Int32) : Option ((Int32) ⊕ String) :=
  wkx (f_X10_requireSet T_count x1) (fun r2 =>
  wkb1 (f_X9_overloadedOf T_count T_weights T_strengths x1) (fun r4 =>
  wkx (f_X10_requireFound r4) (fun r6 =>
  some (.inl (r6)))))
set_option maxHeartbeats 4000000 in
set_option maxRecDepth 100000 in
theorem c_X10_overloaded (l : Launch) (hl0 : l.stackTraces = false) (dC : Nat → ClassId) (dI : Nat → Nat → Nat) (Y : Nat → ClassId) (g : Nat → Nat → Nat) (a : Nat → Nat) (L_hasSnapshot : Int32) (L_formError : Int32) (L_commandError : Int32) (T_count : Int32) (T_weights : Nat → Int32) (T_strengths : Nat → Int32) (T_heights : Nat → Int32) (T_wages : Nat → Int32) (T_nightsToHeal : Nat → Int32) (B_accounts : Int32) (B_balances : Nat → Int32) (B_balancesAtClosing : Nat → Int32) (B_entries : Int32) (B_debited : Nat → Int32) (B_credited : Nat → Int32) (B_amounts : Nat → Int32) (C_nights : Int32) (C_netWidth : Int32) (C_shows : Int32) (C_fallen : Int32) (x1 : Int32) (out : Int32 ⊕ String) (hf : f_X10_overloaded T_count T_weights T_strengths x1 = some out) : vx_Met l yX10_overloaded wsX10_overloaded ({ frames := 9, cells := 2, slots := 12, locals := 141 } : Room) (va_Pc [.ref (a 0), .int x1] (wk_BT (dC, dI) Y g (wX10n Y a L_hasSnapshot L_formError L_commandError T_count T_weights T_strengths T_heights T_wages T_nightsToHeal B_accounts B_balances B_balancesAtClosing B_entries B_debited B_credited B_amounts C_nights C_netWidth C_shows C_fallen))) (wxQi out) (wxX out) 2 12 (fun _ => False) := by
  refine vx_ofW (cc := cX10_overloaded) (maxL := 2) (ret := (some .int)) (by decide) rfl ?_
  intro p e s m args below meth c s₁ B hml htab hv
  obtain ⟨rfl, ⟨hP, hK⟩, hT⟩ := hv
  have hx := B.exec
  have hb := B.bytes
  have hr := B.returns
  have hts := atoms_spec (ws := wsX10_overloaded) B.pre
  have hown : s.vm.findClass RX10 = some m.cls := findClass_of_methodNamed B.named
  have hlocks := B.notSynchronized
  have C0 : wk_C p s m _ meth c cX10_overloaded 2 (some .int) wsX10_overloaded RX10 := ⟨hx, hb, hml, hr, hlocks, hown, hts⟩
  have hP : va_P (dC, dI) vwCl [(a 0, .inr (10, [.ref (a 1), .ref (a 14), .ref (a 16), .int L_hasSnapshot, .ref (a 29), .ref (a 34), .int L_formError, .int L_commandError, .ref (a 38)])), (a 1, .inr (5, [.ref (a 2), .ref (a 8), .int C_nights, .int C_netWidth, .int C_shows, .int C_fallen])), (a 2, .inr (9, [.int T_count, .ref (a 3), .ref (a 4), .ref (a 5), .ref (a 6), .ref (a 7)])), (a 3, .inl (Y 0, 6, .inl T_weights)), (a 4, .inl (Y 0, 6, .inl T_strengths)), (a 5, .inl (Y 0, 6, .inl T_heights)), (a 6, .inl (Y 0, 6, .inl T_wages)), (a 7, .inl (Y 0, 6, .inl T_nightsToHeal)), (a 8, .inr (4, [.int B_accounts, .ref (a 9), .ref (a 10), .int B_entries, .ref (a 11), .ref (a 12), .ref (a 13)])), (a 9, .inl (Y 0, 11, .inl B_balances)), (a 10, .inl (Y 0, 11, .inl B_balancesAtClosing)), (a 11, .inl (Y 0, 60, .inl B_debited)), (a 12, .inl (Y 0, 60, .inl B_credited)), (a 13, .inl (Y 0, 60, .inl B_amounts))] s.heap := hP
  have hS : va_S (fun _ : Nat => False) s.heap s.heap [] := va_S.rf
  have hl := lv_entry ([.ref (a 0), .int x1]) (n := 2) (Nat.le_of_ble_eq_true rfl)
  rw [lg_entry_eq]
  generalize (lg_sl ([.ref (a 0), .int x1]) ++ List.replicate (2 - (lg_sl ([.ref (a 0), .int x1])).length) Slot.unset).toArray = ls at hl ⊢
  have hl : lv_has ls 2 [(0, .ref (a 0)), (1, .int x1)] := hl
  rw [f_X10_overloaded] at hf
  refine lv_aload_n hx hb dX10_overloaded_0 rfl (lv_at hl 0 rfl) ?_
  refine lv_iload_n hx hb dX10_overloaded_1 rfl (lv_at hl 1 rfl) ?_
  rcases wkx_s hf with ⟨r2, hr1, hf⟩ | ⟨E3, hr1, hf⟩
  · have hPc : va_P (dC, dI) vwCl (wX10n Y a L_hasSnapshot L_formError L_commandError T_count T_weights T_strengths T_heights T_wages T_nightsToHeal B_accounts B_balances B_balancesAtClosing B_entries B_debited B_credited B_amounts C_nights C_netWidth C_shows C_fallen) s.heap := hP
    refine wx_vvN (As := [.int x1]) (rest := []) ⟨hx, hb, hml, hown, hts⟩ (c_X10_requireSet l hl0 dC dI Y g a L_hasSnapshot L_formError L_commandError T_count T_weights T_strengths T_heights T_wages T_nightsToHeal B_accounts B_balances B_balancesAtClosing B_entries B_debited B_credited B_amounts C_nights C_netWidth C_shows C_fallen x1 (.inl r2) hr1) (cwV 1 hts gX10_overloaded_X10_requireSet rfl rfl rfl (by decide +kernel) ⟨Nat.le_of_ble_eq_true rfl, Nat.le_of_ble_eq_true rfl⟩) hK hPc hT hS (va_recv hK hP (ci := 10) (q0 := 0) rfl rfl) rfl hl.1 rfl (Nat.le_of_ble_eq_true rfl) dX10_overloaded_2 ⟨Nat.le_of_ble_eq_true rfl, Nat.le_of_ble_eq_true rfl⟩ ?_
    refine lv_aload_n hx hb dX10_overloaded_5 rfl (lv_at hl 0 rfl) ?_
    refine va_get (D := (dC, dI)) (ci := 10) (v := .ref (a 1)) (C := RX10) (T := TX10) (N := 9) hx hb hts in_X10_overloaded_X10 hown hK hP 0 rfl rfl 0 (by decide) (hts _ lk_X10_overloaded_RX10_12) (fun _ h9 => h9) rfl dX10_overloaded_6 ?_
    refine va_get (D := (dC, dI)) (ci := 5) (v := .ref (a 2)) (C := RX3) (T := TX3) (N := 6) hx hb hts in_X10_overloaded_X3 hown hK hP 1 rfl rfl 0 (by decide) (hts _ lk_X10_overloaded_RX10_122) (fun _ h9 => h9) rfl dX10_overloaded_9 ?_
    refine lv_iload_n hx hb dX10_overloaded_12 rfl (lv_at hl 1 rfl) ?_
    obtain ⟨r4, hr5, hf⟩ := wkb1_s hf
    have hPc := hP.sub (ws' := (wX9 Y (fun k => a (k + 2)) T_count T_weights T_strengths T_heights T_wages T_nightsToHeal)) [2, 3, 4, 5, 6, 7] rfl
    refine wk_vi (As := [.int x1]) (rest := []) ⟨hx, hb, hml, hown, hts⟩ (c_X9_overloadedOf l dC dI Y (fun k => a (k + 2)) T_count T_weights T_strengths T_heights T_wages T_nightsToHeal x1 r4 hr5) (cwV 1 hts gX10_overloaded_X9_overloadedOf rfl rfl rfl (by decide +kernel) ⟨Nat.le_of_ble_eq_true rfl, Nat.le_of_ble_eq_true rfl⟩) hK hPc (va_recv hK hP (ci := 9) (q0 := 2) rfl rfl) rfl hl.1 rfl (Nat.le_of_ble_eq_true rfl) dX10_overloaded_13 ⟨Nat.le_of_ble_eq_true rfl, Nat.le_of_ble_eq_true rfl⟩ ?_
    rcases wkx_s hf with ⟨r6, hr7, hf⟩ | ⟨E8, hr7, hf⟩
    · have hPc := hP.sub (ws' := ([] : va_W)) [] rfl
      refine wx_siN (As := [.int r4]) (rest := []) ⟨hx, hb, hml, hown, hts⟩ (c_X10_requireFound l hl0 dC dI Y g   r4 (.inl r6) hr7) (va_cwS 1 hts gX10_overloaded_X10_requireFound rfl rfl rfl (by decide +kernel) ⟨Nat.le_of_ble_eq_true rfl, Nat.le_of_ble_eq_true rfl⟩) hK hPc hT hS rfl hl.1 rfl (Nat.le_of_ble_eq_true rfl) dX10_overloaded_16 ⟨Nat.le_of_ble_eq_true rfl, Nat.le_of_ble_eq_true rfl⟩ ?_
      have e0 := wke1 hf
      subst e0
      refine W.widen (k := 2) (n := 12) (Nat.le_of_ble_eq_true rfl) (Nat.le_of_ble_eq_true rfl) ?_
      refine vx_ret ?_
      exact W.iret (v := r6) hx hb hr (fun t ht hW => ⟨r6, rfl, rfl, ht⟩) (fun q h => absurd h List.not_mem_nil) dX10_overloaded_19
    · subst hf
      have hPc := hP.sub (ws' := ([] : va_W)) [] rfl
      refine wx_siX (As := [.int r4]) (rest := []) ⟨hx, hb, hml, hown, hts⟩ (c_X10_requireFound l hl0 dC dI Y g   r4 (.inr E8) hr7) (va_cwS 1 hts gX10_overloaded_X10_requireFound rfl rfl rfl (by decide +kernel) ⟨Nat.le_of_ble_eq_true rfl, Nat.le_of_ble_eq_true rfl⟩) hK hPc hT hS rfl hl.1 rfl (Nat.le_of_ble_eq_true rfl) dX10_overloaded_16 ⟨Nat.le_of_ble_eq_true rfl, Nat.le_of_ble_eq_true rfl⟩ (fun H1 ce q9 hz hq hce hcv hcl => ?_)
      exact vx_out (fun x h => (htab x h).elim) hlocks hce hcv hcl (fun t ht hvm => ⟨rfl, by rw [ht]; exact hz, fun q h => by rw [ht]; exact hq q h⟩) (fun q h => absurd h List.not_mem_nil) (Nat.le_of_ble_eq_true rfl) (Nat.le_of_ble_eq_true rfl)
  · subst hf
    have hPc : va_P (dC, dI) vwCl (wX10n Y a L_hasSnapshot L_formError L_commandError T_count T_weights T_strengths T_heights T_wages T_nightsToHeal B_accounts B_balances B_balancesAtClosing B_entries B_debited B_credited B_amounts C_nights C_netWidth C_shows C_fallen) s.heap := hP
    refine wx_vvX (As := [.int x1]) (rest := []) ⟨hx, hb, hml, hown, hts⟩ (c_X10_requireSet l hl0 dC dI Y g a L_hasSnapshot L_formError L_commandError T_count T_weights T_strengths T_heights T_wages T_nightsToHeal B_accounts B_balances B_balancesAtClosing B_entries B_debited B_credited B_amounts C_nights C_netWidth C_shows C_fallen x1 (.inr E3) hr1) (cwV 1 hts gX10_overloaded_X10_requireSet rfl rfl rfl (by decide +kernel) ⟨Nat.le_of_ble_eq_true rfl, Nat.le_of_ble_eq_true rfl⟩) hK hPc hT hS (va_recv hK hP (ci := 10) (q0 := 0) rfl rfl) rfl hl.1 rfl (Nat.le_of_ble_eq_true rfl) dX10_overloaded_2 ⟨Nat.le_of_ble_eq_true rfl, Nat.le_of_ble_eq_true rfl⟩ (fun H1 ce q9 hz hq hce hcv hcl => ?_)
    exact vx_out (fun x h => (htab x h).elim) hlocks hce hcv hcl (fun t ht hvm => ⟨rfl, by rw [ht]; exact hz, fun q h => by rw [ht]; exact hq q h⟩) (fun q h => absurd h List.not_mem_nil) (Nat.le_of_ble_eq_true rfl) (Nat.le_of_ble_eq_true rfl)
theorem lk_X10_damages_RX10_12 : Cond.fieldLink RX10 12 "CircusLedger" "now" "LCircusLedger$Circus;" ∈ wsX10_damages := by decide +kernel
theorem lk_X10_damages_RX10_122 : Cond.fieldLink RX10 122 "CircusLedger$Circus" "troupe" "LCircusLedger$Troupe;" ∈ wsX10_damages := by decide +kernel
theorem in_X10_damages_X10 : ∀ w ∈ u_ws RX10 TX10 9, w ∈ wsX10_damages := by decide +kernel
theorem in_X10_damages_X3 : ∀ w ∈ u_ws RX3 TX3 6, w ∈ wsX10_damages := by decide +kernel
def f_X10_damages (T_count : Int32) (T_weights : Nat → Int32) (T_strengths : Nat → Int32) (x1 : Int32) : Option ((Int32) ⊕ String) :=
  wkx (f_X10_requireSet T_count x1) (fun r2 =>
  wkb1 (f_X9_damagesOf T_count T_weights T_strengths x1) (fun r4 =>
  some (.inl (r4))))
set_option maxHeartbeats 4000000 in
set_option maxRecDepth 100000 in
theorem c_X10_damages (l : Launch) (hl0 : l.stackTraces = false) (dC : Nat → ClassId) (dI : Nat → Nat → Nat) (Y : Nat → ClassId) (g : Nat → Nat → Nat) (a : Nat → Nat) (L_hasSnapshot : Int32) (L_formError : Int32) (L_commandError : Int32) (T_count : Int32) (T_weights : Nat → Int32) (T_strengths : Nat → Int32) (T_heights : Nat → Int32) (T_wages : Nat → Int32) (T_nightsToHeal : Nat → Int32) (B_accounts : Int32) (B_balances : Nat → Int32) (B_balancesAtClosing : Nat → Int32) (B_entries : Int32) (B_debited : Nat → Int32) (B_credited : Nat → Int32) (B_amounts : Nat → Int32) (C_nights : Int32) (C_netWidth : Int32) (C_shows : Int32) (C_fallen : Int32) (x1 : Int32) (out : Int32 ⊕ String) (hf : f_X10_damages T_count T_weights T_strengths x1 = some out) : vx_Met l yX10_damages wsX10_damages ({ frames := 9, cells := 1, slots := 6, locals := 141 } : Room) (va_Pc [.ref (a 0), .int x1] (wk_BT (dC, dI) Y g (wX10n Y a L_hasSnapshot L_formError L_commandError T_count T_weights T_strengths T_heights T_wages T_nightsToHeal B_accounts B_balances B_balancesAtClosing B_entries B_debited B_credited B_amounts C_nights C_netWidth C_shows C_fallen))) (wxQi out) (wxX out) 1 6 (fun _ => False) := by
  refine vx_ofW (cc := cX10_damages) (maxL := 2) (ret := (some .int)) (by decide) rfl ?_
  intro p e s m args below meth c s₁ B hml htab hv
  obtain ⟨rfl, ⟨hP, hK⟩, hT⟩ := hv
  have hx := B.exec
  have hb := B.bytes
  have hr := B.returns
  have hts := atoms_spec (ws := wsX10_damages) B.pre
  have hown : s.vm.findClass RX10 = some m.cls := findClass_of_methodNamed B.named
  have hlocks := B.notSynchronized
  have C0 : wk_C p s m _ meth c cX10_damages 2 (some .int) wsX10_damages RX10 := ⟨hx, hb, hml, hr, hlocks, hown, hts⟩
  have hP : va_P (dC, dI) vwCl [(a 0, .inr (10, [.ref (a 1), .ref (a 14), .ref (a 16), .int L_hasSnapshot, .ref (a 29), .ref (a 34), .int L_formError, .int L_commandError, .ref (a 38)])), (a 1, .inr (5, [.ref (a 2), .ref (a 8), .int C_nights, .int C_netWidth, .int C_shows, .int C_fallen])), (a 2, .inr (9, [.int T_count, .ref (a 3), .ref (a 4), .ref (a 5), .ref (a 6), .ref (a 7)])), (a 3, .inl (Y 0, 6, .inl T_weights)), (a 4, .inl (Y 0, 6, .inl T_strengths)), (a 5, .inl (Y 0, 6, .inl T_heights)), (a 6, .inl (Y 0, 6, .inl T_wages)), (a 7, .inl (Y 0, 6, .inl T_nightsToHeal)), (a 8, .inr (4, [.int B_accounts, .ref (a 9), .ref (a 10), .int B_entries, .ref (a 11), .ref (a 12), .ref (a 13)])), (a 9, .inl (Y 0, 11, .inl B_balances)), (a 10, .inl (Y 0, 11, .inl B_balancesAtClosing)), (a 11, .inl (Y 0, 60, .inl B_debited)), (a 12, .inl (Y 0, 60, .inl B_credited)), (a 13, .inl (Y 0, 60, .inl B_amounts))] s.heap := hP
  have hS : va_S (fun _ : Nat => False) s.heap s.heap [] := va_S.rf
  have hl := lv_entry ([.ref (a 0), .int x1]) (n := 2) (Nat.le_of_ble_eq_true rfl)
  rw [lg_entry_eq]
  generalize (lg_sl ([.ref (a 0), .int x1]) ++ List.replicate (2 - (lg_sl ([.ref (a 0), .int x1])).length) Slot.unset).toArray = ls at hl ⊢
  have hl : lv_has ls 2 [(0, .ref (a 0)), (1, .int x1)] := hl
  rw [f_X10_damages] at hf
  refine lv_aload_n hx hb dX10_damages_0 rfl (lv_at hl 0 rfl) ?_
  refine lv_iload_n hx hb dX10_damages_1 rfl (lv_at hl 1 rfl) ?_
  rcases wkx_s hf with ⟨r2, hr1, hf⟩ | ⟨E3, hr1, hf⟩
  · have hPc : va_P (dC, dI) vwCl (wX10n Y a L_hasSnapshot L_formError L_commandError T_count T_weights T_strengths T_heights T_wages T_nightsToHeal B_accounts B_balances B_balancesAtClosing B_entries B_debited B_credited B_amounts C_nights C_netWidth C_shows C_fallen) s.heap := hP
    refine wx_vvN (As := [.int x1]) (rest := []) ⟨hx, hb, hml, hown, hts⟩ (c_X10_requireSet l hl0 dC dI Y g a L_hasSnapshot L_formError L_commandError T_count T_weights T_strengths T_heights T_wages T_nightsToHeal B_accounts B_balances B_balancesAtClosing B_entries B_debited B_credited B_amounts C_nights C_netWidth C_shows C_fallen x1 (.inl r2) hr1) (cwV 1 hts gX10_damages_X10_requireSet rfl rfl rfl (by decide +kernel) ⟨Nat.le_of_ble_eq_true rfl, Nat.le_of_ble_eq_true rfl⟩) hK hPc hT hS (va_recv hK hP (ci := 10) (q0 := 0) rfl rfl) rfl hl.1 rfl (Nat.le_of_ble_eq_true rfl) dX10_damages_2 ⟨Nat.le_of_ble_eq_true rfl, Nat.le_of_ble_eq_true rfl⟩ ?_
    refine lv_aload_n hx hb dX10_damages_5 rfl (lv_at hl 0 rfl) ?_
    refine va_get (D := (dC, dI)) (ci := 10) (v := .ref (a 1)) (C := RX10) (T := TX10) (N := 9) hx hb hts in_X10_damages_X10 hown hK hP 0 rfl rfl 0 (by decide) (hts _ lk_X10_damages_RX10_12) (fun _ h9 => h9) rfl dX10_damages_6 ?_
    refine va_get (D := (dC, dI)) (ci := 5) (v := .ref (a 2)) (C := RX3) (T := TX3) (N := 6) hx hb hts in_X10_damages_X3 hown hK hP 1 rfl rfl 0 (by decide) (hts _ lk_X10_damages_RX10_122) (fun _ h9 => h9) rfl dX10_damages_9 ?_
    refine lv_iload_n hx hb dX10_damages_12 rfl (lv_at hl 1 rfl) ?_
    obtain ⟨r4, hr5, hf⟩ := wkb1_s hf
    have hPc := hP.sub (ws' := (wX9 Y (fun k => a (k + 2)) T_count T_weights T_strengths T_heights T_wages T_nightsToHeal)) [2, 3, 4, 5, 6, 7] rfl
    refine wk_vi (As := [.int x1]) (rest := []) ⟨hx, hb, hml, hown, hts⟩ (c_X9_damagesOf l dC dI Y (fun k => a (k + 2)) T_count T_weights T_strengths T_heights T_wages T_nightsToHeal x1 r4 hr5) (cwV 1 hts gX10_damages_X9_damagesOf rfl rfl rfl (by decide +kernel) ⟨Nat.le_of_ble_eq_true rfl, Nat.le_of_ble_eq_true rfl⟩) hK hPc (va_recv hK hP (ci := 9) (q0 := 2) rfl rfl) rfl hl.1 rfl (Nat.le_of_ble_eq_true rfl) dX10_damages_13 ⟨Nat.le_of_ble_eq_true rfl, Nat.le_of_ble_eq_true rfl⟩ ?_
    have e0 := wke1 hf
    subst e0
    refine W.widen (k := 1) (n := 6) (Nat.le_of_ble_eq_true rfl) (Nat.le_of_ble_eq_true rfl) ?_
    refine vx_ret ?_
    exact W.iret (v := r4) hx hb hr (fun t ht hW => ⟨r4, rfl, rfl, ht⟩) (fun q h => absurd h List.not_mem_nil) dX10_damages_16
  · subst hf
    have hPc : va_P (dC, dI) vwCl (wX10n Y a L_hasSnapshot L_formError L_commandError T_count T_weights T_strengths T_heights T_wages T_nightsToHeal B_accounts B_balances B_balancesAtClosing B_entries B_debited B_credited B_amounts C_nights C_netWidth C_shows C_fallen) s.heap := hP
    refine wx_vvX (As := [.int x1]) (rest := []) ⟨hx, hb, hml, hown, hts⟩ (c_X10_requireSet l hl0 dC dI Y g a L_hasSnapshot L_formError L_commandError T_count T_weights T_strengths T_heights T_wages T_nightsToHeal B_accounts B_balances B_balancesAtClosing B_entries B_debited B_credited B_amounts C_nights C_netWidth C_shows C_fallen x1 (.inr E3) hr1) (cwV 1 hts gX10_damages_X10_requireSet rfl rfl rfl (by decide +kernel) ⟨Nat.le_of_ble_eq_true rfl, Nat.le_of_ble_eq_true rfl⟩) hK hPc hT hS (va_recv hK hP (ci := 10) (q0 := 0) rfl rfl) rfl hl.1 rfl (Nat.le_of_ble_eq_true rfl) dX10_damages_2 ⟨Nat.le_of_ble_eq_true rfl, Nat.le_of_ble_eq_true rfl⟩ (fun H1 ce q9 hz hq hce hcv hcl => ?_)
    exact vx_out (fun x h => (htab x h).elim) hlocks hce hcv hcl (fun t ht hvm => ⟨rfl, by rw [ht]; exact hz, fun q h => by rw [ht]; exact hq q h⟩) (fun q h => absurd h List.not_mem_nil) (Nat.le_of_ble_eq_true rfl) (Nat.le_of_ble_eq_true rfl)
theorem lk_X10_isCovered_RX10_12 : Cond.fieldLink RX10 12 "CircusLedger" "now" "LCircusLedger$Circus;" ∈ wsX10_isCovered := by decide +kernel
theorem lk_X10_isCovered_RX10_74 : Cond.fieldLink RX10 74 "CircusLedger$Circus" "books" "LCircusLedger$Books;" ∈ wsX10_isCovered := by decide +kernel
theorem lk_X10_isCovered_RX10_122 : Cond.fieldLink RX10 122 "CircusLedger$Circus" "troupe" "LCircusLedger$Troupe;" ∈ wsX10_isCovered := by decide +kernel
theorem lk_X10_isCovered_RX10_183 : Cond.fieldLink RX10 183 "CircusLedger$Books" "balances" "[I" ∈ wsX10_isCovered := by decide +kernel
theorem in_X10_isCovered_X10 : ∀ w ∈ u_ws RX10 TX10 9, w ∈ wsX10_isCovered := by decide +kernel
theorem in_X10_isCovered_X2 : ∀ w ∈ u_ws RX2 TX2 7, w ∈ wsX10_isCovered := by decide +kernel
theorem in_X10_isCovered_X3 : ∀ w ∈ u_ws RX3 TX3 6, w ∈ wsX10_isCovered := by decide +kernel
def f_X10_isCovered (T_count : Int32) (T_weights : Nat → Int32) (T_strengths : Nat → Int32) (B_balances : Nat → Int32) (x1 : Int32) : Option ((Int32) ⊕ String) :=
  wkx (f_X10_requireSet T_count x1) (fun r2 =>
  wkb1 (f_X9_damagesOf T_count T_weights T_strengths x1) (fun r4 =>
  if (B_balances 1) < r4 then
    (some (.inl (0)))
  else
    (some (.inl (1)))))
set_option maxHeartbeats 4000000 in
set_option maxRecDepth 100000 in
theorem c_X10_isCovered (l : Launch) (hl0 : l.stackTraces = false) (dC : Nat → ClassId) (dI : Nat → Nat → Nat) (Y : Nat → ClassId) (g : Nat → Nat → Nat) (a : Nat → Nat) (L_hasSnapshot : Int32) (L_formError : Int32) (L_commandError : Int32) (T_count : Int32) (T_weights : Nat → Int32) (T_strengths : Nat → Int32) (T_heights : Nat → Int32) (T_wages : Nat → Int32) (T_nightsToHeal : Nat → Int32) (B_accounts : Int32) (B_balances : Nat → Int32) (B_balancesAtClosing : Nat → Int32) (B_entries : Int32) (B_debited : Nat → Int32) (B_credited : Nat → Int32) (B_amounts : Nat → Int32) (C_nights : Int32) (C_netWidth : Int32) (C_shows : Int32) (C_fallen : Int32) (x1 : Int32) (out : Int32 ⊕ String) (hf : f_X10_isCovered T_count T_weights T_strengths B_balances x1 = some out) : vx_Met l yX10_isCovered wsX10_isCovered ({ frames := 9, cells := 1, slots := 6, locals := 141 } : Room) (va_Pc [.ref (a 0), .int x1] (wk_BT (dC, dI) Y g (wX10n Y a L_hasSnapshot L_formError L_commandError T_count T_weights T_strengths T_heights T_wages T_nightsToHeal B_accounts B_balances B_balancesAtClosing B_entries B_debited B_credited B_amounts C_nights C_netWidth C_shows C_fallen))) (wxQi out) (wxX out) 1 6 (fun _ => False) := by
  refine vx_ofW (cc := cX10_isCovered) (maxL := 2) (ret := (some .boolean)) (by decide) rfl ?_
  intro p e s m args below meth c s₁ B hml htab hv
  obtain ⟨rfl, ⟨hP, hK⟩, hT⟩ := hv
  have hx := B.exec
  have hb := B.bytes
  have hr := B.returns
  have hts := atoms_spec (ws := wsX10_isCovered) B.pre
  have hown : s.vm.findClass RX10 = some m.cls := findClass_of_methodNamed B.named
  have hlocks := B.notSynchronized
  have C0 : wk_C p s m _ meth c cX10_isCovered 2 (some .boolean) wsX10_isCovered RX10 := ⟨hx, hb, hml, hr, hlocks, hown, hts⟩
  have hP : va_P (dC, dI) vwCl [(a 0, .inr (10, [.ref (a 1), .ref (a 14), .ref (a 16), .int L_hasSnapshot, .ref (a 29), .ref (a 34), .int L_formError, .int L_commandError, .ref (a 38)])), (a 1, .inr (5, [.ref (a 2), .ref (a 8), .int C_nights, .int C_netWidth, .int C_shows, .int C_fallen])), (a 2, .inr (9, [.int T_count, .ref (a 3), .ref (a 4), .ref (a 5), .ref (a 6), .ref (a 7)])), (a 3, .inl (Y 0, 6, .inl T_weights)), (a 4, .inl (Y 0, 6, .inl T_strengths)), (a 5, .inl (Y 0, 6, .inl T_heights)), (a 6, .inl (Y 0, 6, .inl T_wages)), (a 7, .inl (Y 0, 6, .inl T_nightsToHeal)), (a 8, .inr (4, [.int B_accounts, .ref (a 9), .ref (a 10), .int B_entries, .ref (a 11), .ref (a 12), .ref (a 13)])), (a 9, .inl (Y 0, 11, .inl B_balances)), (a 10, .inl (Y 0, 11, .inl B_balancesAtClosing)), (a 11, .inl (Y 0, 60, .inl B_debited)), (a 12, .inl (Y 0, 60, .inl B_credited)), (a 13, .inl (Y 0, 60, .inl B_amounts))] s.heap := hP
  have hS : va_S (fun _ : Nat => False) s.heap s.heap [] := va_S.rf
  have hl := lv_entry ([.ref (a 0), .int x1]) (n := 2) (Nat.le_of_ble_eq_true rfl)
  rw [lg_entry_eq]
  generalize (lg_sl ([.ref (a 0), .int x1]) ++ List.replicate (2 - (lg_sl ([.ref (a 0), .int x1])).length) Slot.unset).toArray = ls at hl ⊢
  have hl : lv_has ls 2 [(0, .ref (a 0)), (1, .int x1)] := hl
  rw [f_X10_isCovered] at hf
  refine lv_aload_n hx hb dX10_isCovered_0 rfl (lv_at hl 0 rfl) ?_
  refine lv_iload_n hx hb dX10_isCovered_1 rfl (lv_at hl 1 rfl) ?_
  rcases wkx_s hf with ⟨r2, hr1, hf⟩ | ⟨E3, hr1, hf⟩
  · have hPc : va_P (dC, dI) vwCl (wX10n Y a L_hasSnapshot L_formError L_commandError T_count T_weights T_strengths T_heights T_wages T_nightsToHeal B_accounts B_balances B_balancesAtClosing B_entries B_debited B_credited B_amounts C_nights C_netWidth C_shows C_fallen) s.heap := hP
    refine wx_vvN (As := [.int x1]) (rest := []) ⟨hx, hb, hml, hown, hts⟩ (c_X10_requireSet l hl0 dC dI Y g a L_hasSnapshot L_formError L_commandError T_count T_weights T_strengths T_heights T_wages T_nightsToHeal B_accounts B_balances B_balancesAtClosing B_entries B_debited B_credited B_amounts C_nights C_netWidth C_shows C_fallen x1 (.inl r2) hr1) (cwV 1 hts gX10_isCovered_X10_requireSet rfl rfl rfl (by decide +kernel) ⟨Nat.le_of_ble_eq_true rfl, Nat.le_of_ble_eq_true rfl⟩) hK hPc hT hS (va_recv hK hP (ci := 10) (q0 := 0) rfl rfl) rfl hl.1 rfl (Nat.le_of_ble_eq_true rfl) dX10_isCovered_2 ⟨Nat.le_of_ble_eq_true rfl, Nat.le_of_ble_eq_true rfl⟩ ?_
    refine lv_aload_n hx hb dX10_isCovered_5 rfl (lv_at hl 0 rfl) ?_
    refine va_get (D := (dC, dI)) (ci := 10) (v := .ref (a 1)) (C := RX10) (T := TX10) (N := 9) hx hb hts in_X10_isCovered_X10 hown hK hP 0 rfl rfl 0 (by decide) (hts _ lk_X10_isCovered_RX10_12) (fun _ h9 => h9) rfl dX10_isCovered_6 ?_
    refine va_get (D := (dC, dI)) (ci := 5) (v := .ref (a 8)) (C := RX3) (T := TX3) (N := 6) hx hb hts in_X10_isCovered_X3 hown hK hP 1 rfl rfl 1 (by decide) (hts _ lk_X10_isCovered_RX10_74) (fun _ h9 => h9) rfl dX10_isCovered_9 ?_
    refine va_get (D := (dC, dI)) (ci := 4) (v := .ref (a 9)) (C := RX2) (T := TX2) (N := 7) hx hb hts in_X10_isCovered_X2 hown hK hP 8 rfl rfl 1 (by decide) (hts _ lk_X10_isCovered_RX10_183) (fun _ h9 => h9) rfl dX10_isCovered_12 ?_
    refine lv_iconst (v := 1) hx hb dX10_isCovered_15 (by decide) ?_
    refine wk_iald hx hb hK hP 9 0 (k := 1) rfl rfl (vp_lit (by decide)) (by decide) dX10_isCovered_16 ?_
    refine lv_aload_n hx hb dX10_isCovered_17 rfl (lv_at hl 0 rfl) ?_
    refine va_get (D := (dC, dI)) (ci := 10) (v := .ref (a 1)) (C := RX10) (T := TX10) (N := 9) hx hb hts in_X10_isCovered_X10 hown hK hP 0 rfl rfl 0 (by decide) (hts _ lk_X10_isCovered_RX10_12) (fun _ h9 => h9) rfl dX10_isCovered_18 ?_
    refine va_get (D := (dC, dI)) (ci := 5) (v := .ref (a 2)) (C := RX3) (T := TX3) (N := 6) hx hb hts in_X10_isCovered_X3 hown hK hP 1 rfl rfl 0 (by decide) (hts _ lk_X10_isCovered_RX10_122) (fun _ h9 => h9) rfl dX10_isCovered_21 ?_
    refine lv_iload_n hx hb dX10_isCovered_24 rfl (lv_at hl 1 rfl) ?_
    obtain ⟨r4, hr5, hf⟩ := wkb1_s hf
    have hPc := hP.sub (ws' := (wX9 Y (fun k => a (k + 2)) T_count T_weights T_strengths T_heights T_wages T_nightsToHeal)) [2, 3, 4, 5, 6, 7] rfl
    refine wk_vi (As := [.int x1]) (rest := [.int (B_balances 1)]) ⟨hx, hb, hml, hown, hts⟩ (c_X9_damagesOf l dC dI Y (fun k => a (k + 2)) T_count T_weights T_strengths T_heights T_wages T_nightsToHeal x1 r4 hr5) (cwV 1 hts gX10_isCovered_X9_damagesOf rfl rfl rfl (by decide +kernel) ⟨Nat.le_of_ble_eq_true rfl, Nat.le_of_ble_eq_true rfl⟩) hK hPc (va_recv hK hP (ci := 9) (q0 := 2) rfl rfl) rfl hl.1 rfl (Nat.le_of_ble_eq_true rfl) dX10_isCovered_25 ⟨Nat.le_of_ble_eq_true rfl, Nat.le_of_ble_eq_true rfl⟩ ?_
    refine lv_icmp_lt (tgt := 35) hx hb dX10_isCovered_28 (by decide) (fun q6 => ?_) (fun q6 => ?_)
    · have hf := wk_t hf q6
      refine lv_iconst (v := 0) hx hb dX10_isCovered_35 (by decide) ?_
      have e0 := wke1 hf
      subst e0
      refine W.widen (k := 1) (n := 6) (Nat.le_of_ble_eq_true rfl) (Nat.le_of_ble_eq_true rfl) ?_
      refine vx_ret ?_
      exact W.zret (v := 0) (ty := .boolean) hx hb hr rfl (fun t ht hW => ⟨0, rfl, rfl, ht⟩) (fun q h => absurd h List.not_mem_nil) dX10_isCovered_36
    · have hf := wk_f hf q6
      refine lv_iconst (v := 1) hx hb dX10_isCovered_31 (by decide) ?_
      refine lv_goto (tgt := 36) hx hb dX10_isCovered_32 (by decide) ?_
      have e0 := wke1 hf
      subst e0
      refine W.widen (k := 1) (n := 6) (Nat.le_of_ble_eq_true rfl) (Nat.le_of_ble_eq_true rfl) ?_
      refine vx_ret ?_
      exact W.zret (v := 1) (ty := .boolean) hx hb hr rfl (fun t ht hW => ⟨1, rfl, rfl, ht⟩) (fun q h => absurd h List.not_mem_nil) dX10_isCovered_36
  · subst hf
    have hPc : va_P (dC, dI) vwCl (wX10n Y a L_hasSnapshot L_formError L_commandError T_count T_weights T_strengths T_heights T_wages T_nightsToHeal B_accounts B_balances B_balancesAtClosing B_entries B_debited B_credited B_amounts C_nights C_netWidth C_shows C_fallen) s.heap := hP
    refine wx_vvX (As := [.int x1]) (rest := []) ⟨hx, hb, hml, hown, hts⟩ (c_X10_requireSet l hl0 dC dI Y g a L_hasSnapshot L_formError L_commandError T_count T_weights T_strengths T_heights T_wages T_nightsToHeal B_accounts B_balances B_balancesAtClosing B_entries B_debited B_credited B_amounts C_nights C_netWidth C_shows C_fallen x1 (.inr E3) hr1) (cwV 1 hts gX10_isCovered_X10_requireSet rfl rfl rfl (by decide +kernel) ⟨Nat.le_of_ble_eq_true rfl, Nat.le_of_ble_eq_true rfl⟩) hK hPc hT hS (va_recv hK hP (ci := 10) (q0 := 0) rfl rfl) rfl hl.1 rfl (Nat.le_of_ble_eq_true rfl) dX10_isCovered_2 ⟨Nat.le_of_ble_eq_true rfl, Nat.le_of_ble_eq_true rfl⟩ (fun H1 ce q9 hz hq hce hcv hcl => ?_)
    exact vx_out (fun x h => (htab x h).elim) hlocks hce hcv hcl (fun t ht hvm => ⟨rfl, by rw [ht]; exact hz, fun q h => by rw [ht]; exact hq q h⟩) (fun q h => absurd h List.not_mem_nil) (Nat.le_of_ble_eq_true rfl) (Nat.le_of_ble_eq_true rfl)
theorem lk_X10_safety_RX10_12 : Cond.fieldLink RX10 12 "CircusLedger" "now" "LCircusLedger$Circus;" ∈ wsX10_safety := by decide +kernel
theorem lk_X10_safety_RX10_122 : Cond.fieldLink RX10 122 "CircusLedger$Circus" "troupe" "LCircusLedger$Troupe;" ∈ wsX10_safety := by decide +kernel
theorem in_X10_safety_X10 : ∀ w ∈ u_ws RX10 TX10 9, w ∈ wsX10_safety := by decide +kernel
theorem in_X10_safety_X3 : ∀ w ∈ u_ws RX3 TX3 6, w ∈ wsX10_safety := by decide +kernel
def f_X10_safety (T_count : Int32) (T_weights : Nat → Int32) (T_strengths : Nat → Int32) (x1 : Int32) : Option ((UInt32) ⊕ String) :=
  wkx (f_X10_requireSet T_count x1) (fun r2 =>
  wkx (f_X10_requireSeveral x1) (fun r5 =>
  wkb1 (f_X9_safetyOf T_count T_weights T_strengths x1) (fun r7 =>
  some (.inl (r7)))))
set_option maxHeartbeats 4000000 in
set_option maxRecDepth 100000 in
theorem c_X10_safety (l : Launch) (hl0 : l.stackTraces = false) (dC : Nat → ClassId) (dI : Nat → Nat → Nat) (Y : Nat → ClassId) (g : Nat → Nat → Nat) (a : Nat → Nat) (L_hasSnapshot : Int32) (L_formError : Int32) (L_commandError : Int32) (T_count : Int32) (T_weights : Nat → Int32) (T_strengths : Nat → Int32) (T_heights : Nat → Int32) (T_wages : Nat → Int32) (T_nightsToHeal : Nat → Int32) (B_accounts : Int32) (B_balances : Nat → Int32) (B_balancesAtClosing : Nat → Int32) (B_entries : Int32) (B_debited : Nat → Int32) (B_credited : Nat → Int32) (B_amounts : Nat → Int32) (C_nights : Int32) (C_netWidth : Int32) (C_shows : Int32) (C_fallen : Int32) (x1 : Int32) (out : UInt32 ⊕ String) (hf : f_X10_safety T_count T_weights T_strengths x1 = some out) : vx_Met l yX10_safety wsX10_safety ({ frames := 9, cells := 2, slots := 12, locals := 141 } : Room) (va_Pc [.ref (a 0), .int x1] (wk_BT (dC, dI) Y g (wX10n Y a L_hasSnapshot L_formError L_commandError T_count T_weights T_strengths T_heights T_wages T_nightsToHeal B_accounts B_balances B_balancesAtClosing B_entries B_debited B_credited B_amounts C_nights C_netWidth C_shows C_fallen))) (wxQf out) (wxX out) 2 12 (fun _ => False) := by
  refine vx_ofW (cc := cX10_safety) (maxL := 2) (ret := (some .float)) (by decide) rfl ?_
  intro p e s m args below meth c s₁ B hml htab hv
  obtain ⟨rfl, ⟨hP, hK⟩, hT⟩ := hv
  have hx := B.exec
  have hb := B.bytes
  have hr := B.returns
  have hts := atoms_spec (ws := wsX10_safety) B.pre
  have hown : s.vm.findClass RX10 = some m.cls := findClass_of_methodNamed B.named
  have hlocks := B.notSynchronized
  have C0 : wk_C p s m _ meth c cX10_safety 2 (some .float) wsX10_safety RX10 := ⟨hx, hb, hml, hr, hlocks, hown, hts⟩
  have hP : va_P (dC, dI) vwCl [(a 0, .inr (10, [.ref (a 1), .ref (a 14), .ref (a 16), .int L_hasSnapshot, .ref (a 29), .ref (a 34), .int L_formError, .int L_commandError, .ref (a 38)])), (a 1, .inr (5, [.ref (a 2), .ref (a 8), .int C_nights, .int C_netWidth, .int C_shows, .int C_fallen])), (a 2, .inr (9, [.int T_count, .ref (a 3), .ref (a 4), .ref (a 5), .ref (a 6), .ref (a 7)])), (a 3, .inl (Y 0, 6, .inl T_weights)), (a 4, .inl (Y 0, 6, .inl T_strengths)), (a 5, .inl (Y 0, 6, .inl T_heights)), (a 6, .inl (Y 0, 6, .inl T_wages)), (a 7, .inl (Y 0, 6, .inl T_nightsToHeal)), (a 8, .inr (4, [.int B_accounts, .ref (a 9), .ref (a 10), .int B_entries, .ref (a 11), .ref (a 12), .ref (a 13)])), (a 9, .inl (Y 0, 11, .inl B_balances)), (a 10, .inl (Y 0, 11, .inl B_balancesAtClosing)), (a 11, .inl (Y 0, 60, .inl B_debited)), (a 12, .inl (Y 0, 60, .inl B_credited)), (a 13, .inl (Y 0, 60, .inl B_amounts))] s.heap := hP
  have hS : va_S (fun _ : Nat => False) s.heap s.heap [] := va_S.rf
  have hl := lv_entry ([.ref (a 0), .int x1]) (n := 2) (Nat.le_of_ble_eq_true rfl)
  rw [lg_entry_eq]
  generalize (lg_sl ([.ref (a 0), .int x1]) ++ List.replicate (2 - (lg_sl ([.ref (a 0), .int x1])).length) Slot.unset).toArray = ls at hl ⊢
  have hl : lv_has ls 2 [(0, .ref (a 0)), (1, .int x1)] := hl
  rw [f_X10_safety] at hf
  refine lv_aload_n hx hb dX10_safety_0 rfl (lv_at hl 0 rfl) ?_
  refine lv_iload_n hx hb dX10_safety_1 rfl (lv_at hl 1 rfl) ?_
  rcases wkx_s hf with ⟨r2, hr1, hf⟩ | ⟨E3, hr1, hf⟩
  · have hPc : va_P (dC, dI) vwCl (wX10n Y a L_hasSnapshot L_formError L_commandError T_count T_weights T_strengths T_heights T_wages T_nightsToHeal B_accounts B_balances B_balancesAtClosing B_entries B_debited B_credited B_amounts C_nights C_netWidth C_shows C_fallen) s.heap := hP
    refine wx_vvN (As := [.int x1]) (rest := []) ⟨hx, hb, hml, hown, hts⟩ (c_X10_requireSet l hl0 dC dI Y g a L_hasSnapshot L_formError L_commandError T_count T_weights T_strengths T_heights T_wages T_nightsToHeal B_accounts B_balances B_balancesAtClosing B_entries B_debited B_credited B_amounts C_nights C_netWidth C_shows C_fallen x1 (.inl r2) hr1) (cwV 1 hts gX10_safety_X10_requireSet rfl rfl rfl (by decide +kernel) ⟨Nat.le_of_ble_eq_true rfl, Nat.le_of_ble_eq_true rfl⟩) hK hPc hT hS (va_recv hK hP (ci := 10) (q0 := 0) rfl rfl) rfl hl.1 rfl (Nat.le_of_ble_eq_true rfl) dX10_safety_2 ⟨Nat.le_of_ble_eq_true rfl, Nat.le_of_ble_eq_true rfl⟩ ?_
    refine lv_iload_n hx hb dX10_safety_5 rfl (lv_at hl 1 rfl) ?_
    rcases wkx_s hf with ⟨r5, hr4, hf⟩ | ⟨E6, hr4, hf⟩
    · have hPc := hP.sub (ws' := ([] : va_W)) [] rfl
      refine wx_svN (As := [.int x1]) (rest := []) ⟨hx, hb, hml, hown, hts⟩ (c_X10_requireSeveral l hl0 dC dI Y g   x1 (.inl r5) hr4) (va_cwS 1 hts gX10_safety_X10_requireSeveral rfl rfl rfl (by decide +kernel) ⟨Nat.le_of_ble_eq_true rfl, Nat.le_of_ble_eq_true rfl⟩) hK hPc hT hS rfl hl.1 rfl (Nat.le_of_ble_eq_true rfl) dX10_safety_6 ⟨Nat.le_of_ble_eq_true rfl, Nat.le_of_ble_eq_true rfl⟩ ?_
      refine lv_aload_n hx hb dX10_safety_9 rfl (lv_at hl 0 rfl) ?_
      refine va_get (D := (dC, dI)) (ci := 10) (v := .ref (a 1)) (C := RX10) (T := TX10) (N := 9) hx hb hts in_X10_safety_X10 hown hK hP 0 rfl rfl 0 (by decide) (hts _ lk_X10_safety_RX10_12) (fun _ h9 => h9) rfl dX10_safety_10 ?_
      refine va_get (D := (dC, dI)) (ci := 5) (v := .ref (a 2)) (C := RX3) (T := TX3) (N := 6) hx hb hts in_X10_safety_X3 hown hK hP 1 rfl rfl 0 (by decide) (hts _ lk_X10_safety_RX10_122) (fun _ h9 => h9) rfl dX10_safety_13 ?_
      refine lv_iload_n hx hb dX10_safety_16 rfl (lv_at hl 1 rfl) ?_
      obtain ⟨r7, hr8, hf⟩ := wkb1_s hf
      have hPc := hP.sub (ws' := (wX9 Y (fun k => a (k + 2)) T_count T_weights T_strengths T_heights T_wages T_nightsToHeal)) [2, 3, 4, 5, 6, 7] rfl
      refine wk_vf (As := [.int x1]) (rest := []) ⟨hx, hb, hml, hown, hts⟩ (c_X9_safetyOf l dC dI Y (fun k => a (k + 2)) T_count T_weights T_strengths T_heights T_wages T_nightsToHeal x1 r7 hr8) (cwV 1 hts gX10_safety_X9_safetyOf rfl rfl rfl (by decide +kernel) ⟨Nat.le_of_ble_eq_true rfl, Nat.le_of_ble_eq_true rfl⟩) hK hPc (va_recv hK hP (ci := 9) (q0 := 2) rfl rfl) rfl hl.1 rfl (Nat.le_of_ble_eq_true rfl) dX10_safety_17 ⟨Nat.le_of_ble_eq_true rfl, Nat.le_of_ble_eq_true rfl⟩ ?_
      have e0 := wke1 hf
      subst e0
      refine W.widen (k := 2) (n := 12) (Nat.le_of_ble_eq_true rfl) (Nat.le_of_ble_eq_true rfl) ?_
      refine vx_ret ?_
      exact W.fret (v := r7) hx hb hr (fun t ht hW => ⟨r7, rfl, rfl, ht⟩) (fun q h => absurd h List.not_mem_nil) dX10_safety_20
    · subst hf
      have hPc := hP.sub (ws' := ([] : va_W)) [] rfl
      refine wx_svX (As := [.int x1]) (rest := []) ⟨hx, hb, hml, hown, hts⟩ (c_X10_requireSeveral l hl0 dC dI Y g   x1 (.inr E6) hr4) (va_cwS 1 hts gX10_safety_X10_requireSeveral rfl rfl rfl (by decide +kernel) ⟨Nat.le_of_ble_eq_true rfl, Nat.le_of_ble_eq_true rfl⟩) hK hPc hT hS rfl hl.1 rfl (Nat.le_of_ble_eq_true rfl) dX10_safety_6 ⟨Nat.le_of_ble_eq_true rfl, Nat.le_of_ble_eq_true rfl⟩ (fun H1 ce q9 hz hq hce hcv hcl => ?_)
      exact vx_out (fun x h => (htab x h).elim) hlocks hce hcv hcl (fun t ht hvm => ⟨rfl, by rw [ht]; exact hz, fun q h => by rw [ht]; exact hq q h⟩) (fun q h => absurd h List.not_mem_nil) (Nat.le_of_ble_eq_true rfl) (Nat.le_of_ble_eq_true rfl)
  · subst hf
    have hPc : va_P (dC, dI) vwCl (wX10n Y a L_hasSnapshot L_formError L_commandError T_count T_weights T_strengths T_heights T_wages T_nightsToHeal B_accounts B_balances B_balancesAtClosing B_entries B_debited B_credited B_amounts C_nights C_netWidth C_shows C_fallen) s.heap := hP
    refine wx_vvX (As := [.int x1]) (rest := []) ⟨hx, hb, hml, hown, hts⟩ (c_X10_requireSet l hl0 dC dI Y g a L_hasSnapshot L_formError L_commandError T_count T_weights T_strengths T_heights T_wages T_nightsToHeal B_accounts B_balances B_balancesAtClosing B_entries B_debited B_credited B_amounts C_nights C_netWidth C_shows C_fallen x1 (.inr E3) hr1) (cwV 1 hts gX10_safety_X10_requireSet rfl rfl rfl (by decide +kernel) ⟨Nat.le_of_ble_eq_true rfl, Nat.le_of_ble_eq_true rfl⟩) hK hPc hT hS (va_recv hK hP (ci := 10) (q0 := 0) rfl rfl) rfl hl.1 rfl (Nat.le_of_ble_eq_true rfl) dX10_safety_2 ⟨Nat.le_of_ble_eq_true rfl, Nat.le_of_ble_eq_true rfl⟩ (fun H1 ce q9 hz hq hce hcv hcl => ?_)
    exact vx_out (fun x h => (htab x h).elim) hlocks hce hcv hcl (fun t ht hvm => ⟨rfl, by rw [ht]; exact hz, fun q h => by rw [ht]; exact hq q h⟩) (fun q h => absurd h List.not_mem_nil) (Nat.le_of_ble_eq_true rfl) (Nat.le_of_ble_eq_true rfl)
theorem lk_X10_safetyBits_RX10_12 : Cond.fieldLink RX10 12 "CircusLedger" "now" "LCircusLedger$Circus;" ∈ wsX10_safetyBits := by decide +kernel
theorem lk_X10_safetyBits_RX10_122 : Cond.fieldLink RX10 122 "CircusLedger$Circus" "troupe" "LCircusLedger$Troupe;" ∈ wsX10_safetyBits := by decide +kernel
theorem in_X10_safetyBits_X10 : ∀ w ∈ u_ws RX10 TX10 9, w ∈ wsX10_safetyBits := by decide +kernel
theorem in_X10_safetyBits_X3 : ∀ w ∈ u_ws RX3 TX3 6, w ∈ wsX10_safetyBits := by decide +kernel
def f_X10_safetyBits (T_count : Int32) (T_weights : Nat → Int32) (T_strengths : Nat → Int32) (x1 : Int32) : Option ((Int32) ⊕ String) :=
  wkx (f_X10_requireSet T_count x1) (fun r2 =>
  wkx (f_X10_requireSeveral x1) (fun r5 =>
  wkb1 (f_X9_safetyOf T_count T_weights T_strengths x1) (fun r7 =>
  gok ((FP.f2d r7) &&& 0x7fffffffffffffff ≤ 0x7ff0000000000000) (wkb1 (f_X1_of (FP.f2d r7) 127 23) (fun r10 =>
  some (.inl ((r10).toInt32)))))))
set_option maxHeartbeats 4000000 in
set_option maxRecDepth 100000 in
theorem c_X10_safetyBits (l : Launch) (hl0 : l.stackTraces = false) (dC : Nat → ClassId) (dI : Nat → Nat → Nat) (Y : Nat → ClassId) (g : Nat → Nat → Nat) (a : Nat → Nat) (L_hasSnapshot : Int32) (L_formError : Int32) (L_commandError : Int32) (T_count : Int32) (T_weights : Nat → Int32) (T_strengths : Nat → Int32) (T_heights : Nat → Int32) (T_wages : Nat → Int32) (T_nightsToHeal : Nat → Int32) (B_accounts : Int32) (B_balances : Nat → Int32) (B_balancesAtClosing : Nat → Int32) (B_entries : Int32) (B_debited : Nat → Int32) (B_credited : Nat → Int32) (B_amounts : Nat → Int32) (C_nights : Int32) (C_netWidth : Int32) (C_shows : Int32) (C_fallen : Int32) (x1 : Int32) (out : Int32 ⊕ String) (hf : f_X10_safetyBits T_count T_weights T_strengths x1 = some out) : vx_Met l yX10_safetyBits wsX10_safetyBits ({ frames := 9, cells := 2, slots := 12, locals := 141 } : Room) (va_Pc [.ref (a 0), .int x1] (wk_BT (dC, dI) Y g (wX10n Y a L_hasSnapshot L_formError L_commandError T_count T_weights T_strengths T_heights T_wages T_nightsToHeal B_accounts B_balances B_balancesAtClosing B_entries B_debited B_credited B_amounts C_nights C_netWidth C_shows C_fallen))) (wxQi out) (wxX out) 2 12 (fun _ => False) := by
  refine vx_ofW (cc := cX10_safetyBits) (maxL := 2) (ret := (some .int)) (by decide) rfl ?_
  intro p e s m args below meth c s₁ B hml htab hv
  obtain ⟨rfl, ⟨hP, hK⟩, hT⟩ := hv
  have hx := B.exec
  have hb := B.bytes
  have hr := B.returns
  have hts := atoms_spec (ws := wsX10_safetyBits) B.pre
  have hown : s.vm.findClass RX10 = some m.cls := findClass_of_methodNamed B.named
  have hlocks := B.notSynchronized
  have C0 : wk_C p s m _ meth c cX10_safetyBits 2 (some .int) wsX10_safetyBits RX10 := ⟨hx, hb, hml, hr, hlocks, hown, hts⟩
  have hP : va_P (dC, dI) vwCl [(a 0, .inr (10, [.ref (a 1), .ref (a 14), .ref (a 16), .int L_hasSnapshot, .ref (a 29), .ref (a 34), .int L_formError, .int L_commandError, .ref (a 38)])), (a 1, .inr (5, [.ref (a 2), .ref (a 8), .int C_nights, .int C_netWidth, .int C_shows, .int C_fallen])), (a 2, .inr (9, [.int T_count, .ref (a 3), .ref (a 4), .ref (a 5), .ref (a 6), .ref (a 7)])), (a 3, .inl (Y 0, 6, .inl T_weights)), (a 4, .inl (Y 0, 6, .inl T_strengths)), (a 5, .inl (Y 0, 6, .inl T_heights)), (a 6, .inl (Y 0, 6, .inl T_wages)), (a 7, .inl (Y 0, 6, .inl T_nightsToHeal)), (a 8, .inr (4, [.int B_accounts, .ref (a 9), .ref (a 10), .int B_entries, .ref (a 11), .ref (a 12), .ref (a 13)])), (a 9, .inl (Y 0, 11, .inl B_balances)), (a 10, .inl (Y 0, 11, .inl B_balancesAtClosing)), (a 11, .inl (Y 0, 60, .inl B_debited)), (a 12, .inl (Y 0, 60, .inl B_credited)), (a 13, .inl (Y 0, 60, .inl B_amounts))] s.heap := hP
  have hS : va_S (fun _ : Nat => False) s.heap s.heap [] := va_S.rf
  have hl := lv_entry ([.ref (a 0), .int x1]) (n := 2) (Nat.le_of_ble_eq_true rfl)
  rw [lg_entry_eq]
  generalize (lg_sl ([.ref (a 0), .int x1]) ++ List.replicate (2 - (lg_sl ([.ref (a 0), .int x1])).length) Slot.unset).toArray = ls at hl ⊢
  have hl : lv_has ls 2 [(0, .ref (a 0)), (1, .int x1)] := hl
  rw [f_X10_safetyBits] at hf
  refine lv_aload_n hx hb dX10_safetyBits_0 rfl (lv_at hl 0 rfl) ?_
  refine lv_iload_n hx hb dX10_safetyBits_1 rfl (lv_at hl 1 rfl) ?_
  rcases wkx_s hf with ⟨r2, hr1, hf⟩ | ⟨E3, hr1, hf⟩
  · have hPc : va_P (dC, dI) vwCl (wX10n Y a L_hasSnapshot L_formError L_commandError T_count T_weights T_strengths T_heights T_wages T_nightsToHeal B_accounts B_balances B_balancesAtClosing B_entries B_debited B_credited B_amounts C_nights C_netWidth C_shows C_fallen) s.heap := hP
    refine wx_vvN (As := [.int x1]) (rest := []) ⟨hx, hb, hml, hown, hts⟩ (c_X10_requireSet l hl0 dC dI Y g a L_hasSnapshot L_formError L_commandError T_count T_weights T_strengths T_heights T_wages T_nightsToHeal B_accounts B_balances B_balancesAtClosing B_entries B_debited B_credited B_amounts C_nights C_netWidth C_shows C_fallen x1 (.inl r2) hr1) (cwV 1 hts gX10_safetyBits_X10_requireSet rfl rfl rfl (by decide +kernel) ⟨Nat.le_of_ble_eq_true rfl, Nat.le_of_ble_eq_true rfl⟩) hK hPc hT hS (va_recv hK hP (ci := 10) (q0 := 0) rfl rfl) rfl hl.1 rfl (Nat.le_of_ble_eq_true rfl) dX10_safetyBits_2 ⟨Nat.le_of_ble_eq_true rfl, Nat.le_of_ble_eq_true rfl⟩ ?_
    refine lv_iload_n hx hb dX10_safetyBits_5 rfl (lv_at hl 1 rfl) ?_
    rcases wkx_s hf with ⟨r5, hr4, hf⟩ | ⟨E6, hr4, hf⟩
    · have hPc := hP.sub (ws' := ([] : va_W)) [] rfl
      refine wx_svN (As := [.int x1]) (rest := []) ⟨hx, hb, hml, hown, hts⟩ (c_X10_requireSeveral l hl0 dC dI Y g   x1 (.inl r5) hr4) (va_cwS 1 hts gX10_safetyBits_X10_requireSeveral rfl rfl rfl (by decide +kernel) ⟨Nat.le_of_ble_eq_true rfl, Nat.le_of_ble_eq_true rfl⟩) hK hPc hT hS rfl hl.1 rfl (Nat.le_of_ble_eq_true rfl) dX10_safetyBits_6 ⟨Nat.le_of_ble_eq_true rfl, Nat.le_of_ble_eq_true rfl⟩ ?_
      refine lv_aload_n hx hb dX10_safetyBits_9 rfl (lv_at hl 0 rfl) ?_
      refine va_get (D := (dC, dI)) (ci := 10) (v := .ref (a 1)) (C := RX10) (T := TX10) (N := 9) hx hb hts in_X10_safetyBits_X10 hown hK hP 0 rfl rfl 0 (by decide) (hts _ lk_X10_safetyBits_RX10_12) (fun _ h9 => h9) rfl dX10_safetyBits_10 ?_
      refine va_get (D := (dC, dI)) (ci := 5) (v := .ref (a 2)) (C := RX3) (T := TX3) (N := 6) hx hb hts in_X10_safetyBits_X3 hown hK hP 1 rfl rfl 0 (by decide) (hts _ lk_X10_safetyBits_RX10_122) (fun _ h9 => h9) rfl dX10_safetyBits_13 ?_
      refine lv_iload_n hx hb dX10_safetyBits_16 rfl (lv_at hl 1 rfl) ?_
      obtain ⟨r7, hr8, hf⟩ := wkb1_s hf
      have hPc := hP.sub (ws' := (wX9 Y (fun k => a (k + 2)) T_count T_weights T_strengths T_heights T_wages T_nightsToHeal)) [2, 3, 4, 5, 6, 7] rfl
      refine wk_vf (As := [.int x1]) (rest := []) ⟨hx, hb, hml, hown, hts⟩ (c_X9_safetyOf l dC dI Y (fun k => a (k + 2)) T_count T_weights T_strengths T_heights T_wages T_nightsToHeal x1 r7 hr8) (cwV 1 hts gX10_safetyBits_X9_safetyOf rfl rfl rfl (by decide +kernel) ⟨Nat.le_of_ble_eq_true rfl, Nat.le_of_ble_eq_true rfl⟩) hK hPc (va_recv hK hP (ci := 9) (q0 := 2) rfl rfl) rfl hl.1 rfl (Nat.le_of_ble_eq_true rfl) dX10_safetyBits_17 ⟨Nat.le_of_ble_eq_true rfl, Nat.le_of_ble_eq_true rfl⟩ ?_
      obtain ⟨h9, hf⟩ := gok_s hf
      refine lv_f2d hx hb dX10_safetyBits_20 h9 ?_
      refine lv_bipush (v := 127) hx hb dX10_safetyBits_21 (by decide) ?_
      refine lv_bipush (v := 23) hx hb dX10_safetyBits_23 (by decide) ?_
      obtain ⟨r10, hr11, hf⟩ := wkb1_s hf
      have hPc := hP.sub (ws' := ([] : va_W)) [] rfl
      refine wk_sl (As := [.double (FP.f2d r7), .int 127, .int 23]) (rest := []) ⟨hx, hb, hml, hown, hts⟩ (c_X1_of l dC dI Y (FP.f2d r7) 127 23 r10 hr11) (va_cwS 3 hts gX10_safetyBits_X1_of rfl rfl rfl (by decide +kernel) ⟨Nat.le_of_ble_eq_true rfl, Nat.le_of_ble_eq_true rfl⟩) hK hPc rfl hl.1 rfl (Nat.le_of_ble_eq_true rfl) dX10_safetyBits_25 ⟨Nat.le_of_ble_eq_true rfl, Nat.le_of_ble_eq_true rfl⟩ ?_
      refine lv_l2i hx hb dX10_safetyBits_28 rfl ?_
      have e0 := wke1 hf
      subst e0
      refine W.widen (k := 2) (n := 12) (Nat.le_of_ble_eq_true rfl) (Nat.le_of_ble_eq_true rfl) ?_
      refine vx_ret ?_
      exact W.iret (v := (r10).toInt32) hx hb hr (fun t ht hW => ⟨(r10).toInt32, rfl, rfl, ht⟩) (fun q h => absurd h List.not_mem_nil) dX10_safetyBits_29
    · subst hf
      have hPc := hP.sub (ws' := ([] : va_W)) [] rfl
      refine wx_svX (As := [.int x1]) (rest := []) ⟨hx, hb, hml, hown, hts⟩ (c_X10_requireSeveral l hl0 dC dI Y g   x1 (.inr E6) hr4) (va_cwS 1 hts gX10_safetyBits_X10_requireSeveral rfl rfl rfl (by decide +kernel) ⟨Nat.le_of_ble_eq_true rfl, Nat.le_of_ble_eq_true rfl⟩) hK hPc hT hS rfl hl.1 rfl (Nat.le_of_ble_eq_true rfl) dX10_safetyBits_6 ⟨Nat.le_of_ble_eq_true rfl, Nat.le_of_ble_eq_true rfl⟩ (fun H1 ce q9 hz hq hce hcv hcl => ?_)
      exact vx_out (fun x h => (htab x h).elim) hlocks hce hcv hcl (fun t ht hvm => ⟨rfl, by rw [ht]; exact hz, fun q h => by rw [ht]; exact hq q h⟩) (fun q h => absurd h List.not_mem_nil) (Nat.le_of_ble_eq_true rfl) (Nat.le_of_ble_eq_true rfl)
  · subst hf
    have hPc : va_P (dC, dI) vwCl (wX10n Y a L_hasSnapshot L_formError L_commandError T_count T_weights T_strengths T_heights T_wages T_nightsToHeal B_accounts B_balances B_balancesAtClosing B_entries B_debited B_credited B_amounts C_nights C_netWidth C_shows C_fallen) s.heap := hP
    refine wx_vvX (As := [.int x1]) (rest := []) ⟨hx, hb, hml, hown, hts⟩ (c_X10_requireSet l hl0 dC dI Y g a L_hasSnapshot L_formError L_commandError T_count T_weights T_strengths T_heights T_wages T_nightsToHeal B_accounts B_balances B_balancesAtClosing B_entries B_debited B_credited B_amounts C_nights C_netWidth C_shows C_fallen x1 (.inr E3) hr1) (cwV 1 hts gX10_safetyBits_X10_requireSet rfl rfl rfl (by decide +kernel) ⟨Nat.le_of_ble_eq_true rfl, Nat.le_of_ble_eq_true rfl⟩) hK hPc hT hS (va_recv hK hP (ci := 10) (q0 := 0) rfl rfl) rfl hl.1 rfl (Nat.le_of_ble_eq_true rfl) dX10_safetyBits_2 ⟨Nat.le_of_ble_eq_true rfl, Nat.le_of_ble_eq_true rfl⟩ (fun H1 ce q9 hz hq hce hcv hcl => ?_)
    exact vx_out (fun x h => (htab x h).elim) hlocks hce hcv hcl (fun t ht hvm => ⟨rfl, by rw [ht]; exact hz, fun q h => by rw [ht]; exact hq q h⟩) (fun q h => absurd h List.not_mem_nil) (Nat.le_of_ble_eq_true rfl) (Nat.le_of_ble_eq_true rfl)
theorem lk_X10_balance_RX10_12 : Cond.fieldLink RX10 12 "CircusLedger" "now" "LCircusLedger$Circus;" ∈ wsX10_balance := by decide +kernel
theorem lk_X10_balance_RX10_74 : Cond.fieldLink RX10 74 "CircusLedger$Circus" "books" "LCircusLedger$Books;" ∈ wsX10_balance := by decide +kernel
theorem lk_X10_balance_RX10_183 : Cond.fieldLink RX10 183 "CircusLedger$Books" "balances" "[I" ∈ wsX10_balance := by decide +kernel
theorem in_X10_balance_X10 : ∀ w ∈ u_ws RX10 TX10 9, w ∈ wsX10_balance := by decide +kernel
theorem in_X10_balance_X2 : ∀ w ∈ u_ws RX2 TX2 7, w ∈ wsX10_balance := by decide +kernel
theorem in_X10_balance_X3 : ∀ w ∈ u_ws RX3 TX3 6, w ∈ wsX10_balance := by decide +kernel
def f_X10_balance (B_accounts : Int32) (B_balances : Nat → Int32) (x1 : Int32) : Option ((Int32) ⊕ String) :=
  wkx (f_X10_requireAccount B_accounts x1) (fun r2 =>
  gin x1 11 (some (.inl ((B_balances x1.toNatClampNeg)))))
set_option maxHeartbeats 4000000 in
set_option maxRecDepth 100000 in
theorem c_X10_balance (l : Launch) (hl0 : l.stackTraces = false) (dC : Nat → ClassId) (dI : Nat → Nat → Nat) (Y : Nat → ClassId) (g : Nat → Nat → Nat) (a : Nat → Nat) (L_hasSnapshot : Int32) (L_formError : Int32) (L_commandError : Int32) (T_count : Int32) (T_weights : Nat → Int32) (T_strengths : Nat → Int32) (T_heights : Nat → Int32) (T_wages : Nat → Int32) (T_nightsToHeal : Nat → Int32) (B_accounts : Int32) (B_balances : Nat → Int32) (B_balancesAtClosing : Nat → Int32) (B_entries : Int32) (B_debited : Nat → Int32) (B_credited : Nat → Int32) (B_amounts : Nat → Int32) (C_nights : Int32) (C_netWidth : Int32) (C_shows : Int32) (C_fallen : Int32) (x1 : Int32) (out : Int32 ⊕ String) (hf : f_X10_balance B_accounts B_balances x1 = some out) : vx_Met l yX10_balance wsX10_balance ({ frames := 9, cells := 1, slots := 6, locals := 141 } : Room) (va_Pc [.ref (a 0), .int x1] (wk_BT (dC, dI) Y g (wX10n Y a L_hasSnapshot L_formError L_commandError T_count T_weights T_strengths T_heights T_wages T_nightsToHeal B_accounts B_balances B_balancesAtClosing B_entries B_debited B_credited B_amounts C_nights C_netWidth C_shows C_fallen))) (wxQi out) (wxX out) 1 6 (fun _ => False) := by
  refine vx_ofW (cc := cX10_balance) (maxL := 2) (ret := (some .int)) (by decide) rfl ?_
  intro p e s m args below meth c s₁ B hml htab hv
  obtain ⟨rfl, ⟨hP, hK⟩, hT⟩ := hv
  have hx := B.exec
  have hb := B.bytes
  have hr := B.returns
  have hts := atoms_spec (ws := wsX10_balance) B.pre
  have hown : s.vm.findClass RX10 = some m.cls := findClass_of_methodNamed B.named
  have hlocks := B.notSynchronized
  have C0 : wk_C p s m _ meth c cX10_balance 2 (some .int) wsX10_balance RX10 := ⟨hx, hb, hml, hr, hlocks, hown, hts⟩
  have hP : va_P (dC, dI) vwCl [(a 0, .inr (10, [.ref (a 1), .ref (a 14), .ref (a 16), .int L_hasSnapshot, .ref (a 29), .ref (a 34), .int L_formError, .int L_commandError, .ref (a 38)])), (a 1, .inr (5, [.ref (a 2), .ref (a 8), .int C_nights, .int C_netWidth, .int C_shows, .int C_fallen])), (a 2, .inr (9, [.int T_count, .ref (a 3), .ref (a 4), .ref (a 5), .ref (a 6), .ref (a 7)])), (a 3, .inl (Y 0, 6, .inl T_weights)), (a 4, .inl (Y 0, 6, .inl T_strengths)), (a 5, .inl (Y 0, 6, .inl T_heights)), (a 6, .inl (Y 0, 6, .inl T_wages)), (a 7, .inl (Y 0, 6, .inl T_nightsToHeal)), (a 8, .inr (4, [.int B_accounts, .ref (a 9), .ref (a 10), .int B_entries, .ref (a 11), .ref (a 12), .ref (a 13)])), (a 9, .inl (Y 0, 11, .inl B_balances)), (a 10, .inl (Y 0, 11, .inl B_balancesAtClosing)), (a 11, .inl (Y 0, 60, .inl B_debited)), (a 12, .inl (Y 0, 60, .inl B_credited)), (a 13, .inl (Y 0, 60, .inl B_amounts))] s.heap := hP
  have hS : va_S (fun _ : Nat => False) s.heap s.heap [] := va_S.rf
  have hl := lv_entry ([.ref (a 0), .int x1]) (n := 2) (Nat.le_of_ble_eq_true rfl)
  rw [lg_entry_eq]
  generalize (lg_sl ([.ref (a 0), .int x1]) ++ List.replicate (2 - (lg_sl ([.ref (a 0), .int x1])).length) Slot.unset).toArray = ls at hl ⊢
  have hl : lv_has ls 2 [(0, .ref (a 0)), (1, .int x1)] := hl
  rw [f_X10_balance] at hf
  refine lv_aload_n hx hb dX10_balance_0 rfl (lv_at hl 0 rfl) ?_
  refine lv_iload_n hx hb dX10_balance_1 rfl (lv_at hl 1 rfl) ?_
  rcases wkx_s hf with ⟨r2, hr1, hf⟩ | ⟨E3, hr1, hf⟩
  · have hPc : va_P (dC, dI) vwCl (wX10n Y a L_hasSnapshot L_formError L_commandError T_count T_weights T_strengths T_heights T_wages T_nightsToHeal B_accounts B_balances B_balancesAtClosing B_entries B_debited B_credited B_amounts C_nights C_netWidth C_shows C_fallen) s.heap := hP
    refine wx_vvN (As := [.int x1]) (rest := []) ⟨hx, hb, hml, hown, hts⟩ (c_X10_requireAccount l hl0 dC dI Y g a L_hasSnapshot L_formError L_commandError T_count T_weights T_strengths T_heights T_wages T_nightsToHeal B_accounts B_balances B_balancesAtClosing B_entries B_debited B_credited B_amounts C_nights C_netWidth C_shows C_fallen x1 (.inl r2) hr1) (cwV 1 hts gX10_balance_X10_requireAccount rfl rfl rfl (by decide +kernel) ⟨Nat.le_of_ble_eq_true rfl, Nat.le_of_ble_eq_true rfl⟩) hK hPc hT hS (va_recv hK hP (ci := 10) (q0 := 0) rfl rfl) rfl hl.1 rfl (Nat.le_of_ble_eq_true rfl) dX10_balance_2 ⟨Nat.le_of_ble_eq_true rfl, Nat.le_of_ble_eq_true rfl⟩ ?_
    refine lv_aload_n hx hb dX10_balance_5 rfl (lv_at hl 0 rfl) ?_
    refine va_get (D := (dC, dI)) (ci := 10) (v := .ref (a 1)) (C := RX10) (T := TX10) (N := 9) hx hb hts in_X10_balance_X10 hown hK hP 0 rfl rfl 0 (by decide) (hts _ lk_X10_balance_RX10_12) (fun _ h9 => h9) rfl dX10_balance_6 ?_
    refine va_get (D := (dC, dI)) (ci := 5) (v := .ref (a 8)) (C := RX3) (T := TX3) (N := 6) hx hb hts in_X10_balance_X3 hown hK hP 1 rfl rfl 1 (by decide) (hts _ lk_X10_balance_RX10_74) (fun _ h9 => h9) rfl dX10_balance_9 ?_
    refine va_get (D := (dC, dI)) (ci := 4) (v := .ref (a 9)) (C := RX2) (T := TX2) (N := 7) hx hb hts in_X10_balance_X2 hown hK hP 8 rfl rfl 1 (by decide) (hts _ lk_X10_balance_RX10_183) (fun _ h9 => h9) rfl dX10_balance_12 ?_
    refine lv_iload_n hx hb dX10_balance_15 rfl (lv_at hl 1 rfl) ?_
    obtain ⟨h4, hf⟩ := gin_s hf
    refine wk_iald hx hb hK hP 9 0 rfl rfl h4 rfl dX10_balance_16 ?_
    have e0 := wke1 hf
    subst e0
    refine W.widen (k := 1) (n := 6) (Nat.le_of_ble_eq_true rfl) (Nat.le_of_ble_eq_true rfl) ?_
    refine vx_ret ?_
    exact W.iret (v := (B_balances x1.toNatClampNeg)) hx hb hr (fun t ht hW => ⟨(B_balances x1.toNatClampNeg), rfl, rfl, ht⟩) (fun q h => absurd h List.not_mem_nil) dX10_balance_17
  · subst hf
    have hPc : va_P (dC, dI) vwCl (wX10n Y a L_hasSnapshot L_formError L_commandError T_count T_weights T_strengths T_heights T_wages T_nightsToHeal B_accounts B_balances B_balancesAtClosing B_entries B_debited B_credited B_amounts C_nights C_netWidth C_shows C_fallen) s.heap := hP
    refine wx_vvX (As := [.int x1]) (rest := []) ⟨hx, hb, hml, hown, hts⟩ (c_X10_requireAccount l hl0 dC dI Y g a L_hasSnapshot L_formError L_commandError T_count T_weights T_strengths T_heights T_wages T_nightsToHeal B_accounts B_balances B_balancesAtClosing B_entries B_debited B_credited B_amounts C_nights C_netWidth C_shows C_fallen x1 (.inr E3) hr1) (cwV 1 hts gX10_balance_X10_requireAccount rfl rfl rfl (by decide +kernel) ⟨Nat.le_of_ble_eq_true rfl, Nat.le_of_ble_eq_true rfl⟩) hK hPc hT hS (va_recv hK hP (ci := 10) (q0 := 0) rfl rfl) rfl hl.1 rfl (Nat.le_of_ble_eq_true rfl) dX10_balance_2 ⟨Nat.le_of_ble_eq_true rfl, Nat.le_of_ble_eq_true rfl⟩ (fun H1 ce q9 hz hq hce hcv hcl => ?_)
    exact vx_out (fun x h => (htab x h).elim) hlocks hce hcv hcl (fun t ht hvm => ⟨rfl, by rw [ht]; exact hz, fun q h => by rw [ht]; exact hq q h⟩) (fun q h => absurd h List.not_mem_nil) (Nat.le_of_ble_eq_true rfl) (Nat.le_of_ble_eq_true rfl)
theorem lk_X10_balanceByJournal_RX10_12 : Cond.fieldLink RX10 12 "CircusLedger" "now" "LCircusLedger$Circus;" ∈ wsX10_balanceByJournal := by decide +kernel
theorem lk_X10_balanceByJournal_RX10_74 : Cond.fieldLink RX10 74 "CircusLedger$Circus" "books" "LCircusLedger$Books;" ∈ wsX10_balanceByJournal := by decide +kernel
theorem in_X10_balanceByJournal_X10 : ∀ w ∈ u_ws RX10 TX10 9, w ∈ wsX10_balanceByJournal := by decide +kernel
theorem in_X10_balanceByJournal_X3 : ∀ w ∈ u_ws RX3 TX3 6, w ∈ wsX10_balanceByJournal := by decide +kernel
def f_X10_balanceByJournal (B_accounts : Int32) (B_balancesAtClosing : Nat → Int32) (B_entries : Int32) (B_debited : Nat → Int32) (B_credited : Nat → Int32) (B_amounts : Nat → Int32) (x1 : Int32) : Option ((Int32) ⊕ String) :=
  wkx (f_X10_requireAccount B_accounts x1) (fun r2 =>
  wkb1 (f_X2_balanceFromJournal B_balancesAtClosing B_entries B_debited B_credited B_amounts x1) (fun r4 =>
  some (.inl (r4))))
set_option maxHeartbeats 4000000 in
set_option maxRecDepth 100000 in
theorem c_X10_balanceByJournal (l : Launch) (hl0 : l.stackTraces = false) (dC : Nat → ClassId) (dI : Nat → Nat → Nat) (Y : Nat → ClassId) (g : Nat → Nat → Nat) (a : Nat → Nat) (L_hasSnapshot : Int32) (L_formError : Int32) (L_commandError : Int32) (T_count : Int32) (T_weights : Nat → Int32) (T_strengths : Nat → Int32) (T_heights : Nat → Int32) (T_wages : Nat → Int32) (T_nightsToHeal : Nat → Int32) (B_accounts : Int32) (B_balances : Nat → Int32) (B_balancesAtClosing : Nat → Int32) (B_entries : Int32) (B_debited : Nat → Int32) (B_credited : Nat → Int32) (B_amounts : Nat → Int32) (C_nights : Int32) (C_netWidth : Int32) (C_shows : Int32) (C_fallen : Int32) (x1 : Int32) (out : Int32 ⊕ String) (hf : f_X10_balanceByJournal B_accounts B_balancesAtClosing B_entries B_debited B_credited B_amounts x1 = some out) : vx_Met l yX10_balanceByJournal wsX10_balanceByJournal ({ frames := 9, cells := 1, slots := 6, locals := 141 } : Room) (va_Pc [.ref (a 0), .int x1] (wk_BT (dC, dI) Y g (wX10n Y a L_hasSnapshot L_formError L_commandError T_count T_weights T_strengths T_heights T_wages T_nightsToHeal B_accounts B_balances B_balancesAtClosing B_entries B_debited B_credited B_amounts C_nights C_netWidth C_shows C_fallen))) (wxQi out) (wxX out) 1 6 (fun _ => False) := by
  refine vx_ofW (cc := cX10_balanceByJournal) (maxL := 2) (ret := (some .int)) (by decide) rfl ?_
  intro p e s m args below meth c s₁ B hml htab hv
  obtain ⟨rfl, ⟨hP, hK⟩, hT⟩ := hv
  have hx := B.exec
  have hb := B.bytes
  have hr := B.returns
  have hts := atoms_spec (ws := wsX10_balanceByJournal) B.pre
  have hown : s.vm.findClass RX10 = some m.cls := findClass_of_methodNamed B.named
  have hlocks := B.notSynchronized
  have C0 : wk_C p s m _ meth c cX10_balanceByJournal 2 (some .int) wsX10_balanceByJournal RX10 := ⟨hx, hb, hml, hr, hlocks, hown, hts⟩
  have hP : va_P (dC, dI) vwCl [(a 0, .inr (10, [.ref (a 1), .ref (a 14), .ref (a 16), .int L_hasSnapshot, .ref (a 29), .ref (a 34), .int L_formError, .int L_commandError, .ref (a 38)])), (a 1, .inr (5, [.ref (a 2), .ref (a 8), .int C_nights, .int C_netWidth, .int C_shows, .int C_fallen])), (a 2, .inr (9, [.int T_count, .ref (a 3), .ref (a 4), .ref (a 5), .ref (a 6), .ref (a 7)])), (a 3, .inl (Y 0, 6, .inl T_weights)), (a 4, .inl (Y 0, 6, .inl T_strengths)), (a 5, .inl (Y 0, 6, .inl T_heights)), (a 6, .inl (Y 0, 6, .inl T_wages)), (a 7, .inl (Y 0, 6, .inl T_nightsToHeal)), (a 8, .inr (4, [.int B_accounts, .ref (a 9), .ref (a 10), .int B_entries, .ref (a 11), .ref (a 12), .ref (a 13)])), (a 9, .inl (Y 0, 11, .inl B_balances)), (a 10, .inl (Y 0, 11, .inl B_balancesAtClosing)), (a 11, .inl (Y 0, 60, .inl B_debited)), (a 12, .inl (Y 0, 60, .inl B_credited)), (a 13, .inl (Y 0, 60, .inl B_amounts))] s.heap := hP
  have hS : va_S (fun _ : Nat => False) s.heap s.heap [] := va_S.rf
  have hl := lv_entry ([.ref (a 0), .int x1]) (n := 2) (Nat.le_of_ble_eq_true rfl)
  rw [lg_entry_eq]
  generalize (lg_sl ([.ref (a 0), .int x1]) ++ List.replicate (2 - (lg_sl ([.ref (a 0), .int x1])).length) Slot.unset).toArray = ls at hl ⊢
  have hl : lv_has ls 2 [(0, .ref (a 0)), (1, .int x1)] := hl
  rw [f_X10_balanceByJournal] at hf
  refine lv_aload_n hx hb dX10_balanceByJournal_0 rfl (lv_at hl 0 rfl) ?_
  refine lv_iload_n hx hb dX10_balanceByJournal_1 rfl (lv_at hl 1 rfl) ?_
  rcases wkx_s hf with ⟨r2, hr1, hf⟩ | ⟨E3, hr1, hf⟩
  · have hPc : va_P (dC, dI) vwCl (wX10n Y a L_hasSnapshot L_formError L_commandError T_count T_weights T_strengths T_heights T_wages T_nightsToHeal B_accounts B_balances B_balancesAtClosing B_entries B_debited B_credited B_amounts C_nights C_netWidth C_shows C_fallen) s.heap := hP
    refine wx_vvN (As := [.int x1]) (rest := []) ⟨hx, hb, hml, hown, hts⟩ (c_X10_requireAccount l hl0 dC dI Y g a L_hasSnapshot L_formError L_commandError T_count T_weights T_strengths T_heights T_wages T_nightsToHeal B_accounts B_balances B_balancesAtClosing B_entries B_debited B_credited B_amounts C_nights C_netWidth C_shows C_fallen x1 (.inl r2) hr1) (cwV 1 hts gX10_balanceByJournal_X10_requireAccount rfl rfl rfl (by decide +kernel) ⟨Nat.le_of_ble_eq_true rfl, Nat.le_of_ble_eq_true rfl⟩) hK hPc hT hS (va_recv hK hP (ci := 10) (q0 := 0) rfl rfl) rfl hl.1 rfl (Nat.le_of_ble_eq_true rfl) dX10_balanceByJournal_2 ⟨Nat.le_of_ble_eq_true rfl, Nat.le_of_ble_eq_true rfl⟩ ?_
    refine lv_aload_n hx hb dX10_balanceByJournal_5 rfl (lv_at hl 0 rfl) ?_
    refine va_get (D := (dC, dI)) (ci := 10) (v := .ref (a 1)) (C := RX10) (T := TX10) (N := 9) hx hb hts in_X10_balanceByJournal_X10 hown hK hP 0 rfl rfl 0 (by decide) (hts _ lk_X10_balanceByJournal_RX10_12) (fun _ h9 => h9) rfl dX10_balanceByJournal_6 ?_
    refine va_get (D := (dC, dI)) (ci := 5) (v := .ref (a 8)) (C := RX3) (T := TX3) (N := 6) hx hb hts in_X10_balanceByJournal_X3 hown hK hP 1 rfl rfl 1 (by decide) (hts _ lk_X10_balanceByJournal_RX10_74) (fun _ h9 => h9) rfl dX10_balanceByJournal_9 ?_
    refine lv_iload_n hx hb dX10_balanceByJournal_12 rfl (lv_at hl 1 rfl) ?_
    obtain ⟨r4, hr5, hf⟩ := wkb1_s hf
    have hPc := hP.sub (ws' := (wX2 Y (fun k => a (k + 8)) B_accounts B_balances B_balancesAtClosing B_entries B_debited B_credited B_amounts)) [8, 9, 10, 11, 12, 13] rfl
    refine wk_vi (As := [.int x1]) (rest := []) ⟨hx, hb, hml, hown, hts⟩ (c_X2_balanceFromJournal l dC dI Y (fun k => a (k + 8)) B_accounts B_balances B_balancesAtClosing B_entries B_debited B_credited B_amounts x1 r4 hr5) (cwV 1 hts gX10_balanceByJournal_X2_balanceFromJournal rfl rfl rfl (by decide +kernel) ⟨Nat.le_of_ble_eq_true rfl, Nat.le_of_ble_eq_true rfl⟩) hK hPc (va_recv hK hP (ci := 4) (q0 := 8) rfl rfl) rfl hl.1 rfl (Nat.le_of_ble_eq_true rfl) dX10_balanceByJournal_13 ⟨Nat.le_of_ble_eq_true rfl, Nat.le_of_ble_eq_true rfl⟩ ?_
    have e0 := wke1 hf
    subst e0
    refine W.widen (k := 1) (n := 6) (Nat.le_of_ble_eq_true rfl) (Nat.le_of_ble_eq_true rfl) ?_
    refine vx_ret ?_
    exact W.iret (v := r4) hx hb hr (fun t ht hW => ⟨r4, rfl, rfl, ht⟩) (fun q h => absurd h List.not_mem_nil) dX10_balanceByJournal_16
  · subst hf
    have hPc : va_P (dC, dI) vwCl (wX10n Y a L_hasSnapshot L_formError L_commandError T_count T_weights T_strengths T_heights T_wages T_nightsToHeal B_accounts B_balances B_balancesAtClosing B_entries B_debited B_credited B_amounts C_nights C_netWidth C_shows C_fallen) s.heap := hP
    refine wx_vvX (As := [.int x1]) (rest := []) ⟨hx, hb, hml, hown, hts⟩ (c_X10_requireAccount l hl0 dC dI Y g a L_hasSnapshot L_formError L_commandError T_count T_weights T_strengths T_heights T_wages T_nightsToHeal B_accounts B_balances B_balancesAtClosing B_entries B_debited B_credited B_amounts C_nights C_netWidth C_shows C_fallen x1 (.inr E3) hr1) (cwV 1 hts gX10_balanceByJournal_X10_requireAccount rfl rfl rfl (by decide +kernel) ⟨Nat.le_of_ble_eq_true rfl, Nat.le_of_ble_eq_true rfl⟩) hK hPc hT hS (va_recv hK hP (ci := 10) (q0 := 0) rfl rfl) rfl hl.1 rfl (Nat.le_of_ble_eq_true rfl) dX10_balanceByJournal_2 ⟨Nat.le_of_ble_eq_true rfl, Nat.le_of_ble_eq_true rfl⟩ (fun H1 ce q9 hz hq hce hcv hcl => ?_)
    exact vx_out (fun x h => (htab x h).elim) hlocks hce hcv hcl (fun t ht hvm => ⟨rfl, by rw [ht]; exact hz, fun q h => by rw [ht]; exact hq q h⟩) (fun q h => absurd h List.not_mem_nil) (Nat.le_of_ble_eq_true rfl) (Nat.le_of_ble_eq_true rfl)
theorem lk_X10_debits_RX10_12 : Cond.fieldLink RX10 12 "CircusLedger" "now" "LCircusLedger$Circus;" ∈ wsX10_debits := by decide +kernel
theorem lk_X10_debits_RX10_74 : Cond.fieldLink RX10 74 "CircusLedger$Circus" "books" "LCircusLedger$Books;" ∈ wsX10_debits := by decide +kernel
theorem in_X10_debits_X10 : ∀ w ∈ u_ws RX10 TX10 9, w ∈ wsX10_debits := by decide +kernel
theorem in_X10_debits_X3 : ∀ w ∈ u_ws RX3 TX3 6, w ∈ wsX10_debits := by decide +kernel
def f_X10_debits (B_accounts : Int32) (B_entries : Int32) (B_debited : Nat → Int32) (B_amounts : Nat → Int32) (x1 : Int32) : Option ((Int32) ⊕ String) :=
  wkx (f_X10_requireAccount B_accounts x1) (fun r2 =>
  wkb1 (f_X2_debitSum B_entries B_debited B_amounts x1) (fun r4 =>
  some (.inl (r4))))
set_option maxHeartbeats 4000000 in
set_option maxRecDepth 100000 in
theorem c_X10_debits (l : Launch) (hl0 : l.stackTraces = false) (dC : Nat → ClassId) (dI : Nat → Nat → Nat) (Y : Nat → ClassId) (g : Nat → Nat → Nat) (a : Nat → Nat) (L_hasSnapshot : Int32) (L_formError : Int32) (L_commandError : Int32) (T_count : Int32) (T_weights : Nat → Int32) (T_strengths : Nat → Int32) (T_heights : Nat → Int32) (T_wages : Nat → Int32) (T_nightsToHeal : Nat → Int32) (B_accounts : Int32) (B_balances : Nat → Int32) (B_balancesAtClosing : Nat → Int32) (B_entries : Int32) (B_debited : Nat → Int32) (B_credited : Nat → Int32) (B_amounts : Nat → Int32) (C_nights : Int32) (C_netWidth : Int32) (C_shows : Int32) (C_fallen : Int32) (x1 : Int32) (out : Int32 ⊕ String) (hf : f_X10_debits B_accounts B_entries B_debited B_amounts x1 = some out) : vx_Met l yX10_debits wsX10_debits ({ frames := 9, cells := 1, slots := 6, locals := 141 } : Room) (va_Pc [.ref (a 0), .int x1] (wk_BT (dC, dI) Y g (wX10n Y a L_hasSnapshot L_formError L_commandError T_count T_weights T_strengths T_heights T_wages T_nightsToHeal B_accounts B_balances B_balancesAtClosing B_entries B_debited B_credited B_amounts C_nights C_netWidth C_shows C_fallen))) (wxQi out) (wxX out) 1 6 (fun _ => False) := by
  refine vx_ofW (cc := cX10_debits) (maxL := 2) (ret := (some .int)) (by decide) rfl ?_
  intro p e s m args below meth c s₁ B hml htab hv
  obtain ⟨rfl, ⟨hP, hK⟩, hT⟩ := hv
  have hx := B.exec
  have hb := B.bytes
  have hr := B.returns
  have hts := atoms_spec (ws := wsX10_debits) B.pre
  have hown : s.vm.findClass RX10 = some m.cls := findClass_of_methodNamed B.named
  have hlocks := B.notSynchronized
  have C0 : wk_C p s m _ meth c cX10_debits 2 (some .int) wsX10_debits RX10 := ⟨hx, hb, hml, hr, hlocks, hown, hts⟩
  have hP : va_P (dC, dI) vwCl [(a 0, .inr (10, [.ref (a 1), .ref (a 14), .ref (a 16), .int L_hasSnapshot, .ref (a 29), .ref (a 34), .int L_formError, .int L_commandError, .ref (a 38)])), (a 1, .inr (5, [.ref (a 2), .ref (a 8), .int C_nights, .int C_netWidth, .int C_shows, .int C_fallen])), (a 2, .inr (9, [.int T_count, .ref (a 3), .ref (a 4), .ref (a 5), .ref (a 6), .ref (a 7)])), (a 3, .inl (Y 0, 6, .inl T_weights)), (a 4, .inl (Y 0, 6, .inl T_strengths)), (a 5, .inl (Y 0, 6, .inl T_heights)), (a 6, .inl (Y 0, 6, .inl T_wages)), (a 7, .inl (Y 0, 6, .inl T_nightsToHeal)), (a 8, .inr (4, [.int B_accounts, .ref (a 9), .ref (a 10), .int B_entries, .ref (a 11), .ref (a 12), .ref (a 13)])), (a 9, .inl (Y 0, 11, .inl B_balances)), (a 10, .inl (Y 0, 11, .inl B_balancesAtClosing)), (a 11, .inl (Y 0, 60, .inl B_debited)), (a 12, .inl (Y 0, 60, .inl B_credited)), (a 13, .inl (Y 0, 60, .inl B_amounts))] s.heap := hP
  have hS : va_S (fun _ : Nat => False) s.heap s.heap [] := va_S.rf
  have hl := lv_entry ([.ref (a 0), .int x1]) (n := 2) (Nat.le_of_ble_eq_true rfl)
  rw [lg_entry_eq]
  generalize (lg_sl ([.ref (a 0), .int x1]) ++ List.replicate (2 - (lg_sl ([.ref (a 0), .int x1])).length) Slot.unset).toArray = ls at hl ⊢
  have hl : lv_has ls 2 [(0, .ref (a 0)), (1, .int x1)] := hl
  rw [f_X10_debits] at hf
  refine lv_aload_n hx hb dX10_debits_0 rfl (lv_at hl 0 rfl) ?_
  refine lv_iload_n hx hb dX10_debits_1 rfl (lv_at hl 1 rfl) ?_
  rcases wkx_s hf with ⟨r2, hr1, hf⟩ | ⟨E3, hr1, hf⟩
  · have hPc : va_P (dC, dI) vwCl (wX10n Y a L_hasSnapshot L_formError L_commandError T_count T_weights T_strengths T_heights T_wages T_nightsToHeal B_accounts B_balances B_balancesAtClosing B_entries B_debited B_credited B_amounts C_nights C_netWidth C_shows C_fallen) s.heap := hP
    refine wx_vvN (As := [.int x1]) (rest := []) ⟨hx, hb, hml, hown, hts⟩ (c_X10_requireAccount l hl0 dC dI Y g a L_hasSnapshot L_formError L_commandError T_count T_weights T_strengths T_heights T_wages T_nightsToHeal B_accounts B_balances B_balancesAtClosing B_entries B_debited B_credited B_amounts C_nights C_netWidth C_shows C_fallen x1 (.inl r2) hr1) (cwV 1 hts gX10_debits_X10_requireAccount rfl rfl rfl (by decide +kernel) ⟨Nat.le_of_ble_eq_true rfl, Nat.le_of_ble_eq_true rfl⟩) hK hPc hT hS (va_recv hK hP (ci := 10) (q0 := 0) rfl rfl) rfl hl.1 rfl (Nat.le_of_ble_eq_true rfl) dX10_debits_2 ⟨Nat.le_of_ble_eq_true rfl, Nat.le_of_ble_eq_true rfl⟩ ?_
    refine lv_aload_n hx hb dX10_debits_5 rfl (lv_at hl 0 rfl) ?_
    refine va_get (D := (dC, dI)) (ci := 10) (v := .ref (a 1)) (C := RX10) (T := TX10) (N := 9) hx hb hts in_X10_debits_X10 hown hK hP 0 rfl rfl 0 (by decide) (hts _ lk_X10_debits_RX10_12) (fun _ h9 => h9) rfl dX10_debits_6 ?_
    refine va_get (D := (dC, dI)) (ci := 5) (v := .ref (a 8)) (C := RX3) (T := TX3) (N := 6) hx hb hts in_X10_debits_X3 hown hK hP 1 rfl rfl 1 (by decide) (hts _ lk_X10_debits_RX10_74) (fun _ h9 => h9) rfl dX10_debits_9 ?_
    refine lv_iload_n hx hb dX10_debits_12 rfl (lv_at hl 1 rfl) ?_
    obtain ⟨r4, hr5, hf⟩ := wkb1_s hf
    have hPc := hP.sub (ws' := (wX2 Y (fun k => a (k + 8)) B_accounts B_balances B_balancesAtClosing B_entries B_debited B_credited B_amounts)) [8, 9, 10, 11, 12, 13] rfl
    refine wk_vi (As := [.int x1]) (rest := []) ⟨hx, hb, hml, hown, hts⟩ (c_X2_debitSum l dC dI Y (fun k => a (k + 8)) B_accounts B_balances B_balancesAtClosing B_entries B_debited B_credited B_amounts x1 r4 hr5) (cwV 1 hts gX10_debits_X2_debitSum rfl rfl rfl (by decide +kernel) ⟨Nat.le_of_ble_eq_true rfl, Nat.le_of_ble_eq_true rfl⟩) hK hPc (va_recv hK hP (ci := 4) (q0 := 8) rfl rfl) rfl hl.1 rfl (Nat.le_of_ble_eq_true rfl) dX10_debits_13 ⟨Nat.le_of_ble_eq_true rfl, Nat.le_of_ble_eq_true rfl⟩ ?_
    have e0 := wke1 hf
    subst e0
    refine W.widen (k := 1) (n := 6) (Nat.le_of_ble_eq_true rfl) (Nat.le_of_ble_eq_true rfl) ?_
    refine vx_ret ?_
    exact W.iret (v := r4) hx hb hr (fun t ht hW => ⟨r4, rfl, rfl, ht⟩) (fun q h => absurd h List.not_mem_nil) dX10_debits_16
  · subst hf
    have hPc : va_P (dC, dI) vwCl (wX10n Y a L_hasSnapshot L_formError L_commandError T_count T_weights T_strengths T_heights T_wages T_nightsToHeal B_accounts B_balances B_balancesAtClosing B_entries B_debited B_credited B_amounts C_nights C_netWidth C_shows C_fallen) s.heap := hP
    refine wx_vvX (As := [.int x1]) (rest := []) ⟨hx, hb, hml, hown, hts⟩ (c_X10_requireAccount l hl0 dC dI Y g a L_hasSnapshot L_formError L_commandError T_count T_weights T_strengths T_heights T_wages T_nightsToHeal B_accounts B_balances B_balancesAtClosing B_entries B_debited B_credited B_amounts C_nights C_netWidth C_shows C_fallen x1 (.inr E3) hr1) (cwV 1 hts gX10_debits_X10_requireAccount rfl rfl rfl (by decide +kernel) ⟨Nat.le_of_ble_eq_true rfl, Nat.le_of_ble_eq_true rfl⟩) hK hPc hT hS (va_recv hK hP (ci := 10) (q0 := 0) rfl rfl) rfl hl.1 rfl (Nat.le_of_ble_eq_true rfl) dX10_debits_2 ⟨Nat.le_of_ble_eq_true rfl, Nat.le_of_ble_eq_true rfl⟩ (fun H1 ce q9 hz hq hce hcv hcl => ?_)
    exact vx_out (fun x h => (htab x h).elim) hlocks hce hcv hcl (fun t ht hvm => ⟨rfl, by rw [ht]; exact hz, fun q h => by rw [ht]; exact hq q h⟩) (fun q h => absurd h List.not_mem_nil) (Nat.le_of_ble_eq_true rfl) (Nat.le_of_ble_eq_true rfl)
theorem lk_X10_credits_RX10_12 : Cond.fieldLink RX10 12 "CircusLedger" "now" "LCircusLedger$Circus;" ∈ wsX10_credits := by decide +kernel
theorem lk_X10_credits_RX10_74 : Cond.fieldLink RX10 74 "CircusLedger$Circus" "books" "LCircusLedger$Books;" ∈ wsX10_credits := by decide +kernel
theorem in_X10_credits_X10 : ∀ w ∈ u_ws RX10 TX10 9, w ∈ wsX10_credits := by decide +kernel
theorem in_X10_credits_X3 : ∀ w ∈ u_ws RX3 TX3 6, w ∈ wsX10_credits := by decide +kernel
def f_X10_credits (B_accounts : Int32) (B_entries : Int32) (B_credited : Nat → Int32) (B_amounts : Nat → Int32) (x1 : Int32) : Option ((Int32) ⊕ String) :=
  wkx (f_X10_requireAccount B_accounts x1) (fun r2 =>
  wkb1 (f_X2_creditSum B_entries B_credited B_amounts x1) (fun r4 =>
  some (.inl (r4))))
set_option maxHeartbeats 4000000 in
set_option maxRecDepth 100000 in
theorem c_X10_credits (l : Launch) (hl0 : l.stackTraces = false) (dC : Nat → ClassId) (dI : Nat → Nat → Nat) (Y : Nat → ClassId) (g : Nat → Nat → Nat) (a : Nat → Nat) (L_hasSnapshot : Int32) (L_formError : Int32) (L_commandError : Int32) (T_count : Int32) (T_weights : Nat → Int32) (T_strengths : Nat → Int32) (T_heights : Nat → Int32) (T_wages : Nat → Int32) (T_nightsToHeal : Nat → Int32) (B_accounts : Int32) (B_balances : Nat → Int32) (B_balancesAtClosing : Nat → Int32) (B_entries : Int32) (B_debited : Nat → Int32) (B_credited : Nat → Int32) (B_amounts : Nat → Int32) (C_nights : Int32) (C_netWidth : Int32) (C_shows : Int32) (C_fallen : Int32) (x1 : Int32) (out : Int32 ⊕ String) (hf : f_X10_credits B_accounts B_entries B_credited B_amounts x1 = some out) : vx_Met l yX10_credits wsX10_credits ({ frames := 9, cells := 1, slots := 6, locals := 141 } : Room) (va_Pc [.ref (a 0), .int x1] (wk_BT (dC, dI) Y g (wX10n Y a L_hasSnapshot L_formError L_commandError T_count T_weights T_strengths T_heights T_wages T_nightsToHeal B_accounts B_balances B_balancesAtClosing B_entries B_debited B_credited B_amounts C_nights C_netWidth C_shows C_fallen))) (wxQi out) (wxX out) 1 6 (fun _ => False) := by
  refine vx_ofW (cc := cX10_credits) (maxL := 2) (ret := (some .int)) (by decide) rfl ?_
  intro p e s m args below meth c s₁ B hml htab hv
  obtain ⟨rfl, ⟨hP, hK⟩, hT⟩ := hv
  have hx := B.exec
  have hb := B.bytes
  have hr := B.returns
  have hts := atoms_spec (ws := wsX10_credits) B.pre
  have hown : s.vm.findClass RX10 = some m.cls := findClass_of_methodNamed B.named
  have hlocks := B.notSynchronized
  have C0 : wk_C p s m _ meth c cX10_credits 2 (some .int) wsX10_credits RX10 := ⟨hx, hb, hml, hr, hlocks, hown, hts⟩
  have hP : va_P (dC, dI) vwCl [(a 0, .inr (10, [.ref (a 1), .ref (a 14), .ref (a 16), .int L_hasSnapshot, .ref (a 29), .ref (a 34), .int L_formError, .int L_commandError, .ref (a 38)])), (a 1, .inr (5, [.ref (a 2), .ref (a 8), .int C_nights, .int C_netWidth, .int C_shows, .int C_fallen])), (a 2, .inr (9, [.int T_count, .ref (a 3), .ref (a 4), .ref (a 5), .ref (a 6), .ref (a 7)])), (a 3, .inl (Y 0, 6, .inl T_weights)), (a 4, .inl (Y 0, 6, .inl T_strengths)), (a 5, .inl (Y 0, 6, .inl T_heights)), (a 6, .inl (Y 0, 6, .inl T_wages)), (a 7, .inl (Y 0, 6, .inl T_nightsToHeal)), (a 8, .inr (4, [.int B_accounts, .ref (a 9), .ref (a 10), .int B_entries, .ref (a 11), .ref (a 12), .ref (a 13)])), (a 9, .inl (Y 0, 11, .inl B_balances)), (a 10, .inl (Y 0, 11, .inl B_balancesAtClosing)), (a 11, .inl (Y 0, 60, .inl B_debited)), (a 12, .inl (Y 0, 60, .inl B_credited)), (a 13, .inl (Y 0, 60, .inl B_amounts))] s.heap := hP
  have hS : va_S (fun _ : Nat => False) s.heap s.heap [] := va_S.rf
  have hl := lv_entry ([.ref (a 0), .int x1]) (n := 2) (Nat.le_of_ble_eq_true rfl)
  rw [lg_entry_eq]
  generalize (lg_sl ([.ref (a 0), .int x1]) ++ List.replicate (2 - (lg_sl ([.ref (a 0), .int x1])).length) Slot.unset).toArray = ls at hl ⊢
  have hl : lv_has ls 2 [(0, .ref (a 0)), (1, .int x1)] := hl
  rw [f_X10_credits] at hf
  refine lv_aload_n hx hb dX10_credits_0 rfl (lv_at hl 0 rfl) ?_
  refine lv_iload_n hx hb dX10_credits_1 rfl (lv_at hl 1 rfl) ?_
  rcases wkx_s hf with ⟨r2, hr1, hf⟩ | ⟨E3, hr1, hf⟩
  · have hPc : va_P (dC, dI) vwCl (wX10n Y a L_hasSnapshot L_formError L_commandError T_count T_weights T_strengths T_heights T_wages T_nightsToHeal B_accounts B_balances B_balancesAtClosing B_entries B_debited B_credited B_amounts C_nights C_netWidth C_shows C_fallen) s.heap := hP
    refine wx_vvN (As := [.int x1]) (rest := []) ⟨hx, hb, hml, hown, hts⟩ (c_X10_requireAccount l hl0 dC dI Y g a L_hasSnapshot L_formError L_commandError T_count T_weights T_strengths T_heights T_wages T_nightsToHeal B_accounts B_balances B_balancesAtClosing B_entries B_debited B_credited B_amounts C_nights C_netWidth C_shows C_fallen x1 (.inl r2) hr1) (cwV 1 hts gX10_credits_X10_requireAccount rfl rfl rfl (by decide +kernel) ⟨Nat.le_of_ble_eq_true rfl, Nat.le_of_ble_eq_true rfl⟩) hK hPc hT hS (va_recv hK hP (ci := 10) (q0 := 0) rfl rfl) rfl hl.1 rfl (Nat.le_of_ble_eq_true rfl) dX10_credits_2 ⟨Nat.le_of_ble_eq_true rfl, Nat.le_of_ble_eq_true rfl⟩ ?_
    refine lv_aload_n hx hb dX10_credits_5 rfl (lv_at hl 0 rfl) ?_
    refine va_get (D := (dC, dI)) (ci := 10) (v := .ref (a 1)) (C := RX10) (T := TX10) (N := 9) hx hb hts in_X10_credits_X10 hown hK hP 0 rfl rfl 0 (by decide) (hts _ lk_X10_credits_RX10_12) (fun _ h9 => h9) rfl dX10_credits_6 ?_
    refine va_get (D := (dC, dI)) (ci := 5) (v := .ref (a 8)) (C := RX3) (T := TX3) (N := 6) hx hb hts in_X10_credits_X3 hown hK hP 1 rfl rfl 1 (by decide) (hts _ lk_X10_credits_RX10_74) (fun _ h9 => h9) rfl dX10_credits_9 ?_
    refine lv_iload_n hx hb dX10_credits_12 rfl (lv_at hl 1 rfl) ?_
    obtain ⟨r4, hr5, hf⟩ := wkb1_s hf
    have hPc := hP.sub (ws' := (wX2 Y (fun k => a (k + 8)) B_accounts B_balances B_balancesAtClosing B_entries B_debited B_credited B_amounts)) [8, 9, 10, 11, 12, 13] rfl
    refine wk_vi (As := [.int x1]) (rest := []) ⟨hx, hb, hml, hown, hts⟩ (c_X2_creditSum l dC dI Y (fun k => a (k + 8)) B_accounts B_balances B_balancesAtClosing B_entries B_debited B_credited B_amounts x1 r4 hr5) (cwV 1 hts gX10_credits_X2_creditSum rfl rfl rfl (by decide +kernel) ⟨Nat.le_of_ble_eq_true rfl, Nat.le_of_ble_eq_true rfl⟩) hK hPc (va_recv hK hP (ci := 4) (q0 := 8) rfl rfl) rfl hl.1 rfl (Nat.le_of_ble_eq_true rfl) dX10_credits_13 ⟨Nat.le_of_ble_eq_true rfl, Nat.le_of_ble_eq_true rfl⟩ ?_
    have e0 := wke1 hf
    subst e0
    refine W.widen (k := 1) (n := 6) (Nat.le_of_ble_eq_true rfl) (Nat.le_of_ble_eq_true rfl) ?_
    refine vx_ret ?_
    exact W.iret (v := r4) hx hb hr (fun t ht hW => ⟨r4, rfl, rfl, ht⟩) (fun q h => absurd h List.not_mem_nil) dX10_credits_16
  · subst hf
    have hPc : va_P (dC, dI) vwCl (wX10n Y a L_hasSnapshot L_formError L_commandError T_count T_weights T_strengths T_heights T_wages T_nightsToHeal B_accounts B_balances B_balancesAtClosing B_entries B_debited B_credited B_amounts C_nights C_netWidth C_shows C_fallen) s.heap := hP
    refine wx_vvX (As := [.int x1]) (rest := []) ⟨hx, hb, hml, hown, hts⟩ (c_X10_requireAccount l hl0 dC dI Y g a L_hasSnapshot L_formError L_commandError T_count T_weights T_strengths T_heights T_wages T_nightsToHeal B_accounts B_balances B_balancesAtClosing B_entries B_debited B_credited B_amounts C_nights C_netWidth C_shows C_fallen x1 (.inr E3) hr1) (cwV 1 hts gX10_credits_X10_requireAccount rfl rfl rfl (by decide +kernel) ⟨Nat.le_of_ble_eq_true rfl, Nat.le_of_ble_eq_true rfl⟩) hK hPc hT hS (va_recv hK hP (ci := 10) (q0 := 0) rfl rfl) rfl hl.1 rfl (Nat.le_of_ble_eq_true rfl) dX10_credits_2 ⟨Nat.le_of_ble_eq_true rfl, Nat.le_of_ble_eq_true rfl⟩ (fun H1 ce q9 hz hq hce hcv hcl => ?_)
    exact vx_out (fun x h => (htab x h).elim) hlocks hce hcv hcl (fun t ht hvm => ⟨rfl, by rw [ht]; exact hz, fun q h => by rw [ht]; exact hq q h⟩) (fun q h => absurd h List.not_mem_nil) (Nat.le_of_ble_eq_true rfl) (Nat.le_of_ble_eq_true rfl)
theorem lk_X10_debitOf_RX10_12 : Cond.fieldLink RX10 12 "CircusLedger" "now" "LCircusLedger$Circus;" ∈ wsX10_debitOf := by decide +kernel
theorem lk_X10_debitOf_RX10_74 : Cond.fieldLink RX10 74 "CircusLedger$Circus" "books" "LCircusLedger$Books;" ∈ wsX10_debitOf := by decide +kernel
theorem lk_X10_debitOf_RX10_226 : Cond.fieldLink RX10 226 "CircusLedger$Books" "debited" "[I" ∈ wsX10_debitOf := by decide +kernel
theorem in_X10_debitOf_X10 : ∀ w ∈ u_ws RX10 TX10 9, w ∈ wsX10_debitOf := by decide +kernel
theorem in_X10_debitOf_X2 : ∀ w ∈ u_ws RX2 TX2 7, w ∈ wsX10_debitOf := by decide +kernel
theorem in_X10_debitOf_X3 : ∀ w ∈ u_ws RX3 TX3 6, w ∈ wsX10_debitOf := by decide +kernel
def f_X10_debitOf (B_entries : Int32) (B_debited : Nat → Int32) (x1 : Int32) : Option ((Int32) ⊕ String) :=
  wkx (f_X10_requireEntry B_entries x1) (fun r2 =>
  gin x1 60 (some (.inl ((B_debited x1.toNatClampNeg)))))
set_option maxHeartbeats 4000000 in
set_option maxRecDepth 100000 in
theorem c_X10_debitOf (l : Launch) (hl0 : l.stackTraces = false) (dC : Nat → ClassId) (dI : Nat → Nat → Nat) (Y : Nat → ClassId) (g : Nat → Nat → Nat) (a : Nat → Nat) (L_hasSnapshot : Int32) (L_formError : Int32) (L_commandError : Int32) (T_count : Int32) (T_weights : Nat → Int32) (T_strengths : Nat → Int32) (T_heights : Nat → Int32) (T_wages : Nat → Int32) (T_nightsToHeal : Nat → Int32) (B_accounts : Int32) (B_balances : Nat → Int32) (B_balancesAtClosing : Nat → Int32) (B_entries : Int32) (B_debited : Nat → Int32) (B_credited : Nat → Int32) (B_amounts : Nat → Int32) (C_nights : Int32) (C_netWidth : Int32) (C_shows : Int32) (C_fallen : Int32) (x1 : Int32) (out : Int32 ⊕ String) (hf : f_X10_debitOf B_entries B_debited x1 = some out) : vx_Met l yX10_debitOf wsX10_debitOf ({ frames := 9, cells := 1, slots := 6, locals := 141 } : Room) (va_Pc [.ref (a 0), .int x1] (wk_BT (dC, dI) Y g (wX10n Y a L_hasSnapshot L_formError L_commandError T_count T_weights T_strengths T_heights T_wages T_nightsToHeal B_accounts B_balances B_balancesAtClosing B_entries B_debited B_credited B_amounts C_nights C_netWidth C_shows C_fallen))) (wxQi out) (wxX out) 1 6 (fun _ => False) := by
  refine vx_ofW (cc := cX10_debitOf) (maxL := 2) (ret := (some .int)) (by decide) rfl ?_
  intro p e s m args below meth c s₁ B hml htab hv
  obtain ⟨rfl, ⟨hP, hK⟩, hT⟩ := hv
  have hx := B.exec
  have hb := B.bytes
  have hr := B.returns
  have hts := atoms_spec (ws := wsX10_debitOf) B.pre
  have hown : s.vm.findClass RX10 = some m.cls := findClass_of_methodNamed B.named
  have hlocks := B.notSynchronized
  have C0 : wk_C p s m _ meth c cX10_debitOf 2 (some .int) wsX10_debitOf RX10 := ⟨hx, hb, hml, hr, hlocks, hown, hts⟩
  have hP : va_P (dC, dI) vwCl [(a 0, .inr (10, [.ref (a 1), .ref (a 14), .ref (a 16), .int L_hasSnapshot, .ref (a 29), .ref (a 34), .int L_formError, .int L_commandError, .ref (a 38)])), (a 1, .inr (5, [.ref (a 2), .ref (a 8), .int C_nights, .int C_netWidth, .int C_shows, .int C_fallen])), (a 2, .inr (9, [.int T_count, .ref (a 3), .ref (a 4), .ref (a 5), .ref (a 6), .ref (a 7)])), (a 3, .inl (Y 0, 6, .inl T_weights)), (a 4, .inl (Y 0, 6, .inl T_strengths)), (a 5, .inl (Y 0, 6, .inl T_heights)), (a 6, .inl (Y 0, 6, .inl T_wages)), (a 7, .inl (Y 0, 6, .inl T_nightsToHeal)), (a 8, .inr (4, [.int B_accounts, .ref (a 9), .ref (a 10), .int B_entries, .ref (a 11), .ref (a 12), .ref (a 13)])), (a 9, .inl (Y 0, 11, .inl B_balances)), (a 10, .inl (Y 0, 11, .inl B_balancesAtClosing)), (a 11, .inl (Y 0, 60, .inl B_debited)), (a 12, .inl (Y 0, 60, .inl B_credited)), (a 13, .inl (Y 0, 60, .inl B_amounts))] s.heap := hP
  have hS : va_S (fun _ : Nat => False) s.heap s.heap [] := va_S.rf
  have hl := lv_entry ([.ref (a 0), .int x1]) (n := 2) (Nat.le_of_ble_eq_true rfl)
  rw [lg_entry_eq]
  generalize (lg_sl ([.ref (a 0), .int x1]) ++ List.replicate (2 - (lg_sl ([.ref (a 0), .int x1])).length) Slot.unset).toArray = ls at hl ⊢
  have hl : lv_has ls 2 [(0, .ref (a 0)), (1, .int x1)] := hl
  rw [f_X10_debitOf] at hf
  refine lv_aload_n hx hb dX10_debitOf_0 rfl (lv_at hl 0 rfl) ?_
  refine lv_iload_n hx hb dX10_debitOf_1 rfl (lv_at hl 1 rfl) ?_
  rcases wkx_s hf with ⟨r2, hr1, hf⟩ | ⟨E3, hr1, hf⟩
  · have hPc : va_P (dC, dI) vwCl (wX10n Y a L_hasSnapshot L_formError L_commandError T_count T_weights T_strengths T_heights T_wages T_nightsToHeal B_accounts B_balances B_balancesAtClosing B_entries B_debited B_credited B_amounts C_nights C_netWidth C_shows C_fallen) s.heap := hP
    refine wx_vvN (As := [.int x1]) (rest := []) ⟨hx, hb, hml, hown, hts⟩ (c_X10_requireEntry l hl0 dC dI Y g a L_hasSnapshot L_formError L_commandError T_count T_weights T_strengths T_heights T_wages T_nightsToHeal B_accounts B_balances B_balancesAtClosing B_entries B_debited B_credited B_amounts C_nights C_netWidth C_shows C_fallen x1 (.inl r2) hr1) (cwV 1 hts gX10_debitOf_X10_requireEntry rfl rfl rfl (by decide +kernel) ⟨Nat.le_of_ble_eq_true rfl, Nat.le_of_ble_eq_true rfl⟩) hK hPc hT hS (va_recv hK hP (ci := 10) (q0 := 0) rfl rfl) rfl hl.1 rfl (Nat.le_of_ble_eq_true rfl) dX10_debitOf_2 ⟨Nat.le_of_ble_eq_true rfl, Nat.le_of_ble_eq_true rfl⟩ ?_
    refine lv_aload_n hx hb dX10_debitOf_5 rfl (lv_at hl 0 rfl) ?_
    refine va_get (D := (dC, dI)) (ci := 10) (v := .ref (a 1)) (C := RX10) (T := TX10) (N := 9) hx hb hts in_X10_debitOf_X10 hown hK hP 0 rfl rfl 0 (by decide) (hts _ lk_X10_debitOf_RX10_12) (fun _ h9 => h9) rfl dX10_debitOf_6 ?_
    refine va_get (D := (dC, dI)) (ci := 5) (v := .ref (a 8)) (C := RX3) (T := TX3) (N := 6) hx hb hts in_X10_debitOf_X3 hown hK hP 1 rfl rfl 1 (by decide) (hts _ lk_X10_debitOf_RX10_74) (fun _ h9 => h9) rfl dX10_debitOf_9 ?_
    refine va_get (D := (dC, dI)) (ci := 4) (v := .ref (a 11)) (C := RX2) (T := TX2) (N := 7) hx hb hts in_X10_debitOf_X2 hown hK hP 8 rfl rfl 4 (by decide) (hts _ lk_X10_debitOf_RX10_226) (fun _ h9 => h9) rfl dX10_debitOf_12 ?_
    refine lv_iload_n hx hb dX10_debitOf_15 rfl (lv_at hl 1 rfl) ?_
    obtain ⟨h4, hf⟩ := gin_s hf
    refine wk_iald hx hb hK hP 11 0 rfl rfl h4 rfl dX10_debitOf_16 ?_
    have e0 := wke1 hf
    subst e0
    refine W.widen (k := 1) (n := 6) (Nat.le_of_ble_eq_true rfl) (Nat.le_of_ble_eq_true rfl) ?_
    refine vx_ret ?_
    exact W.iret (v := (B_debited x1.toNatClampNeg)) hx hb hr (fun t ht hW => ⟨(B_debited x1.toNatClampNeg), rfl, rfl, ht⟩) (fun q h => absurd h List.not_mem_nil) dX10_debitOf_17
  · subst hf
    have hPc : va_P (dC, dI) vwCl (wX10n Y a L_hasSnapshot L_formError L_commandError T_count T_weights T_strengths T_heights T_wages T_nightsToHeal B_accounts B_balances B_balancesAtClosing B_entries B_debited B_credited B_amounts C_nights C_netWidth C_shows C_fallen) s.heap := hP
    refine wx_vvX (As := [.int x1]) (rest := []) ⟨hx, hb, hml, hown, hts⟩ (c_X10_requireEntry l hl0 dC dI Y g a L_hasSnapshot L_formError L_commandError T_count T_weights T_strengths T_heights T_wages T_nightsToHeal B_accounts B_balances B_balancesAtClosing B_entries B_debited B_credited B_amounts C_nights C_netWidth C_shows C_fallen x1 (.inr E3) hr1) (cwV 1 hts gX10_debitOf_X10_requireEntry rfl rfl rfl (by decide +kernel) ⟨Nat.le_of_ble_eq_true rfl, Nat.le_of_ble_eq_true rfl⟩) hK hPc hT hS (va_recv hK hP (ci := 10) (q0 := 0) rfl rfl) rfl hl.1 rfl (Nat.le_of_ble_eq_true rfl) dX10_debitOf_2 ⟨Nat.le_of_ble_eq_true rfl, Nat.le_of_ble_eq_true rfl⟩ (fun H1 ce q9 hz hq hce hcv hcl => ?_)
    exact vx_out (fun x h => (htab x h).elim) hlocks hce hcv hcl (fun t ht hvm => ⟨rfl, by rw [ht]; exact hz, fun q h => by rw [ht]; exact hq q h⟩) (fun q h => absurd h List.not_mem_nil) (Nat.le_of_ble_eq_true rfl) (Nat.le_of_ble_eq_true rfl)
theorem lk_X10_creditOf_RX10_12 : Cond.fieldLink RX10 12 "CircusLedger" "now" "LCircusLedger$Circus;" ∈ wsX10_creditOf := by decide +kernel
theorem lk_X10_creditOf_RX10_74 : Cond.fieldLink RX10 74 "CircusLedger$Circus" "books" "LCircusLedger$Books;" ∈ wsX10_creditOf := by decide +kernel
theorem lk_X10_creditOf_RX10_229 : Cond.fieldLink RX10 229 "CircusLedger$Books" "credited" "[I" ∈ wsX10_creditOf := by decide +kernel
theorem in_X10_creditOf_X10 : ∀ w ∈ u_ws RX10 TX10 9, w ∈ wsX10_creditOf := by decide +kernel
theorem in_X10_creditOf_X2 : ∀ w ∈ u_ws RX2 TX2 7, w ∈ wsX10_creditOf := by decide +kernel
theorem in_X10_creditOf_X3 : ∀ w ∈ u_ws RX3 TX3 6, w ∈ wsX10_creditOf := by decide +kernel
def f_X10_creditOf (B_entries : Int32) (B_credited : Nat → Int32) (x1 : Int32) : Option ((Int32) ⊕ String) :=
  wkx (f_X10_requireEntry B_entries x1) (fun r2 =>
  gin x1 60 (some (.inl ((B_credited x1.toNatClampNeg)))))
set_option maxHeartbeats 4000000 in
set_option maxRecDepth 100000 in
theorem c_X10_creditOf (l : Launch) (hl0 : l.stackTraces = false) (dC : Nat → ClassId) (dI : Nat → Nat → Nat) (Y : Nat → ClassId) (g : Nat → Nat → Nat) (a : Nat → Nat) (L_hasSnapshot : Int32) (L_formError : Int32) (L_commandError : Int32) (T_count : Int32) (T_weights : Nat → Int32) (T_strengths : Nat → Int32) (T_heights : Nat → Int32) (T_wages : Nat → Int32) (T_nightsToHeal : Nat → Int32) (B_accounts : Int32) (B_balances : Nat → Int32) (B_balancesAtClosing : Nat → Int32) (B_entries : Int32) (B_debited : Nat → Int32) (B_credited : Nat → Int32) (B_amounts : Nat → Int32) (C_nights : Int32) (C_netWidth : Int32) (C_shows : Int32) (C_fallen : Int32) (x1 : Int32) (out : Int32 ⊕ String) (hf : f_X10_creditOf B_entries B_credited x1 = some out) : vx_Met l yX10_creditOf wsX10_creditOf ({ frames := 9, cells := 1, slots := 6, locals := 141 } : Room) (va_Pc [.ref (a 0), .int x1] (wk_BT (dC, dI) Y g (wX10n Y a L_hasSnapshot L_formError L_commandError T_count T_weights T_strengths T_heights T_wages T_nightsToHeal B_accounts B_balances B_balancesAtClosing B_entries B_debited B_credited B_amounts C_nights C_netWidth C_shows C_fallen))) (wxQi out) (wxX out) 1 6 (fun _ => False) := by
  refine vx_ofW (cc := cX10_creditOf) (maxL := 2) (ret := (some .int)) (by decide) rfl ?_
  intro p e s m args below meth c s₁ B hml htab hv
  obtain ⟨rfl, ⟨hP, hK⟩, hT⟩ := hv
  have hx := B.exec
  have hb := B.bytes
  have hr := B.returns
  have hts := atoms_spec (ws := wsX10_creditOf) B.pre
  have hown : s.vm.findClass RX10 = some m.cls := findClass_of_methodNamed B.named
  have hlocks := B.notSynchronized
  have C0 : wk_C p s m _ meth c cX10_creditOf 2 (some .int) wsX10_creditOf RX10 := ⟨hx, hb, hml, hr, hlocks, hown, hts⟩
  have hP : va_P (dC, dI) vwCl [(a 0, .inr (10, [.ref (a 1), .ref (a 14), .ref (a 16), .int L_hasSnapshot, .ref (a 29), .ref (a 34), .int L_formError, .int L_commandError, .ref (a 38)])), (a 1, .inr (5, [.ref (a 2), .ref (a 8), .int C_nights, .int C_netWidth, .int C_shows, .int C_fallen])), (a 2, .inr (9, [.int T_count, .ref (a 3), .ref (a 4), .ref (a 5), .ref (a 6), .ref (a 7)])), (a 3, .inl (Y 0, 6, .inl T_weights)), (a 4, .inl (Y 0, 6, .inl T_strengths)), (a 5, .inl (Y 0, 6, .inl T_heights)), (a 6, .inl (Y 0, 6, .inl T_wages)), (a 7, .inl (Y 0, 6, .inl T_nightsToHeal)), (a 8, .inr (4, [.int B_accounts, .ref (a 9), .ref (a 10), .int B_entries, .ref (a 11), .ref (a 12), .ref (a 13)])), (a 9, .inl (Y 0, 11, .inl B_balances)), (a 10, .inl (Y 0, 11, .inl B_balancesAtClosing)), (a 11, .inl (Y 0, 60, .inl B_debited)), (a 12, .inl (Y 0, 60, .inl B_credited)), (a 13, .inl (Y 0, 60, .inl B_amounts))] s.heap := hP
  have hS : va_S (fun _ : Nat => False) s.heap s.heap [] := va_S.rf
  have hl := lv_entry ([.ref (a 0), .int x1]) (n := 2) (Nat.le_of_ble_eq_true rfl)
  rw [lg_entry_eq]
  generalize (lg_sl ([.ref (a 0), .int x1]) ++ List.replicate (2 - (lg_sl ([.ref (a 0), .int x1])).length) Slot.unset).toArray = ls at hl ⊢
  have hl : lv_has ls 2 [(0, .ref (a 0)), (1, .int x1)] := hl
  rw [f_X10_creditOf] at hf
  refine lv_aload_n hx hb dX10_creditOf_0 rfl (lv_at hl 0 rfl) ?_
  refine lv_iload_n hx hb dX10_creditOf_1 rfl (lv_at hl 1 rfl) ?_
  rcases wkx_s hf with ⟨r2, hr1, hf⟩ | ⟨E3, hr1, hf⟩
  · have hPc : va_P (dC, dI) vwCl (wX10n Y a L_hasSnapshot L_formError L_commandError T_count T_weights T_strengths T_heights T_wages T_nightsToHeal B_accounts B_balances B_balancesAtClosing B_entries B_debited B_credited B_amounts C_nights C_netWidth C_shows C_fallen) s.heap := hP
    refine wx_vvN (As := [.int x1]) (rest := []) ⟨hx, hb, hml, hown, hts⟩ (c_X10_requireEntry l hl0 dC dI Y g a L_hasSnapshot L_formError L_commandError T_count T_weights T_strengths T_heights T_wages T_nightsToHeal B_accounts B_balances B_balancesAtClosing B_entries B_debited B_credited B_amounts C_nights C_netWidth C_shows C_fallen x1 (.inl r2) hr1) (cwV 1 hts gX10_creditOf_X10_requireEntry rfl rfl rfl (by decide +kernel) ⟨Nat.le_of_ble_eq_true rfl, Nat.le_of_ble_eq_true rfl⟩) hK hPc hT hS (va_recv hK hP (ci := 10) (q0 := 0) rfl rfl) rfl hl.1 rfl (Nat.le_of_ble_eq_true rfl) dX10_creditOf_2 ⟨Nat.le_of_ble_eq_true rfl, Nat.le_of_ble_eq_true rfl⟩ ?_
    refine lv_aload_n hx hb dX10_creditOf_5 rfl (lv_at hl 0 rfl) ?_
    refine va_get (D := (dC, dI)) (ci := 10) (v := .ref (a 1)) (C := RX10) (T := TX10) (N := 9) hx hb hts in_X10_creditOf_X10 hown hK hP 0 rfl rfl 0 (by decide) (hts _ lk_X10_creditOf_RX10_12) (fun _ h9 => h9) rfl dX10_creditOf_6 ?_
    refine va_get (D := (dC, dI)) (ci := 5) (v := .ref (a 8)) (C := RX3) (T := TX3) (N := 6) hx hb hts in_X10_creditOf_X3 hown hK hP 1 rfl rfl 1 (by decide) (hts _ lk_X10_creditOf_RX10_74) (fun _ h9 => h9) rfl dX10_creditOf_9 ?_
    refine va_get (D := (dC, dI)) (ci := 4) (v := .ref (a 12)) (C := RX2) (T := TX2) (N := 7) hx hb hts in_X10_creditOf_X2 hown hK hP 8 rfl rfl 5 (by decide) (hts _ lk_X10_creditOf_RX10_229) (fun _ h9 => h9) rfl dX10_creditOf_12 ?_
    refine lv_iload_n hx hb dX10_creditOf_15 rfl (lv_at hl 1 rfl) ?_
    obtain ⟨h4, hf⟩ := gin_s hf
    refine wk_iald hx hb hK hP 12 0 rfl rfl h4 rfl dX10_creditOf_16 ?_
    have e0 := wke1 hf
    subst e0
    refine W.widen (k := 1) (n := 6) (Nat.le_of_ble_eq_true rfl) (Nat.le_of_ble_eq_true rfl) ?_
    refine vx_ret ?_
    exact W.iret (v := (B_credited x1.toNatClampNeg)) hx hb hr (fun t ht hW => ⟨(B_credited x1.toNatClampNeg), rfl, rfl, ht⟩) (fun q h => absurd h List.not_mem_nil) dX10_creditOf_17
  · subst hf
    have hPc : va_P (dC, dI) vwCl (wX10n Y a L_hasSnapshot L_formError L_commandError T_count T_weights T_strengths T_heights T_wages T_nightsToHeal B_accounts B_balances B_balancesAtClosing B_entries B_debited B_credited B_amounts C_nights C_netWidth C_shows C_fallen) s.heap := hP
    refine wx_vvX (As := [.int x1]) (rest := []) ⟨hx, hb, hml, hown, hts⟩ (c_X10_requireEntry l hl0 dC dI Y g a L_hasSnapshot L_formError L_commandError T_count T_weights T_strengths T_heights T_wages T_nightsToHeal B_accounts B_balances B_balancesAtClosing B_entries B_debited B_credited B_amounts C_nights C_netWidth C_shows C_fallen x1 (.inr E3) hr1) (cwV 1 hts gX10_creditOf_X10_requireEntry rfl rfl rfl (by decide +kernel) ⟨Nat.le_of_ble_eq_true rfl, Nat.le_of_ble_eq_true rfl⟩) hK hPc hT hS (va_recv hK hP (ci := 10) (q0 := 0) rfl rfl) rfl hl.1 rfl (Nat.le_of_ble_eq_true rfl) dX10_creditOf_2 ⟨Nat.le_of_ble_eq_true rfl, Nat.le_of_ble_eq_true rfl⟩ (fun H1 ce q9 hz hq hce hcv hcl => ?_)
    exact vx_out (fun x h => (htab x h).elim) hlocks hce hcv hcl (fun t ht hvm => ⟨rfl, by rw [ht]; exact hz, fun q h => by rw [ht]; exact hq q h⟩) (fun q h => absurd h List.not_mem_nil) (Nat.le_of_ble_eq_true rfl) (Nat.le_of_ble_eq_true rfl)
theorem lk_X10_amountOf_RX10_12 : Cond.fieldLink RX10 12 "CircusLedger" "now" "LCircusLedger$Circus;" ∈ wsX10_amountOf := by decide +kernel
theorem lk_X10_amountOf_RX10_74 : Cond.fieldLink RX10 74 "CircusLedger$Circus" "books" "LCircusLedger$Books;" ∈ wsX10_amountOf := by decide +kernel
theorem lk_X10_amountOf_RX10_232 : Cond.fieldLink RX10 232 "CircusLedger$Books" "amounts" "[I" ∈ wsX10_amountOf := by decide +kernel
theorem in_X10_amountOf_X10 : ∀ w ∈ u_ws RX10 TX10 9, w ∈ wsX10_amountOf := by decide +kernel
theorem in_X10_amountOf_X2 : ∀ w ∈ u_ws RX2 TX2 7, w ∈ wsX10_amountOf := by decide +kernel
theorem in_X10_amountOf_X3 : ∀ w ∈ u_ws RX3 TX3 6, w ∈ wsX10_amountOf := by decide +kernel
def f_X10_amountOf (B_entries : Int32) (B_amounts : Nat → Int32) (x1 : Int32) : Option ((Int32) ⊕ String) :=
  wkx (f_X10_requireEntry B_entries x1) (fun r2 =>
  gin x1 60 (some (.inl ((B_amounts x1.toNatClampNeg)))))
set_option maxHeartbeats 4000000 in
set_option maxRecDepth 100000 in
theorem c_X10_amountOf (l : Launch) (hl0 : l.stackTraces = false) (dC : Nat → ClassId) (dI : Nat → Nat → Nat) (Y : Nat → ClassId) (g : Nat → Nat → Nat) (a : Nat → Nat) (L_hasSnapshot : Int32) (L_formError : Int32) (L_commandError : Int32) (T_count : Int32) (T_weights : Nat → Int32) (T_strengths : Nat → Int32) (T_heights : Nat → Int32) (T_wages : Nat → Int32) (T_nightsToHeal : Nat → Int32) (B_accounts : Int32) (B_balances : Nat → Int32) (B_balancesAtClosing : Nat → Int32) (B_entries : Int32) (B_debited : Nat → Int32) (B_credited : Nat → Int32) (B_amounts : Nat → Int32) (C_nights : Int32) (C_netWidth : Int32) (C_shows : Int32) (C_fallen : Int32) (x1 : Int32) (out : Int32 ⊕ String) (hf : f_X10_amountOf B_entries B_amounts x1 = some out) : vx_Met l yX10_amountOf wsX10_amountOf ({ frames := 9, cells := 1, slots := 6, locals := 141 } : Room) (va_Pc [.ref (a 0), .int x1] (wk_BT (dC, dI) Y g (wX10n Y a L_hasSnapshot L_formError L_commandError T_count T_weights T_strengths T_heights T_wages T_nightsToHeal B_accounts B_balances B_balancesAtClosing B_entries B_debited B_credited B_amounts C_nights C_netWidth C_shows C_fallen))) (wxQi out) (wxX out) 1 6 (fun _ => False) := by
  refine vx_ofW (cc := cX10_amountOf) (maxL := 2) (ret := (some .int)) (by decide) rfl ?_
  intro p e s m args below meth c s₁ B hml htab hv
  obtain ⟨rfl, ⟨hP, hK⟩, hT⟩ := hv
  have hx := B.exec
  have hb := B.bytes
  have hr := B.returns
  have hts := atoms_spec (ws := wsX10_amountOf) B.pre
  have hown : s.vm.findClass RX10 = some m.cls := findClass_of_methodNamed B.named
  have hlocks := B.notSynchronized
  have C0 : wk_C p s m _ meth c cX10_amountOf 2 (some .int) wsX10_amountOf RX10 := ⟨hx, hb, hml, hr, hlocks, hown, hts⟩
  have hP : va_P (dC, dI) vwCl [(a 0, .inr (10, [.ref (a 1), .ref (a 14), .ref (a 16), .int L_hasSnapshot, .ref (a 29), .ref (a 34), .int L_formError, .int L_commandError, .ref (a 38)])), (a 1, .inr (5, [.ref (a 2), .ref (a 8), .int C_nights, .int C_netWidth, .int C_shows, .int C_fallen])), (a 2, .inr (9, [.int T_count, .ref (a 3), .ref (a 4), .ref (a 5), .ref (a 6), .ref (a 7)])), (a 3, .inl (Y 0, 6, .inl T_weights)), (a 4, .inl (Y 0, 6, .inl T_strengths)), (a 5, .inl (Y 0, 6, .inl T_heights)), (a 6, .inl (Y 0, 6, .inl T_wages)), (a 7, .inl (Y 0, 6, .inl T_nightsToHeal)), (a 8, .inr (4, [.int B_accounts, .ref (a 9), .ref (a 10), .int B_entries, .ref (a 11), .ref (a 12), .ref (a 13)])), (a 9, .inl (Y 0, 11, .inl B_balances)), (a 10, .inl (Y 0, 11, .inl B_balancesAtClosing)), (a 11, .inl (Y 0, 60, .inl B_debited)), (a 12, .inl (Y 0, 60, .inl B_credited)), (a 13, .inl (Y 0, 60, .inl B_amounts))] s.heap := hP
  have hS : va_S (fun _ : Nat => False) s.heap s.heap [] := va_S.rf
  have hl := lv_entry ([.ref (a 0), .int x1]) (n := 2) (Nat.le_of_ble_eq_true rfl)
  rw [lg_entry_eq]
  generalize (lg_sl ([.ref (a 0), .int x1]) ++ List.replicate (2 - (lg_sl ([.ref (a 0), .int x1])).length) Slot.unset).toArray = ls at hl ⊢
  have hl : lv_has ls 2 [(0, .ref (a 0)), (1, .int x1)] := hl
  rw [f_X10_amountOf] at hf
  refine lv_aload_n hx hb dX10_amountOf_0 rfl (lv_at hl 0 rfl) ?_
  refine lv_iload_n hx hb dX10_amountOf_1 rfl (lv_at hl 1 rfl) ?_
  rcases wkx_s hf with ⟨r2, hr1, hf⟩ | ⟨E3, hr1, hf⟩
  · have hPc : va_P (dC, dI) vwCl (wX10n Y a L_hasSnapshot L_formError L_commandError T_count T_weights T_strengths T_heights T_wages T_nightsToHeal B_accounts B_balances B_balancesAtClosing B_entries B_debited B_credited B_amounts C_nights C_netWidth C_shows C_fallen) s.heap := hP
    refine wx_vvN (As := [.int x1]) (rest := []) ⟨hx, hb, hml, hown, hts⟩ (c_X10_requireEntry l hl0 dC dI Y g a L_hasSnapshot L_formError L_commandError T_count T_weights T_strengths T_heights T_wages T_nightsToHeal B_accounts B_balances B_balancesAtClosing B_entries B_debited B_credited B_amounts C_nights C_netWidth C_shows C_fallen x1 (.inl r2) hr1) (cwV 1 hts gX10_amountOf_X10_requireEntry rfl rfl rfl (by decide +kernel) ⟨Nat.le_of_ble_eq_true rfl, Nat.le_of_ble_eq_true rfl⟩) hK hPc hT hS (va_recv hK hP (ci := 10) (q0 := 0) rfl rfl) rfl hl.1 rfl (Nat.le_of_ble_eq_true rfl) dX10_amountOf_2 ⟨Nat.le_of_ble_eq_true rfl, Nat.le_of_ble_eq_true rfl⟩ ?_
    refine lv_aload_n hx hb dX10_amountOf_5 rfl (lv_at hl 0 rfl) ?_
    refine va_get (D := (dC, dI)) (ci := 10) (v := .ref (a 1)) (C := RX10) (T := TX10) (N := 9) hx hb hts in_X10_amountOf_X10 hown hK hP 0 rfl rfl 0 (by decide) (hts _ lk_X10_amountOf_RX10_12) (fun _ h9 => h9) rfl dX10_amountOf_6 ?_
    refine va_get (D := (dC, dI)) (ci := 5) (v := .ref (a 8)) (C := RX3) (T := TX3) (N := 6) hx hb hts in_X10_amountOf_X3 hown hK hP 1 rfl rfl 1 (by decide) (hts _ lk_X10_amountOf_RX10_74) (fun _ h9 => h9) rfl dX10_amountOf_9 ?_
    refine va_get (D := (dC, dI)) (ci := 4) (v := .ref (a 13)) (C := RX2) (T := TX2) (N := 7) hx hb hts in_X10_amountOf_X2 hown hK hP 8 rfl rfl 6 (by decide) (hts _ lk_X10_amountOf_RX10_232) (fun _ h9 => h9) rfl dX10_amountOf_12 ?_
    refine lv_iload_n hx hb dX10_amountOf_15 rfl (lv_at hl 1 rfl) ?_
    obtain ⟨h4, hf⟩ := gin_s hf
    refine wk_iald hx hb hK hP 13 0 rfl rfl h4 rfl dX10_amountOf_16 ?_
    have e0 := wke1 hf
    subst e0
    refine W.widen (k := 1) (n := 6) (Nat.le_of_ble_eq_true rfl) (Nat.le_of_ble_eq_true rfl) ?_
    refine vx_ret ?_
    exact W.iret (v := (B_amounts x1.toNatClampNeg)) hx hb hr (fun t ht hW => ⟨(B_amounts x1.toNatClampNeg), rfl, rfl, ht⟩) (fun q h => absurd h List.not_mem_nil) dX10_amountOf_17
  · subst hf
    have hPc : va_P (dC, dI) vwCl (wX10n Y a L_hasSnapshot L_formError L_commandError T_count T_weights T_strengths T_heights T_wages T_nightsToHeal B_accounts B_balances B_balancesAtClosing B_entries B_debited B_credited B_amounts C_nights C_netWidth C_shows C_fallen) s.heap := hP
    refine wx_vvX (As := [.int x1]) (rest := []) ⟨hx, hb, hml, hown, hts⟩ (c_X10_requireEntry l hl0 dC dI Y g a L_hasSnapshot L_formError L_commandError T_count T_weights T_strengths T_heights T_wages T_nightsToHeal B_accounts B_balances B_balancesAtClosing B_entries B_debited B_credited B_amounts C_nights C_netWidth C_shows C_fallen x1 (.inr E3) hr1) (cwV 1 hts gX10_amountOf_X10_requireEntry rfl rfl rfl (by decide +kernel) ⟨Nat.le_of_ble_eq_true rfl, Nat.le_of_ble_eq_true rfl⟩) hK hPc hT hS (va_recv hK hP (ci := 10) (q0 := 0) rfl rfl) rfl hl.1 rfl (Nat.le_of_ble_eq_true rfl) dX10_amountOf_2 ⟨Nat.le_of_ble_eq_true rfl, Nat.le_of_ble_eq_true rfl⟩ (fun H1 ce q9 hz hq hce hcv hcl => ?_)
    exact vx_out (fun x h => (htab x h).elim) hlocks hce hcv hcl (fun t ht hvm => ⟨rfl, by rw [ht]; exact hz, fun q h => by rw [ht]; exact hq q h⟩) (fun q h => absurd h List.not_mem_nil) (Nat.le_of_ble_eq_true rfl) (Nat.le_of_ble_eq_true rfl)
theorem lk_X10_accountByBalance_RX10_12 : Cond.fieldLink RX10 12 "CircusLedger" "now" "LCircusLedger$Circus;" ∈ wsX10_accountByBalance := by decide +kernel
theorem lk_X10_accountByBalance_RX10_74 : Cond.fieldLink RX10 74 "CircusLedger$Circus" "books" "LCircusLedger$Books;" ∈ wsX10_accountByBalance := by decide +kernel
theorem in_X10_accountByBalance_X10 : ∀ w ∈ u_ws RX10 TX10 9, w ∈ wsX10_accountByBalance := by decide +kernel
theorem in_X10_accountByBalance_X3 : ∀ w ∈ u_ws RX3 TX3 6, w ∈ wsX10_accountByBalance := by decide +kernel
def f_X10_accountByBalance (B_accounts : Int32) (B_balances : Nat → Int32) (x1 : Int32) : Option ((Int32) ⊕ String) :=
  wkb1 (f_X2_accountAtRank B_accounts B_balances x1) (fun r1 =>
  wkx (f_X10_requireFound r1) (fun r3 =>
  some (.inl (r3))))
set_option maxHeartbeats 4000000 in
set_option maxRecDepth 100000 in
theorem c_X10_accountByBalance (l : Launch) (hl0 : l.stackTraces = false) (dC : Nat → ClassId) (dI : Nat → Nat → Nat) (Y : Nat → ClassId) (g : Nat → Nat → Nat) (a : Nat → Nat) (L_hasSnapshot : Int32) (L_formError : Int32) (L_commandError : Int32) (T_count : Int32) (T_weights : Nat → Int32) (T_strengths : Nat → Int32) (T_heights : Nat → Int32) (T_wages : Nat → Int32) (T_nightsToHeal : Nat → Int32) (B_accounts : Int32) (B_balances : Nat → Int32) (B_balancesAtClosing : Nat → Int32) (B_entries : Int32) (B_debited : Nat → Int32) (B_credited : Nat → Int32) (B_amounts : Nat → Int32) (C_nights : Int32) (C_netWidth : Int32) (C_shows : Int32) (C_fallen : Int32) (x1 : Int32) (out : Int32 ⊕ String) (hf : f_X10_accountByBalance B_accounts B_balances x1 = some out) : vx_Met l yX10_accountByBalance wsX10_accountByBalance ({ frames := 9, cells := 1, slots := 6, locals := 140 } : Room) (va_Pc [.ref (a 0), .int x1] (wk_BT (dC, dI) Y g (wX10n Y a L_hasSnapshot L_formError L_commandError T_count T_weights T_strengths T_heights T_wages T_nightsToHeal B_accounts B_balances B_balancesAtClosing B_entries B_debited B_credited B_amounts C_nights C_netWidth C_shows C_fallen))) (wxQi out) (wxX out) 1 6 (fun _ => False) := by
  refine vx_ofW (cc := cX10_accountByBalance) (maxL := 2) (ret := (some .int)) (by decide) rfl ?_
  intro p e s m args below meth c s₁ B hml htab hv
  obtain ⟨rfl, ⟨hP, hK⟩, hT⟩ := hv
  have hx := B.exec
  have hb := B.bytes
  have hr := B.returns
  have hts := atoms_spec (ws := wsX10_accountByBalance) B.pre
  have hown : s.vm.findClass RX10 = some m.cls := findClass_of_methodNamed B.named
  have hlocks := B.notSynchronized
  have C0 : wk_C p s m _ meth c cX10_accountByBalance 2 (some .int) wsX10_accountByBalance RX10 := ⟨hx, hb, hml, hr, hlocks, hown, hts⟩
  have hP : va_P (dC, dI) vwCl [(a 0, .inr (10, [.ref (a 1), .ref (a 14), .ref (a 16), .int L_hasSnapshot, .ref (a 29), .ref (a 34), .int L_formError, .int L_commandError, .ref (a 38)])), (a 1, .inr (5, [.ref (a 2), .ref (a 8), .int C_nights, .int C_netWidth, .int C_shows, .int C_fallen])), (a 2, .inr (9, [.int T_count, .ref (a 3), .ref (a 4), .ref (a 5), .ref (a 6), .ref (a 7)])), (a 3, .inl (Y 0, 6, .inl T_weights)), (a 4, .inl (Y 0, 6, .inl T_strengths)), (a 5, .inl (Y 0, 6, .inl T_heights)), (a 6, .inl (Y 0, 6, .inl T_wages)), (a 7, .inl (Y 0, 6, .inl T_nightsToHeal)), (a 8, .inr (4, [.int B_accounts, .ref (a 9), .ref (a 10), .int B_entries, .ref (a 11), .ref (a 12), .ref (a 13)])), (a 9, .inl (Y 0, 11, .inl B_balances)), (a 10, .inl (Y 0, 11, .inl B_balancesAtClosing)), (a 11, .inl (Y 0, 60, .inl B_debited)), (a 12, .inl (Y 0, 60, .inl B_credited)), (a 13, .inl (Y 0, 60, .inl B_amounts))] s.heap := hP
  have hS : va_S (fun _ : Nat => False) s.heap s.heap [] := va_S.rf
  have hl := lv_entry ([.ref (a 0), .int x1]) (n := 2) (Nat.le_of_ble_eq_true rfl)
  rw [lg_entry_eq]
  generalize (lg_sl ([.ref (a 0), .int x1]) ++ List.replicate (2 - (lg_sl ([.ref (a 0), .int x1])).length) Slot.unset).toArray = ls at hl ⊢
  have hl : lv_has ls 2 [(0, .ref (a 0)), (1, .int x1)] := hl
  rw [f_X10_accountByBalance] at hf
  refine lv_aload_n hx hb dX10_accountByBalance_0 rfl (lv_at hl 0 rfl) ?_
  refine va_get (D := (dC, dI)) (ci := 10) (v := .ref (a 1)) (C := RX10) (T := TX10) (N := 9) hx hb hts in_X10_accountByBalance_X10 hown hK hP 0 rfl rfl 0 (by decide) (hts _ lk_X10_accountByBalance_RX10_12) (fun _ h9 => h9) rfl dX10_accountByBalance_1 ?_
  refine va_get (D := (dC, dI)) (ci := 5) (v := .ref (a 8)) (C := RX3) (T := TX3) (N := 6) hx hb hts in_X10_accountByBalance_X3 hown hK hP 1 rfl rfl 1 (by decide) (hts _ lk_X10_accountByBalance_RX10_74) (fun _ h9 => h9) rfl dX10_accountByBalance_4 ?_
  refine lv_iload_n hx hb dX10_accountByBalance_7 rfl (lv_at hl 1 rfl) ?_
  obtain ⟨r1, hr2, hf⟩ := wkb1_s hf
  have hPc := hP.sub (ws' := (wX2 Y (fun k => a (k + 8)) B_accounts B_balances B_balancesAtClosing B_entries B_debited B_credited B_amounts)) [8, 9, 10, 11, 12, 13] rfl
  refine wk_vi (As := [.int x1]) (rest := []) ⟨hx, hb, hml, hown, hts⟩ (c_X2_accountAtRank l dC dI Y (fun k => a (k + 8)) B_accounts B_balances B_balancesAtClosing B_entries B_debited B_credited B_amounts x1 r1 hr2) (cwV 1 hts gX10_accountByBalance_X2_accountAtRank rfl rfl rfl (by decide +kernel) ⟨Nat.le_of_ble_eq_true rfl, Nat.le_of_ble_eq_true rfl⟩) hK hPc (va_recv hK hP (ci := 4) (q0 := 8) rfl rfl) rfl hl.1 rfl (Nat.le_of_ble_eq_true rfl) dX10_accountByBalance_8 ⟨Nat.le_of_ble_eq_true rfl, Nat.le_of_ble_eq_true rfl⟩ ?_
  rcases wkx_s hf with ⟨r3, hr4, hf⟩ | ⟨E5, hr4, hf⟩
  · have hPc := hP.sub (ws' := ([] : va_W)) [] rfl
    refine wx_siN (As := [.int r1]) (rest := []) ⟨hx, hb, hml, hown, hts⟩ (c_X10_requireFound l hl0 dC dI Y g   r1 (.inl r3) hr4) (va_cwS 1 hts gX10_accountByBalance_X10_requireFound rfl rfl rfl (by decide +kernel) ⟨Nat.le_of_ble_eq_true rfl, Nat.le_of_ble_eq_true rfl⟩) hK hPc hT hS rfl hl.1 rfl (Nat.le_of_ble_eq_true rfl) dX10_accountByBalance_11 ⟨Nat.le_of_ble_eq_true rfl, Nat.le_of_ble_eq_true rfl⟩ ?_
    have e0 := wke1 hf
    subst e0
    refine W.widen (k := 1) (n := 6) (Nat.le_of_ble_eq_true rfl) (Nat.le_of_ble_eq_true rfl) ?_
    refine vx_ret ?_
    exact W.iret (v := r3) hx hb hr (fun t ht hW => ⟨r3, rfl, rfl, ht⟩) (fun q h => absurd h List.not_mem_nil) dX10_accountByBalance_14
  · subst hf
    have hPc := hP.sub (ws' := ([] : va_W)) [] rfl
    refine wx_siX (As := [.int r1]) (rest := []) ⟨hx, hb, hml, hown, hts⟩ (c_X10_requireFound l hl0 dC dI Y g   r1 (.inr E5) hr4) (va_cwS 1 hts gX10_accountByBalance_X10_requireFound rfl rfl rfl (by decide +kernel) ⟨Nat.le_of_ble_eq_true rfl, Nat.le_of_ble_eq_true rfl⟩) hK hPc hT hS rfl hl.1 rfl (Nat.le_of_ble_eq_true rfl) dX10_accountByBalance_11 ⟨Nat.le_of_ble_eq_true rfl, Nat.le_of_ble_eq_true rfl⟩ (fun H1 ce q9 hz hq hce hcv hcl => ?_)
    exact vx_out (fun x h => (htab x h).elim) hlocks hce hcv hcl (fun t ht hvm => ⟨rfl, by rw [ht]; exact hz, fun q h => by rw [ht]; exact hq q h⟩) (fun q h => absurd h List.not_mem_nil) (Nat.le_of_ble_eq_true rfl) (Nat.le_of_ble_eq_true rfl)
theorem lk_X10_meanPositive_RX10_12 : Cond.fieldLink RX10 12 "CircusLedger" "now" "LCircusLedger$Circus;" ∈ wsX10_meanPositive := by decide +kernel
theorem lk_X10_meanPositive_RX10_74 : Cond.fieldLink RX10 74 "CircusLedger$Circus" "books" "LCircusLedger$Books;" ∈ wsX10_meanPositive := by decide +kernel
theorem in_X10_meanPositive_X10 : ∀ w ∈ u_ws RX10 TX10 9, w ∈ wsX10_meanPositive := by decide +kernel
theorem in_X10_meanPositive_X3 : ∀ w ∈ u_ws RX3 TX3 6, w ∈ wsX10_meanPositive := by decide +kernel
def f_X10_meanPositive (B_accounts : Int32) (B_balances : Nat → Int32) : Option ((UInt64) ⊕ String) :=
  wkx (f_X10_requirePositiveBalance B_accounts B_balances) (fun r2 =>
  wkb1 (f_X2_meanOfPositive B_accounts B_balances) (fun r4 =>
  some (.inl (r4))))
set_option maxHeartbeats 4000000 in
set_option maxRecDepth 100000 in
theorem c_X10_meanPositive (l : Launch) (hl0 : l.stackTraces = false) (dC : Nat → ClassId) (dI : Nat → Nat → Nat) (Y : Nat → ClassId) (g : Nat → Nat → Nat) (a : Nat → Nat) (L_hasSnapshot : Int32) (L_formError : Int32) (L_commandError : Int32) (T_count : Int32) (T_weights : Nat → Int32) (T_strengths : Nat → Int32) (T_heights : Nat → Int32) (T_wages : Nat → Int32) (T_nightsToHeal : Nat → Int32) (B_accounts : Int32) (B_balances : Nat → Int32) (B_balancesAtClosing : Nat → Int32) (B_entries : Int32) (B_debited : Nat → Int32) (B_credited : Nat → Int32) (B_amounts : Nat → Int32) (C_nights : Int32) (C_netWidth : Int32) (C_shows : Int32) (C_fallen : Int32)  (out : UInt64 ⊕ String) (hf : f_X10_meanPositive B_accounts B_balances = some out) : vx_Met l yX10_meanPositive wsX10_meanPositive ({ frames := 9, cells := 1, slots := 6, locals := 140 } : Room) (va_Pc [.ref (a 0)] (wk_BT (dC, dI) Y g (wX10n Y a L_hasSnapshot L_formError L_commandError T_count T_weights T_strengths T_heights T_wages T_nightsToHeal B_accounts B_balances B_balancesAtClosing B_entries B_debited B_credited B_amounts C_nights C_netWidth C_shows C_fallen))) (wxQd out) (wxX out) 1 6 (fun _ => False) := by
  refine vx_ofW (cc := cX10_meanPositive) (maxL := 1) (ret := (some .double)) (by decide) rfl ?_
  intro p e s m args below meth c s₁ B hml htab hv
  obtain ⟨rfl, ⟨hP, hK⟩, hT⟩ := hv
  have hx := B.exec
  have hb := B.bytes
  have hr := B.returns
  have hts := atoms_spec (ws := wsX10_meanPositive) B.pre
  have hown : s.vm.findClass RX10 = some m.cls := findClass_of_methodNamed B.named
  have hlocks := B.notSynchronized
  have C0 : wk_C p s m _ meth c cX10_meanPositive 1 (some .double) wsX10_meanPositive RX10 := ⟨hx, hb, hml, hr, hlocks, hown, hts⟩
  have hP : va_P (dC, dI) vwCl [(a 0, .inr (10, [.ref (a 1), .ref (a 14), .ref (a 16), .int L_hasSnapshot, .ref (a 29), .ref (a 34), .int L_formError, .int L_commandError, .ref (a 38)])), (a 1, .inr (5, [.ref (a 2), .ref (a 8), .int C_nights, .int C_netWidth, .int C_shows, .int C_fallen])), (a 2, .inr (9, [.int T_count, .ref (a 3), .ref (a 4), .ref (a 5), .ref (a 6), .ref (a 7)])), (a 3, .inl (Y 0, 6, .inl T_weights)), (a 4, .inl (Y 0, 6, .inl T_strengths)), (a 5, .inl (Y 0, 6, .inl T_heights)), (a 6, .inl (Y 0, 6, .inl T_wages)), (a 7, .inl (Y 0, 6, .inl T_nightsToHeal)), (a 8, .inr (4, [.int B_accounts, .ref (a 9), .ref (a 10), .int B_entries, .ref (a 11), .ref (a 12), .ref (a 13)])), (a 9, .inl (Y 0, 11, .inl B_balances)), (a 10, .inl (Y 0, 11, .inl B_balancesAtClosing)), (a 11, .inl (Y 0, 60, .inl B_debited)), (a 12, .inl (Y 0, 60, .inl B_credited)), (a 13, .inl (Y 0, 60, .inl B_amounts))] s.heap := hP
  have hS : va_S (fun _ : Nat => False) s.heap s.heap [] := va_S.rf
  have hl := lv_entry ([.ref (a 0)]) (n := 1) (Nat.le_of_ble_eq_true rfl)
  rw [lg_entry_eq]
  generalize (lg_sl ([.ref (a 0)]) ++ List.replicate (1 - (lg_sl ([.ref (a 0)])).length) Slot.unset).toArray = ls at hl ⊢
  have hl : lv_has ls 1 [(0, .ref (a 0))] := hl
  rw [f_X10_meanPositive] at hf
  refine lv_aload_n hx hb dX10_meanPositive_0 rfl (lv_at hl 0 rfl) ?_
  rcases wkx_s hf with ⟨r2, hr1, hf⟩ | ⟨E3, hr1, hf⟩
  · have hPc : va_P (dC, dI) vwCl (wX10n Y a L_hasSnapshot L_formError L_commandError T_count T_weights T_strengths T_heights T_wages T_nightsToHeal B_accounts B_balances B_balancesAtClosing B_entries B_debited B_credited B_amounts C_nights C_netWidth C_shows C_fallen) s.heap := hP
    refine wx_vvN (As := []) (rest := []) ⟨hx, hb, hml, hown, hts⟩ (c_X10_requirePositiveBalance l hl0 dC dI Y g a L_hasSnapshot L_formError L_commandError T_count T_weights T_strengths T_heights T_wages T_nightsToHeal B_accounts B_balances B_balancesAtClosing B_entries B_debited B_credited B_amounts C_nights C_netWidth C_shows C_fallen  (.inl r2) hr1) (cwV 0 hts gX10_meanPositive_X10_requirePositiveBalance rfl rfl rfl (by decide +kernel) ⟨Nat.le_of_ble_eq_true rfl, Nat.le_of_ble_eq_true rfl⟩) hK hPc hT hS (va_recv hK hP (ci := 10) (q0 := 0) rfl rfl) rfl hl.1 rfl (Nat.le_of_ble_eq_true rfl) dX10_meanPositive_1 ⟨Nat.le_of_ble_eq_true rfl, Nat.le_of_ble_eq_true rfl⟩ ?_
    refine lv_aload_n hx hb dX10_meanPositive_4 rfl (lv_at hl 0 rfl) ?_
    refine va_get (D := (dC, dI)) (ci := 10) (v := .ref (a 1)) (C := RX10) (T := TX10) (N := 9) hx hb hts in_X10_meanPositive_X10 hown hK hP 0 rfl rfl 0 (by decide) (hts _ lk_X10_meanPositive_RX10_12) (fun _ h9 => h9) rfl dX10_meanPositive_5 ?_
    refine va_get (D := (dC, dI)) (ci := 5) (v := .ref (a 8)) (C := RX3) (T := TX3) (N := 6) hx hb hts in_X10_meanPositive_X3 hown hK hP 1 rfl rfl 1 (by decide) (hts _ lk_X10_meanPositive_RX10_74) (fun _ h9 => h9) rfl dX10_meanPositive_8 ?_
    obtain ⟨r4, hr5, hf⟩ := wkb1_s hf
    have hPc := hP.sub (ws' := (wX2 Y (fun k => a (k + 8)) B_accounts B_balances B_balancesAtClosing B_entries B_debited B_credited B_amounts)) [8, 9, 10, 11, 12, 13] rfl
    refine wk_vd (As := []) (rest := []) ⟨hx, hb, hml, hown, hts⟩ (c_X2_meanOfPositive l dC dI Y (fun k => a (k + 8)) B_accounts B_balances B_balancesAtClosing B_entries B_debited B_credited B_amounts r4 hr5) (cwV 0 hts gX10_meanPositive_X2_meanOfPositive rfl rfl rfl (by decide +kernel) ⟨Nat.le_of_ble_eq_true rfl, Nat.le_of_ble_eq_true rfl⟩) hK hPc (va_recv hK hP (ci := 4) (q0 := 8) rfl rfl) rfl hl.1 rfl (Nat.le_of_ble_eq_true rfl) dX10_meanPositive_11 ⟨Nat.le_of_ble_eq_true rfl, Nat.le_of_ble_eq_true rfl⟩ ?_
    have e0 := wke1 hf
    subst e0
    refine W.widen (k := 1) (n := 6) (Nat.le_of_ble_eq_true rfl) (Nat.le_of_ble_eq_true rfl) ?_
    refine vx_ret ?_
    exact W.dret (v := r4) hx hb hr (fun t ht hW => ⟨r4, rfl, rfl, ht⟩) (fun q h => absurd h List.not_mem_nil) dX10_meanPositive_14
  · subst hf
    have hPc : va_P (dC, dI) vwCl (wX10n Y a L_hasSnapshot L_formError L_commandError T_count T_weights T_strengths T_heights T_wages T_nightsToHeal B_accounts B_balances B_balancesAtClosing B_entries B_debited B_credited B_amounts C_nights C_netWidth C_shows C_fallen) s.heap := hP
    refine wx_vvX (As := []) (rest := []) ⟨hx, hb, hml, hown, hts⟩ (c_X10_requirePositiveBalance l hl0 dC dI Y g a L_hasSnapshot L_formError L_commandError T_count T_weights T_strengths T_heights T_wages T_nightsToHeal B_accounts B_balances B_balancesAtClosing B_entries B_debited B_credited B_amounts C_nights C_netWidth C_shows C_fallen  (.inr E3) hr1) (cwV 0 hts gX10_meanPositive_X10_requirePositiveBalance rfl rfl rfl (by decide +kernel) ⟨Nat.le_of_ble_eq_true rfl, Nat.le_of_ble_eq_true rfl⟩) hK hPc hT hS (va_recv hK hP (ci := 10) (q0 := 0) rfl rfl) rfl hl.1 rfl (Nat.le_of_ble_eq_true rfl) dX10_meanPositive_1 ⟨Nat.le_of_ble_eq_true rfl, Nat.le_of_ble_eq_true rfl⟩ (fun H1 ce q9 hz hq hce hcv hcl => ?_)
    exact vx_out (fun x h => (htab x h).elim) hlocks hce hcv hcl (fun t ht hvm => ⟨rfl, by rw [ht]; exact hz, fun q h => by rw [ht]; exact hq q h⟩) (fun q h => absurd h List.not_mem_nil) (Nat.le_of_ble_eq_true rfl) (Nat.le_of_ble_eq_true rfl)
theorem lk_X10_meanPositiveBits_RX10_12 : Cond.fieldLink RX10 12 "CircusLedger" "now" "LCircusLedger$Circus;" ∈ wsX10_meanPositiveBits := by decide +kernel
theorem lk_X10_meanPositiveBits_RX10_74 : Cond.fieldLink RX10 74 "CircusLedger$Circus" "books" "LCircusLedger$Books;" ∈ wsX10_meanPositiveBits := by decide +kernel
theorem in_X10_meanPositiveBits_X10 : ∀ w ∈ u_ws RX10 TX10 9, w ∈ wsX10_meanPositiveBits := by decide +kernel
theorem in_X10_meanPositiveBits_X3 : ∀ w ∈ u_ws RX3 TX3 6, w ∈ wsX10_meanPositiveBits := by decide +kernel
def f_X10_meanPositiveBits (B_accounts : Int32) (B_balances : Nat → Int32) : Option ((Int64) ⊕ String) :=
  wkx (f_X10_requirePositiveBalance B_accounts B_balances) (fun r2 =>
  wkb1 (f_X2_meanOfPositive B_accounts B_balances) (fun r4 =>
  wkb1 (f_X1_of r4 1023 52) (fun r6 =>
  some (.inl (r6)))))
set_option maxHeartbeats 4000000 in
set_option maxRecDepth 100000 in
theorem c_X10_meanPositiveBits (l : Launch) (hl0 : l.stackTraces = false) (dC : Nat → ClassId) (dI : Nat → Nat → Nat) (Y : Nat → ClassId) (g : Nat → Nat → Nat) (a : Nat → Nat) (L_hasSnapshot : Int32) (L_formError : Int32) (L_commandError : Int32) (T_count : Int32) (T_weights : Nat → Int32) (T_strengths : Nat → Int32) (T_heights : Nat → Int32) (T_wages : Nat → Int32) (T_nightsToHeal : Nat → Int32) (B_accounts : Int32) (B_balances : Nat → Int32) (B_balancesAtClosing : Nat → Int32) (B_entries : Int32) (B_debited : Nat → Int32) (B_credited : Nat → Int32) (B_amounts : Nat → Int32) (C_nights : Int32) (C_netWidth : Int32) (C_shows : Int32) (C_fallen : Int32)  (out : Int64 ⊕ String) (hf : f_X10_meanPositiveBits B_accounts B_balances = some out) : vx_Met l yX10_meanPositiveBits wsX10_meanPositiveBits ({ frames := 9, cells := 1, slots := 6, locals := 140 } : Room) (va_Pc [.ref (a 0)] (wk_BT (dC, dI) Y g (wX10n Y a L_hasSnapshot L_formError L_commandError T_count T_weights T_strengths T_heights T_wages T_nightsToHeal B_accounts B_balances B_balancesAtClosing B_entries B_debited B_credited B_amounts C_nights C_netWidth C_shows C_fallen))) (wxQl out) (wxX out) 1 6 (fun _ => False) := by
  refine vx_ofW (cc := cX10_meanPositiveBits) (maxL := 1) (ret := (some .long)) (by decide) rfl ?_
  intro p e s m args below meth c s₁ B hml htab hv
  obtain ⟨rfl, ⟨hP, hK⟩, hT⟩ := hv
  have hx := B.exec
  have hb := B.bytes
  have hr := B.returns
  have hts := atoms_spec (ws := wsX10_meanPositiveBits) B.pre
  have hown : s.vm.findClass RX10 = some m.cls := findClass_of_methodNamed B.named
  have hlocks := B.notSynchronized
  have C0 : wk_C p s m _ meth c cX10_meanPositiveBits 1 (some .long) wsX10_meanPositiveBits RX10 := ⟨hx, hb, hml, hr, hlocks, hown, hts⟩
  have hP : va_P (dC, dI) vwCl [(a 0, .inr (10, [.ref (a 1), .ref (a 14), .ref (a 16), .int L_hasSnapshot, .ref (a 29), .ref (a 34), .int L_formError, .int L_commandError, .ref (a 38)])), (a 1, .inr (5, [.ref (a 2), .ref (a 8), .int C_nights, .int C_netWidth, .int C_shows, .int C_fallen])), (a 2, .inr (9, [.int T_count, .ref (a 3), .ref (a 4), .ref (a 5), .ref (a 6), .ref (a 7)])), (a 3, .inl (Y 0, 6, .inl T_weights)), (a 4, .inl (Y 0, 6, .inl T_strengths)), (a 5, .inl (Y 0, 6, .inl T_heights)), (a 6, .inl (Y 0, 6, .inl T_wages)), (a 7, .inl (Y 0, 6, .inl T_nightsToHeal)), (a 8, .inr (4, [.int B_accounts, .ref (a 9), .ref (a 10), .int B_entries, .ref (a 11), .ref (a 12), .ref (a 13)])), (a 9, .inl (Y 0, 11, .inl B_balances)), (a 10, .inl (Y 0, 11, .inl B_balancesAtClosing)), (a 11, .inl (Y 0, 60, .inl B_debited)), (a 12, .inl (Y 0, 60, .inl B_credited)), (a 13, .inl (Y 0, 60, .inl B_amounts))] s.heap := hP
  have hS : va_S (fun _ : Nat => False) s.heap s.heap [] := va_S.rf
  have hl := lv_entry ([.ref (a 0)]) (n := 1) (Nat.le_of_ble_eq_true rfl)
  rw [lg_entry_eq]
  generalize (lg_sl ([.ref (a 0)]) ++ List.replicate (1 - (lg_sl ([.ref (a 0)])).length) Slot.unset).toArray = ls at hl ⊢
  have hl : lv_has ls 1 [(0, .ref (a 0))] := hl
  rw [f_X10_meanPositiveBits] at hf
  refine lv_aload_n hx hb dX10_meanPositiveBits_0 rfl (lv_at hl 0 rfl) ?_
  rcases wkx_s hf with ⟨r2, hr1, hf⟩ | ⟨E3, hr1, hf⟩
  · have hPc : va_P (dC, dI) vwCl (wX10n Y a L_hasSnapshot L_formError L_commandError T_count T_weights T_strengths T_heights T_wages T_nightsToHeal B_accounts B_balances B_balancesAtClosing B_entries B_debited B_credited B_amounts C_nights C_netWidth C_shows C_fallen) s.heap := hP
    refine wx_vvN (As := []) (rest := []) ⟨hx, hb, hml, hown, hts⟩ (c_X10_requirePositiveBalance l hl0 dC dI Y g a L_hasSnapshot L_formError L_commandError T_count T_weights T_strengths T_heights T_wages T_nightsToHeal B_accounts B_balances B_balancesAtClosing B_entries B_debited B_credited B_amounts C_nights C_netWidth C_shows C_fallen  (.inl r2) hr1) (cwV 0 hts gX10_meanPositiveBits_X10_requirePositiveBalance rfl rfl rfl (by decide +kernel) ⟨Nat.le_of_ble_eq_true rfl, Nat.le_of_ble_eq_true rfl⟩) hK hPc hT hS (va_recv hK hP (ci := 10) (q0 := 0) rfl rfl) rfl hl.1 rfl (Nat.le_of_ble_eq_true rfl) dX10_meanPositiveBits_1 ⟨Nat.le_of_ble_eq_true rfl, Nat.le_of_ble_eq_true rfl⟩ ?_
    refine lv_aload_n hx hb dX10_meanPositiveBits_4 rfl (lv_at hl 0 rfl) ?_
    refine va_get (D := (dC, dI)) (ci := 10) (v := .ref (a 1)) (C := RX10) (T := TX10) (N := 9) hx hb hts in_X10_meanPositiveBits_X10 hown hK hP 0 rfl rfl 0 (by decide) (hts _ lk_X10_meanPositiveBits_RX10_12) (fun _ h9 => h9) rfl dX10_meanPositiveBits_5 ?_
    refine va_get (D := (dC, dI)) (ci := 5) (v := .ref (a 8)) (C := RX3) (T := TX3) (N := 6) hx hb hts in_X10_meanPositiveBits_X3 hown hK hP 1 rfl rfl 1 (by decide) (hts _ lk_X10_meanPositiveBits_RX10_74) (fun _ h9 => h9) rfl dX10_meanPositiveBits_8 ?_
    obtain ⟨r4, hr5, hf⟩ := wkb1_s hf
    have hPc := hP.sub (ws' := (wX2 Y (fun k => a (k + 8)) B_accounts B_balances B_balancesAtClosing B_entries B_debited B_credited B_amounts)) [8, 9, 10, 11, 12, 13] rfl
    refine wk_vd (As := []) (rest := []) ⟨hx, hb, hml, hown, hts⟩ (c_X2_meanOfPositive l dC dI Y (fun k => a (k + 8)) B_accounts B_balances B_balancesAtClosing B_entries B_debited B_credited B_amounts r4 hr5) (cwV 0 hts gX10_meanPositiveBits_X2_meanOfPositive rfl rfl rfl (by decide +kernel) ⟨Nat.le_of_ble_eq_true rfl, Nat.le_of_ble_eq_true rfl⟩) hK hPc (va_recv hK hP (ci := 4) (q0 := 8) rfl rfl) rfl hl.1 rfl (Nat.le_of_ble_eq_true rfl) dX10_meanPositiveBits_11 ⟨Nat.le_of_ble_eq_true rfl, Nat.le_of_ble_eq_true rfl⟩ ?_
    refine lv_sipush (v := 1023) hx hb dX10_meanPositiveBits_14 (by decide) ?_
    refine lv_bipush (v := 52) hx hb dX10_meanPositiveBits_17 (by decide) ?_
    obtain ⟨r6, hr7, hf⟩ := wkb1_s hf
    have hPc := hP.sub (ws' := ([] : va_W)) [] rfl
    refine wk_sl (As := [.double r4, .int 1023, .int 52]) (rest := []) ⟨hx, hb, hml, hown, hts⟩ (c_X1_of l dC dI Y r4 1023 52 r6 hr7) (va_cwS 3 hts gX10_meanPositiveBits_X1_of rfl rfl rfl (by decide +kernel) ⟨Nat.le_of_ble_eq_true rfl, Nat.le_of_ble_eq_true rfl⟩) hK hPc rfl hl.1 rfl (Nat.le_of_ble_eq_true rfl) dX10_meanPositiveBits_19 ⟨Nat.le_of_ble_eq_true rfl, Nat.le_of_ble_eq_true rfl⟩ ?_
    have e0 := wke1 hf
    subst e0
    refine W.widen (k := 1) (n := 6) (Nat.le_of_ble_eq_true rfl) (Nat.le_of_ble_eq_true rfl) ?_
    refine vx_ret ?_
    exact W.lret (v := r6) hx hb hr (fun t ht hW => ⟨r6, rfl, rfl, ht⟩) (fun q h => absurd h List.not_mem_nil) dX10_meanPositiveBits_22
  · subst hf
    have hPc : va_P (dC, dI) vwCl (wX10n Y a L_hasSnapshot L_formError L_commandError T_count T_weights T_strengths T_heights T_wages T_nightsToHeal B_accounts B_balances B_balancesAtClosing B_entries B_debited B_credited B_amounts C_nights C_netWidth C_shows C_fallen) s.heap := hP
    refine wx_vvX (As := []) (rest := []) ⟨hx, hb, hml, hown, hts⟩ (c_X10_requirePositiveBalance l hl0 dC dI Y g a L_hasSnapshot L_formError L_commandError T_count T_weights T_strengths T_heights T_wages T_nightsToHeal B_accounts B_balances B_balancesAtClosing B_entries B_debited B_credited B_amounts C_nights C_netWidth C_shows C_fallen  (.inr E3) hr1) (cwV 0 hts gX10_meanPositiveBits_X10_requirePositiveBalance rfl rfl rfl (by decide +kernel) ⟨Nat.le_of_ble_eq_true rfl, Nat.le_of_ble_eq_true rfl⟩) hK hPc hT hS (va_recv hK hP (ci := 10) (q0 := 0) rfl rfl) rfl hl.1 rfl (Nat.le_of_ble_eq_true rfl) dX10_meanPositiveBits_1 ⟨Nat.le_of_ble_eq_true rfl, Nat.le_of_ble_eq_true rfl⟩ (fun H1 ce q9 hz hq hce hcv hcl => ?_)
    exact vx_out (fun x h => (htab x h).elim) hlocks hce hcv hcl (fun t ht hvm => ⟨rfl, by rw [ht]; exact hz, fun q h => by rw [ht]; exact hq q h⟩) (fun q h => absurd h List.not_mem_nil) (Nat.le_of_ble_eq_true rfl) (Nat.le_of_ble_eq_true rfl)
theorem lk_X10_errorPosition_RX10_40 : Cond.fieldLink RX10 40 "CircusLedger" "formError" "I" ∈ wsX10_errorPosition := by decide +kernel
theorem in_X10_errorPosition_X10 : ∀ w ∈ u_ws RX10 TX10 9, w ∈ wsX10_errorPosition := by decide +kernel
def f_X10_errorPosition (L_formError : Int32) : Option ((Int32) ⊕ String) :=
  wkx (f_X10_requireFound L_formError) (fun r1 =>
  some (.inl (r1)))
set_option maxHeartbeats 4000000 in
set_option maxRecDepth 100000 in
theorem c_X10_errorPosition (l : Launch) (hl0 : l.stackTraces = false) (dC : Nat → ClassId) (dI : Nat → Nat → Nat) (Y : Nat → ClassId) (g : Nat → Nat → Nat) (a : Nat → Nat) (L_hasSnapshot : Int32) (L_formError : Int32) (L_commandError : Int32) (T_count : Int32) (T_weights : Nat → Int32) (T_strengths : Nat → Int32) (T_heights : Nat → Int32) (T_wages : Nat → Int32) (T_nightsToHeal : Nat → Int32) (B_accounts : Int32) (B_balances : Nat → Int32) (B_balancesAtClosing : Nat → Int32) (B_entries : Int32) (B_debited : Nat → Int32) (B_credited : Nat → Int32) (B_amounts : Nat → Int32) (C_nights : Int32) (C_netWidth : Int32) (C_shows : Int32) (C_fallen : Int32)  (out : Int32 ⊕ String) (hf : f_X10_errorPosition L_formError = some out) : vx_Met l yX10_errorPosition wsX10_errorPosition ({ frames := 9, cells := 1, slots := 6, locals := 140 } : Room) (va_Pc [.ref (a 0)] (wk_BT (dC, dI) Y g (wX10n Y a L_hasSnapshot L_formError L_commandError T_count T_weights T_strengths T_heights T_wages T_nightsToHeal B_accounts B_balances B_balancesAtClosing B_entries B_debited B_credited B_amounts C_nights C_netWidth C_shows C_fallen))) (wxQi out) (wxX out) 1 6 (fun _ => False) := by
  refine vx_ofW (cc := cX10_errorPosition) (maxL := 1) (ret := (some .int)) (by decide) rfl ?_
  intro p e s m args below meth c s₁ B hml htab hv
  obtain ⟨rfl, ⟨hP, hK⟩, hT⟩ := hv
  have hx := B.exec
  have hb := B.bytes
  have hr := B.returns
  have hts := atoms_spec (ws := wsX10_errorPosition) B.pre
  have hown : s.vm.findClass RX10 = some m.cls := findClass_of_methodNamed B.named
  have hlocks := B.notSynchronized
  have C0 : wk_C p s m _ meth c cX10_errorPosition 1 (some .int) wsX10_errorPosition RX10 := ⟨hx, hb, hml, hr, hlocks, hown, hts⟩
  have hP : va_P (dC, dI) vwCl [(a 0, .inr (10, [.ref (a 1), .ref (a 14), .ref (a 16), .int L_hasSnapshot, .ref (a 29), .ref (a 34), .int L_formError, .int L_commandError, .ref (a 38)])), (a 1, .inr (5, [.ref (a 2), .ref (a 8), .int C_nights, .int C_netWidth, .int C_shows, .int C_fallen])), (a 2, .inr (9, [.int T_count, .ref (a 3), .ref (a 4), .ref (a 5), .ref (a 6), .ref (a 7)])), (a 3, .inl (Y 0, 6, .inl T_weights)), (a 4, .inl (Y 0, 6, .inl T_strengths)), (a 5, .inl (Y 0, 6, .inl T_heights)), (a 6, .inl (Y 0, 6, .inl T_wages)), (a 7, .inl (Y 0, 6, .inl T_nightsToHeal)), (a 8, .inr (4, [.int B_accounts, .ref (a 9), .ref (a 10), .int B_entries, .ref (a 11), .ref (a 12), .ref (a 13)])), (a 9, .inl (Y 0, 11, .inl B_balances)), (a 10, .inl (Y 0, 11, .inl B_balancesAtClosing)), (a 11, .inl (Y 0, 60, .inl B_debited)), (a 12, .inl (Y 0, 60, .inl B_credited)), (a 13, .inl (Y 0, 60, .inl B_amounts))] s.heap := hP
  have hS : va_S (fun _ : Nat => False) s.heap s.heap [] := va_S.rf
  have hl := lv_entry ([.ref (a 0)]) (n := 1) (Nat.le_of_ble_eq_true rfl)
  rw [lg_entry_eq]
  generalize (lg_sl ([.ref (a 0)]) ++ List.replicate (1 - (lg_sl ([.ref (a 0)])).length) Slot.unset).toArray = ls at hl ⊢
  have hl : lv_has ls 1 [(0, .ref (a 0))] := hl
  rw [f_X10_errorPosition] at hf
  refine lv_aload_n hx hb dX10_errorPosition_0 rfl (lv_at hl 0 rfl) ?_
  refine va_get (D := (dC, dI)) (ci := 10) (v := .int L_formError) (C := RX10) (T := TX10) (N := 9) hx hb hts in_X10_errorPosition_X10 hown hK hP 0 rfl rfl 6 (by decide) (hts _ lk_X10_errorPosition_RX10_40) (fun _ h9 => h9) rfl dX10_errorPosition_1 ?_
  rcases wkx_s hf with ⟨r1, hr2, hf⟩ | ⟨E3, hr2, hf⟩
  · have hPc := hP.sub (ws' := ([] : va_W)) [] rfl
    refine wx_siN (As := [.int L_formError]) (rest := []) ⟨hx, hb, hml, hown, hts⟩ (c_X10_requireFound l hl0 dC dI Y g   L_formError (.inl r1) hr2) (va_cwS 1 hts gX10_errorPosition_X10_requireFound rfl rfl rfl (by decide +kernel) ⟨Nat.le_of_ble_eq_true rfl, Nat.le_of_ble_eq_true rfl⟩) hK hPc hT hS rfl hl.1 rfl (Nat.le_of_ble_eq_true rfl) dX10_errorPosition_4 ⟨Nat.le_of_ble_eq_true rfl, Nat.le_of_ble_eq_true rfl⟩ ?_
    have e0 := wke1 hf
    subst e0
    refine W.widen (k := 1) (n := 6) (Nat.le_of_ble_eq_true rfl) (Nat.le_of_ble_eq_true rfl) ?_
    refine vx_ret ?_
    exact W.iret (v := r1) hx hb hr (fun t ht hW => ⟨r1, rfl, rfl, ht⟩) (fun q h => absurd h List.not_mem_nil) dX10_errorPosition_7
  · subst hf
    have hPc := hP.sub (ws' := ([] : va_W)) [] rfl
    refine wx_siX (As := [.int L_formError]) (rest := []) ⟨hx, hb, hml, hown, hts⟩ (c_X10_requireFound l hl0 dC dI Y g   L_formError (.inr E3) hr2) (va_cwS 1 hts gX10_errorPosition_X10_requireFound rfl rfl rfl (by decide +kernel) ⟨Nat.le_of_ble_eq_true rfl, Nat.le_of_ble_eq_true rfl⟩) hK hPc hT hS rfl hl.1 rfl (Nat.le_of_ble_eq_true rfl) dX10_errorPosition_4 ⟨Nat.le_of_ble_eq_true rfl, Nat.le_of_ble_eq_true rfl⟩ (fun H1 ce q9 hz hq hce hcv hcl => ?_)
    exact vx_out (fun x h => (htab x h).elim) hlocks hce hcv hcl (fun t ht hvm => ⟨rfl, by rw [ht]; exact hz, fun q h => by rw [ht]; exact hq q h⟩) (fun q h => absurd h List.not_mem_nil) (Nat.le_of_ble_eq_true rfl) (Nat.le_of_ble_eq_true rfl)
theorem lk_X10_failedCommand_RX10_44 : Cond.fieldLink RX10 44 "CircusLedger" "commandError" "I" ∈ wsX10_failedCommand := by decide +kernel
theorem in_X10_failedCommand_X10 : ∀ w ∈ u_ws RX10 TX10 9, w ∈ wsX10_failedCommand := by decide +kernel
def f_X10_failedCommand (L_commandError : Int32) : Option ((Int32) ⊕ String) :=
  wkx (f_X10_requireFound L_commandError) (fun r1 =>
  some (.inl (r1)))
set_option maxHeartbeats 4000000 in
set_option maxRecDepth 100000 in
theorem c_X10_failedCommand (l : Launch) (hl0 : l.stackTraces = false) (dC : Nat → ClassId) (dI : Nat → Nat → Nat) (Y : Nat → ClassId) (g : Nat → Nat → Nat) (a : Nat → Nat) (L_hasSnapshot : Int32) (L_formError : Int32) (L_commandError : Int32) (T_count : Int32) (T_weights : Nat → Int32) (T_strengths : Nat → Int32) (T_heights : Nat → Int32) (T_wages : Nat → Int32) (T_nightsToHeal : Nat → Int32) (B_accounts : Int32) (B_balances : Nat → Int32) (B_balancesAtClosing : Nat → Int32) (B_entries : Int32) (B_debited : Nat → Int32) (B_credited : Nat → Int32) (B_amounts : Nat → Int32) (C_nights : Int32) (C_netWidth : Int32) (C_shows : Int32) (C_fallen : Int32)  (out : Int32 ⊕ String) (hf : f_X10_failedCommand L_commandError = some out) : vx_Met l yX10_failedCommand wsX10_failedCommand ({ frames := 9, cells := 1, slots := 6, locals := 140 } : Room) (va_Pc [.ref (a 0)] (wk_BT (dC, dI) Y g (wX10n Y a L_hasSnapshot L_formError L_commandError T_count T_weights T_strengths T_heights T_wages T_nightsToHeal B_accounts B_balances B_balancesAtClosing B_entries B_debited B_credited B_amounts C_nights C_netWidth C_shows C_fallen))) (wxQi out) (wxX out) 1 6 (fun _ => False) := by
  refine vx_ofW (cc := cX10_failedCommand) (maxL := 1) (ret := (some .int)) (by decide) rfl ?_
  intro p e s m args below meth c s₁ B hml htab hv
  obtain ⟨rfl, ⟨hP, hK⟩, hT⟩ := hv
  have hx := B.exec
  have hb := B.bytes
  have hr := B.returns
  have hts := atoms_spec (ws := wsX10_failedCommand) B.pre
  have hown : s.vm.findClass RX10 = some m.cls := findClass_of_methodNamed B.named
  have hlocks := B.notSynchronized
  have C0 : wk_C p s m _ meth c cX10_failedCommand 1 (some .int) wsX10_failedCommand RX10 := ⟨hx, hb, hml, hr, hlocks, hown, hts⟩
  have hP : va_P (dC, dI) vwCl [(a 0, .inr (10, [.ref (a 1), .ref (a 14), .ref (a 16), .int L_hasSnapshot, .ref (a 29), .ref (a 34), .int L_formError, .int L_commandError, .ref (a 38)])), (a 1, .inr (5, [.ref (a 2), .ref (a 8), .int C_nights, .int C_netWidth, .int C_shows, .int C_fallen])), (a 2, .inr (9, [.int T_count, .ref (a 3), .ref (a 4), .ref (a 5), .ref (a 6), .ref (a 7)])), (a 3, .inl (Y 0, 6, .inl T_weights)), (a 4, .inl (Y 0, 6, .inl T_strengths)), (a 5, .inl (Y 0, 6, .inl T_heights)), (a 6, .inl (Y 0, 6, .inl T_wages)), (a 7, .inl (Y 0, 6, .inl T_nightsToHeal)), (a 8, .inr (4, [.int B_accounts, .ref (a 9), .ref (a 10), .int B_entries, .ref (a 11), .ref (a 12), .ref (a 13)])), (a 9, .inl (Y 0, 11, .inl B_balances)), (a 10, .inl (Y 0, 11, .inl B_balancesAtClosing)), (a 11, .inl (Y 0, 60, .inl B_debited)), (a 12, .inl (Y 0, 60, .inl B_credited)), (a 13, .inl (Y 0, 60, .inl B_amounts))] s.heap := hP
  have hS : va_S (fun _ : Nat => False) s.heap s.heap [] := va_S.rf
  have hl := lv_entry ([.ref (a 0)]) (n := 1) (Nat.le_of_ble_eq_true rfl)
  rw [lg_entry_eq]
  generalize (lg_sl ([.ref (a 0)]) ++ List.replicate (1 - (lg_sl ([.ref (a 0)])).length) Slot.unset).toArray = ls at hl ⊢
  have hl : lv_has ls 1 [(0, .ref (a 0))] := hl
  rw [f_X10_failedCommand] at hf
  refine lv_aload_n hx hb dX10_failedCommand_0 rfl (lv_at hl 0 rfl) ?_
  refine va_get (D := (dC, dI)) (ci := 10) (v := .int L_commandError) (C := RX10) (T := TX10) (N := 9) hx hb hts in_X10_failedCommand_X10 hown hK hP 0 rfl rfl 7 (by decide) (hts _ lk_X10_failedCommand_RX10_44) (fun _ h9 => h9) rfl dX10_failedCommand_1 ?_
  rcases wkx_s hf with ⟨r1, hr2, hf⟩ | ⟨E3, hr2, hf⟩
  · have hPc := hP.sub (ws' := ([] : va_W)) [] rfl
    refine wx_siN (As := [.int L_commandError]) (rest := []) ⟨hx, hb, hml, hown, hts⟩ (c_X10_requireFound l hl0 dC dI Y g   L_commandError (.inl r1) hr2) (va_cwS 1 hts gX10_failedCommand_X10_requireFound rfl rfl rfl (by decide +kernel) ⟨Nat.le_of_ble_eq_true rfl, Nat.le_of_ble_eq_true rfl⟩) hK hPc hT hS rfl hl.1 rfl (Nat.le_of_ble_eq_true rfl) dX10_failedCommand_4 ⟨Nat.le_of_ble_eq_true rfl, Nat.le_of_ble_eq_true rfl⟩ ?_
    have e0 := wke1 hf
    subst e0
    refine W.widen (k := 1) (n := 6) (Nat.le_of_ble_eq_true rfl) (Nat.le_of_ble_eq_true rfl) ?_
    refine vx_ret ?_
    exact W.iret (v := r1) hx hb hr (fun t ht hW => ⟨r1, rfl, rfl, ht⟩) (fun q h => absurd h List.not_mem_nil) dX10_failedCommand_7
  · subst hf
    have hPc := hP.sub (ws' := ([] : va_W)) [] rfl
    refine wx_siX (As := [.int L_commandError]) (rest := []) ⟨hx, hb, hml, hown, hts⟩ (c_X10_requireFound l hl0 dC dI Y g   L_commandError (.inr E3) hr2) (va_cwS 1 hts gX10_failedCommand_X10_requireFound rfl rfl rfl (by decide +kernel) ⟨Nat.le_of_ble_eq_true rfl, Nat.le_of_ble_eq_true rfl⟩) hK hPc hT hS rfl hl.1 rfl (Nat.le_of_ble_eq_true rfl) dX10_failedCommand_4 ⟨Nat.le_of_ble_eq_true rfl, Nat.le_of_ble_eq_true rfl⟩ (fun H1 ce q9 hz hq hce hcv hcl => ?_)
    exact vx_out (fun x h => (htab x h).elim) hlocks hce hcv hcl (fun t ht hvm => ⟨rfl, by rw [ht]; exact hz, fun q h => by rw [ht]; exact hq q h⟩) (fun q h => absurd h List.not_mem_nil) (Nat.le_of_ble_eq_true rfl) (Nat.le_of_ble_eq_true rfl)
