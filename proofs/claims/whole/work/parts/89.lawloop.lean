section LWC201
variable {p : Program} {l : Launch} {e : Env} {s : State} {m : MethodId} {args : Array Value} {below : List Frame} {meth : Method} {c : Code} {Q : State → Prop} {A : Nat → Prop} {dC : Nat → ClassId} {dI : Nat → Nat → Nat} {Y : Nat → ClassId} {g : Nat → Nat → Nat} {b L : Nat} {xs : Nat → Int32}
set_option maxHeartbeats 8000000 in
set_option maxRecDepth 100000 in
theorem law_loop (C0 : LawC p l s m args c A dC dI Y g b L xs) {h : Nat → Nat → Nat} {a d : Nat → Nat} {q1 q2 : Nat} (hL : L ≤ 2560)
    (kend : ∀ (H : Heap) (locs : List Loc) (ls : Array Slot) (C S : Nat), va_S A s.heap H locs → C ≤ room_1.cells → S ≤ room_1.slots → W p l e room_1 s m args below meth c H locs C S Q (F0 m 2870 ls [])) :
    ∀ (nn t : Nat) (C S : Nat) (L_hasSnapshot : Int32) (L_formError : Int32) (L_commandError : Int32) (T_count : Int32) (T_weights : Nat → Int32) (T_strengths : Nat → Int32) (T_heights : Nat → Int32) (T_wages : Nat → Int32) (T_nightsToHeal : Nat → Int32) (B_accounts : Int32) (B_balances : Nat → Int32) (B_balancesAtClosing : Nat → Int32) (B_entries : Int32) (B_debited : Nat → Int32) (B_credited : Nat → Int32) (B_amounts : Nat → Int32) (C_nights : Int32) (C_netWidth : Int32) (C_shows : Int32) (C_fallen : Int32) (H_c : Nat → sC) (H_next : Int32) (H_count : Int32) (ST_count : Int32) (ST_weights : Nat → Int32) (ST_strengths : Nat → Int32) (ST_heights : Nat → Int32) (ST_wages : Nat → Int32) (ST_nightsToHeal : Nat → Int32) (SB_accounts : Int32) (SB_balances : Nat → Int32) (SB_balancesAtClosing : Nat → Int32) (SB_entries : Int32) (SB_debited : Nat → Int32) (SB_credited : Nat → Int32) (SB_amounts : Nat → Int32) (SC_nights : Int32) (SC_netWidth : Int32) (SC_shows : Int32) (SC_fallen : Int32) (E_count : Int32) (E_open : Nat → Int32) (E_sums : Nat → Int32) (E_groups : Nat → Int32) (E_transfers : Nat → Int32) (Z_v : Nat) (Z_m : Nat) (Z_ml : Int32) (Z_n : Int32) (Z_f : Nat → Int32) (S_position : Int32) (S_count : Int32) (S_cm : Nat → Option Nat) (S_arguments : Nat → Int32) (S_argumentCount : Int32) (O_Z_v : Nat) (O_Z_m : Nat) (O_Z_ml : Int32) (O_Z_n : Int32) (O_Z_f : Nat → Int32) (M_g : Nat → Int32) (M_kept : Nat → Int32) (M_saved : Nat → Int32) (M_before : Nat → Int32) (M_isSaved : Int32) (M_changes : Int32) (M_isWithin : Int32) (M_code : Int32) (M_input : Nat → Int32) (M_length : Int32) (M_fault : Int32) (M_failed : Int32) (M_signs : Nat → Int32) (M_signMany : Int32) (M_column : Nat → Int32) (M_loads : Nat → Int32) (M_many : Int32) (M_sums : Nat → Int32) (M_groups : Nat → Int32) (M_at : Int32) (M_told : Nat → Int32) (M_toldMany : Int32) (o1 : Nat → Int64) (o2 : Nat → UInt64), t + nn = 513 → C + 60 * nn ≤ room_1.cells → S + 8000 * nn ≤ room_1.slots → RelS (239976 * t) L_hasSnapshot L_formError L_commandError T_count T_weights T_strengths T_heights T_wages T_nightsToHeal B_accounts B_balances B_balancesAtClosing B_entries B_debited B_credited B_amounts C_nights C_netWidth C_shows C_fallen H_c H_next H_count ST_count ST_weights ST_strengths ST_heights ST_wages ST_nightsToHeal SB_accounts SB_balances SB_balancesAtClosing SB_entries SB_debited SB_credited SB_amounts SC_nights SC_netWidth SC_shows SC_fallen E_count E_open E_sums E_groups E_transfers Z_v Z_m Z_ml Z_n Z_f S_position S_count S_cm S_arguments S_argumentCount O_Z_v O_Z_m O_Z_ml O_Z_n O_Z_f M_g M_kept M_saved M_before M_isSaved M_changes M_isWithin M_code M_input M_length M_fault M_failed M_signs M_signMany M_column M_loads M_many M_sums M_groups M_at M_told M_toldMany o1 o2 → ∀ (H : Heap) (locs : List Loc) (ls : Array Slot), va_P (dC, dI) vwCl (wLaw Y a g h d q1 q2 L_hasSnapshot L_formError L_commandError T_count T_weights T_strengths T_heights T_wages T_nightsToHeal B_accounts B_balances B_balancesAtClosing B_entries B_debited B_credited B_amounts C_nights C_netWidth C_shows C_fallen H_c H_next H_count ST_count ST_weights ST_strengths ST_heights ST_wages ST_nightsToHeal SB_accounts SB_balances SB_balancesAtClosing SB_entries SB_debited SB_credited SB_amounts SC_nights SC_netWidth SC_shows SC_fallen E_count E_open E_sums E_groups E_transfers Z_v Z_m Z_ml Z_n Z_f S_position S_count S_cm S_arguments S_argumentCount O_Z_v O_Z_m O_Z_ml O_Z_n O_Z_f M_g M_kept M_saved M_before M_isSaved M_changes M_isWithin M_code M_input M_length M_fault M_failed M_signs M_signMany M_column M_loads M_many M_sums M_groups M_at M_told M_toldMany o1 o2) H → va_D A (wLaw Y a g h d q1 q2 L_hasSnapshot L_formError L_commandError T_count T_weights T_strengths T_heights T_wages T_nightsToHeal B_accounts B_balances B_balancesAtClosing B_entries B_debited B_credited B_amounts C_nights C_netWidth C_shows C_fallen H_c H_next H_count ST_count ST_weights ST_strengths ST_heights ST_wages ST_nightsToHeal SB_accounts SB_balances SB_balancesAtClosing SB_entries SB_debited SB_credited SB_amounts SC_nights SC_netWidth SC_shows SC_fallen E_count E_open E_sums E_groups E_transfers Z_v Z_m Z_ml Z_n Z_f S_position S_count S_cm S_arguments S_argumentCount O_Z_v O_Z_m O_Z_ml O_Z_n O_Z_f M_g M_kept M_saved M_before M_isSaved M_changes M_isWithin M_code M_input M_length M_fault M_failed M_signs M_signMany M_column M_loads M_many M_sums M_groups M_at M_told M_toldMany o1 o2) → va_S A s.heap H locs → lv_has ls 9 [(5, .int (nI (5 * t))), (0, .ref b), (1, .ref (a 0)), (2, .ref (d 0)), (3, .ref q1), (4, .ref q2)] → W p l e room_1 s m args below meth c H locs C S Q (F0 m 28 ls []) := by
  have C1 := C0
  obtain ⟨hx, hb, hml, hown, hts, hl0, hK, hT, hN, hA, hbA, hbl, hX⟩ := C1
  intro nn
  induction nn with
  | zero =>
    intro t C S L_hasSnapshot L_formError L_commandError T_count T_weights T_strengths T_heights T_wages T_nightsToHeal B_accounts B_balances B_balancesAtClosing B_entries B_debited B_credited B_amounts C_nights C_netWidth C_shows C_fallen H_c H_next H_count ST_count ST_weights ST_strengths ST_heights ST_wages ST_nightsToHeal SB_accounts SB_balances SB_balancesAtClosing SB_entries SB_debited SB_credited SB_amounts SC_nights SC_netWidth SC_shows SC_fallen E_count E_open E_sums E_groups E_transfers Z_v Z_m Z_ml Z_n Z_f S_position S_count S_cm S_arguments S_argumentCount O_Z_v O_Z_m O_Z_ml O_Z_n O_Z_f M_g M_kept M_saved M_before M_isSaved M_changes M_isWithin M_code M_input M_length M_fault M_failed M_signs M_signMany M_column M_loads M_many M_sums M_groups M_at M_told M_toldMany o1 o2 ht hC hSl hR H locs ls hP hD hS hl
    refine lv_iload hx hb dL_law_28 (lv_at hl 0 rfl) ?_
    refine lv_aload_n hx hb dL_law_30 rfl (lv_at hl 1 rfl) ?_
    refine va_slen hx hb hX hbl hbA hS dL_law_31 ?_
    refine lv_iconst (v := 5) hx hb dL_law_32 (by decide) ?_
    refine lv_isub hx hb dL_law_33 ?_
    refine lv_icmp_gt (tgt := 2870) hx hb dL_law_34 (by decide) (fun _ => ?_) (fun q => absurd ((loop_c hL (by omega)).mpr (by omega)) q)
    exact kend H locs ls C S hS (by omega) (by omega)
  | succ nn ih =>
    intro t C S L_hasSnapshot L_formError L_commandError T_count T_weights T_strengths T_heights T_wages T_nightsToHeal B_accounts B_balances B_balancesAtClosing B_entries B_debited B_credited B_amounts C_nights C_netWidth C_shows C_fallen H_c H_next H_count ST_count ST_weights ST_strengths ST_heights ST_wages ST_nightsToHeal SB_accounts SB_balances SB_balancesAtClosing SB_entries SB_debited SB_credited SB_amounts SC_nights SC_netWidth SC_shows SC_fallen E_count E_open E_sums E_groups E_transfers Z_v Z_m Z_ml Z_n Z_f S_position S_count S_cm S_arguments S_argumentCount O_Z_v O_Z_m O_Z_ml O_Z_n O_Z_f M_g M_kept M_saved M_before M_isSaved M_changes M_isWithin M_code M_input M_length M_fault M_failed M_signs M_signMany M_column M_loads M_many M_sums M_groups M_at M_told M_toldMany o1 o2 ht hC hSl hR H locs ls hP hD hS hl
    refine lv_iload hx hb dL_law_28 (lv_at hl 0 rfl) ?_
    refine lv_aload_n hx hb dL_law_30 rfl (lv_at hl 1 rfl) ?_
    refine va_slen hx hb hX hbl hbA hS dL_law_31 ?_
    refine lv_iconst (v := 5) hx hb dL_law_32 (by decide) ?_
    refine lv_isub hx hb dL_law_33 ?_
    refine lv_icmp_gt (tgt := 2870) hx hb dL_law_34 (by decide) (fun _ => ?_) (fun q => ?_)
    · exact kend H locs ls C S hS (by omega) (by omega)
    have hlt : ¬ L < 5 * t + 5 := fun h9 => q ((loop_c hL (by omega)).mpr h9)
    refine lv_aload_n hx hb dL_law_37 rfl (lv_at hl 1 rfl) ?_
    refine lv_iload hx hb dL_law_38 (lv_at hl 0 rfl) ?_
    refine va_sld hx hb hX hbl hbA hS (vp_in_nI (by omega) (by omega)) dL_law_40 ?_
    refine lv_bipush (v := 63) hx hb dL_law_41 (by decide) ?_
    refine lv_iand hx hb dL_law_43 ?_
    have e5 : nI (5 * t) + 5 = nI (5 * (t + 1)) := nI_add (5 * t) 5
    have ih' : LIH p l e s m args below meth c Q A dC dI Y g b h a d q1 q2 (239976 * t + 239976) (nI (5 * t) + 5) (C + 60) (S + 8000) := by
      intro L_hasSnapshot L_formError L_commandError T_count T_weights T_strengths T_heights T_wages T_nightsToHeal B_accounts B_balances B_balancesAtClosing B_entries B_debited B_credited B_amounts C_nights C_netWidth C_shows C_fallen H_c H_next H_count ST_count ST_weights ST_strengths ST_heights ST_wages ST_nightsToHeal SB_accounts SB_balances SB_balancesAtClosing SB_entries SB_debited SB_credited SB_amounts SC_nights SC_netWidth SC_shows SC_fallen E_count E_open E_sums E_groups E_transfers Z_v Z_m Z_ml Z_n Z_f S_position S_count S_cm S_arguments S_argumentCount O_Z_v O_Z_m O_Z_ml O_Z_n O_Z_f M_g M_kept M_saved M_before M_isSaved M_changes M_isWithin M_code M_input M_length M_fault M_failed M_signs M_signMany M_column M_loads M_many M_sums M_groups M_at M_told M_toldMany o1 o2 hR' H locs ls hP hD hS hl
      rw [e5] at hl
      exact ih (t + 1) (C + 60) (S + 8000) L_hasSnapshot L_formError L_commandError T_count T_weights T_strengths T_heights T_wages T_nightsToHeal B_accounts B_balances B_balancesAtClosing B_entries B_debited B_credited B_amounts C_nights C_netWidth C_shows C_fallen H_c H_next H_count ST_count ST_weights ST_strengths ST_heights ST_wages ST_nightsToHeal SB_accounts SB_balances SB_balancesAtClosing SB_entries SB_debited SB_credited SB_amounts SC_nights SC_netWidth SC_shows SC_fallen E_count E_open E_sums E_groups E_transfers Z_v Z_m Z_ml Z_n Z_f S_position S_count S_cm S_arguments S_argumentCount O_Z_v O_Z_m O_Z_ml O_Z_n O_Z_f M_g M_kept M_saved M_before M_isSaved M_changes M_isWithin M_code M_input M_length M_fault M_failed M_signs M_signMany M_column M_loads M_many M_sums M_groups M_at M_told M_toldMany o1 o2 (by omega) (by omega) (by omega) (by rw [show 239976 * (t + 1) = 239976 * t + 239976 by omega]; exact hR') H locs ls hP hD hS hl
    have hB : 239976 * t + 239976 < 2 ^ 30 := by omega
    have hv1 : vp_in (nI (5 * t) + 1) L := by rw [show nI (5 * t) + 1 = nI (5 * t + 1) from nI_add (5 * t) 1]; exact vp_in_nI (by omega) (by omega)
    have hv2 : vp_in (nI (5 * t) + 2) L := by rw [show nI (5 * t) + 2 = nI (5 * t + 2) from nI_add (5 * t) 2]; exact vp_in_nI (by omega) (by omega)
    have hv3 : vp_in (nI (5 * t) + 3) L := by rw [show nI (5 * t) + 3 = nI (5 * t + 3) from nI_add (5 * t) 3]; exact vp_in_nI (by omega) (by omega)
    have hv4 : vp_in (nI (5 * t) + 4) L := by rw [show nI (5 * t) + 4 = nI (5 * t + 4) from nI_add (5 * t) 4]; exact vp_in_nI (by omega) (by omega)
    have hC1 : C + 60 ≤ room_1.cells := by omega
    have hS1 : S + 8000 ≤ room_1.slots := by omega
    obtain ⟨k, hk, ek⟩ := and63c (xs (nI (5 * t)).toNatClampNeg)
    rw [ek]
    by_cases h56 : 56 ≤ k
    · refine lv_tableOut (tgt := 2864) hx hb dL_law_44 (Or.inr (by rw [nI_toInt (by omega)]; omega)) (by decide) ?_
      refine lv_iinc (v := (nI (5 * t) + 5)) (lv' := [(5, .int (nI (5 * t) + 5)), (0, .ref b), (1, .ref (a 0)), (2, .ref (d 0)), (3, .ref q1), (4, .ref q2)]) hx hb dL_law_2864 hl (k := 0) rfl rfl (by decide) rfl (fun ls hl => ?_)
      refine lv_goto (tgt := 28) hx hb dL_law_2867 (by decide) ?_
      refine W.widen (k := C + 60) (n := S + 8000) (by omega) (by omega) ?_
      obtain ⟨ch, on, Lt, f1, f2, f3, f4, f5, R⟩ := hR
      exact ih' L_hasSnapshot L_formError L_commandError T_count T_weights T_strengths T_heights T_wages T_nightsToHeal B_accounts B_balances B_balancesAtClosing B_entries B_debited B_credited B_amounts C_nights C_netWidth C_shows C_fallen H_c H_next H_count ST_count ST_weights ST_strengths ST_heights ST_wages ST_nightsToHeal SB_accounts SB_balances SB_balancesAtClosing SB_entries SB_debited SB_credited SB_amounts SC_nights SC_netWidth SC_shows SC_fallen E_count E_open E_sums E_groups E_transfers Z_v Z_m Z_ml Z_n Z_f S_position S_count S_cm S_arguments S_argumentCount O_Z_v O_Z_m O_Z_ml O_Z_n O_Z_f M_g M_kept M_saved M_before M_isSaved M_changes M_isWithin M_code M_input M_length M_fault M_failed M_signs M_signMany M_column M_loads M_many M_sums M_groups M_at M_told M_toldMany o1 o2 ⟨ch, on, Lt, f1, f2, f3, f4, f5, RelAll_mono (by omega) hB R⟩ H locs ls hP hD hS hl
    · rcases (show k = 0 ∨ k = 1 ∨ k = 2 ∨ k = 3 ∨ k = 4 ∨ k = 5 ∨ k = 6 ∨ k = 7 ∨ k = 8 ∨ k = 9 ∨ k = 10 ∨ k = 11 ∨ k = 12 ∨ k = 13 ∨ k = 14 ∨ k = 15 ∨ k = 16 ∨ k = 17 ∨ k = 18 ∨ k = 19 ∨ k = 20 ∨ k = 21 ∨ k = 22 ∨ k = 23 ∨ k = 24 ∨ k = 25 ∨ k = 26 ∨ k = 27 ∨ k = 28 ∨ k = 29 ∨ k = 30 ∨ k = 31 ∨ k = 32 ∨ k = 33 ∨ k = 34 ∨ k = 35 ∨ k = 36 ∨ k = 37 ∨ k = 38 ∨ k = 39 ∨ k = 40 ∨ k = 41 ∨ k = 42 ∨ k = 43 ∨ k = 44 ∨ k = 45 ∨ k = 46 ∨ k = 47 ∨ k = 48 ∨ k = 49 ∨ k = 50 ∨ k = 51 ∨ k = 52 ∨ k = 53 ∨ k = 54 ∨ k = 55 by omega) with rfl | rfl | rfl | rfl | rfl | rfl | rfl | rfl | rfl | rfl | rfl | rfl | rfl | rfl | rfl | rfl | rfl | rfl | rfl | rfl | rfl | rfl | rfl | rfl | rfl | rfl | rfl | rfl | rfl | rfl | rfl | rfl | rfl | rfl | rfl | rfl | rfl | rfl | rfl | rfl | rfl | rfl | rfl | rfl | rfl | rfl | rfl | rfl | rfl | rfl | rfl | rfl | rfl | rfl | rfl | rfl
      · exact lv_tableIn (tgt := 284) hx hb dL_law_44 (by decide) (by decide) rfl (by decide) (lz_addAcrobat C0 hv1 hv2 hv3 hv4 hR hB hC1 hS1 ih' hP hD hS hl)
      · exact lv_tableIn (tgt := 376) hx hb dL_law_44 (by decide) (by decide) rfl (by decide) (lz_post C0 hv1 hv2 hv3 hv4 hR hB hC1 hS1 ih' hP hD hS hl)
      · exact lv_tableIn (tgt := 456) hx hb dL_law_44 (by decide) (by decide) rfl (by decide) (lz_payOut C0 hv1 hv2 hv3 hv4 hR hB hC1 hS1 ih' hP hD hS hl)
      · exact lv_tableIn (tgt := 524) hx hb dL_law_44 (by decide) (by decide) rfl (by decide) (lz_show C0 hv1 hv2 hv3 hv4 hR hB hC1 hS1 ih' hP hD hS hl)
      · exact lv_tableIn (tgt := 580) hx hb dL_law_44 (by decide) (by decide) rfl (by decide) (lz_setNet C0 hv1 hv2 hv3 hv4 hR hB hC1 hS1 ih' hP hD hS hl)
      · exact lv_tableIn (tgt := 636) hx hb dL_law_44 (by decide) (by decide) rfl (by decide) (lz_passNights C0 hv1 hv2 hv3 hv4 hR hB hC1 hS1 ih' hP hD hS hl)
      · exact lv_tableIn (tgt := 692) hx hb dL_law_44 (by decide) (by decide) rfl (by decide) (lz_closeBooks C0 hv1 hv2 hv3 hv4 hR hB hC1 hS1 ih' hP hD hS hl)
      · exact lv_tableIn (tgt := 705) hx hb dL_law_44 (by decide) (by decide) rfl (by decide) (lz_cancel C0 hv1 hv2 hv3 hv4 hR hB hC1 hS1 ih' hP hD hS hl)
      · exact lv_tableIn (tgt := 773) hx hb dL_law_44 (by decide) (by decide) rfl (by decide) (lz_acrobatCount C0 hv1 hv2 hv3 hv4 hR hB hC1 hS1 ih' hP hD hS hl)
      · exact lv_tableIn (tgt := 786) hx hb dL_law_44 (by decide) (by decide) rfl (by decide) (lz_weight C0 hv1 hv2 hv3 hv4 hR hB hC1 hS1 ih' hP hD hS hl)
      · exact lv_tableIn (tgt := 842) hx hb dL_law_44 (by decide) (by decide) rfl (by decide) (lz_strength C0 hv1 hv2 hv3 hv4 hR hB hC1 hS1 ih' hP hD hS hl)
      · exact lv_tableIn (tgt := 898) hx hb dL_law_44 (by decide) (by decide) rfl (by decide) (lz_height C0 hv1 hv2 hv3 hv4 hR hB hC1 hS1 ih' hP hD hS hl)
      · exact lv_tableIn (tgt := 954) hx hb dL_law_44 (by decide) (by decide) rfl (by decide) (lz_wage C0 hv1 hv2 hv3 hv4 hR hB hC1 hS1 ih' hP hD hS hl)
      · exact lv_tableIn (tgt := 1010) hx hb dL_law_44 (by decide) (by decide) rfl (by decide) (lz_isInjured C0 hv1 hv2 hv3 hv4 hR hB hC1 hS1 ih' hP hD hS hl)
      · exact lv_tableIn (tgt := 1073) hx hb dL_law_44 (by decide) (by decide) rfl (by decide) (lz_nightsUntilFit C0 hv1 hv2 hv3 hv4 hR hB hC1 hS1 ih' hP hD hS hl)
      · exact lv_tableIn (tgt := 1129) hx hb dL_law_44 (by decide) (by decide) rfl (by decide) (lz_canStand C0 hv1 hv2 hv3 hv4 hR hB hC1 hS1 ih' hP hD hS hl)
      · exact lv_tableIn (tgt := 1192) hx hb dL_law_44 (by decide) (by decide) rfl (by decide) (lz_acrobatAt C0 hv1 hv2 hv3 hv4 hR hB hC1 hS1 ih' hP hD hS hl)
      · exact lv_tableIn (tgt := 1260) hx hb dL_law_44 (by decide) (by decide) rfl (by decide) (lz_loadOn C0 hv1 hv2 hv3 hv4 hR hB hC1 hS1 ih' hP hD hS hl)
      · exact lv_tableIn (tgt := 1328) hx hb dL_law_44 (by decide) (by decide) rfl (by decide) (lz_columnHeight C0 hv1 hv2 hv3 hv4 hR hB hC1 hS1 ih' hP hD hS hl)
      · exact lv_tableIn (tgt := 1384) hx hb dL_law_44 (by decide) (by decide) rfl (by decide) (lz_overloaded C0 hv1 hv2 hv3 hv4 hR hB hC1 hS1 ih' hP hD hS hl)
      · exact lv_tableIn (tgt := 1440) hx hb dL_law_44 (by decide) (by decide) rfl (by decide) (lz_damages C0 hv1 hv2 hv3 hv4 hR hB hC1 hS1 ih' hP hD hS hl)
      · exact lv_tableIn (tgt := 1496) hx hb dL_law_44 (by decide) (by decide) rfl (by decide) (lz_isCovered C0 hv1 hv2 hv3 hv4 hR hB hC1 hS1 ih' hP hD hS hl)
      · exact lv_tableIn (tgt := 1559) hx hb dL_law_44 (by decide) (by decide) rfl (by decide) (lz_bestHeight C0 hv1 hv2 hv3 hv4 hR hB hC1 hS1 ih' hP hD hS hl)
      · exact lv_tableIn (tgt := 1572) hx hb dL_law_44 (by decide) (by decide) rfl (by decide) (lz_bestHeightBySearch C0 hv1 hv2 hv3 hv4 hR hB hC1 hS1 ih' hP hD hS hl)
      · exact lv_tableIn (tgt := 1585) hx hb dL_law_44 (by decide) (by decide) rfl (by decide) (lz_bestColumn C0 hv1 hv2 hv3 hv4 hR hB hC1 hS1 ih' hP hD hS hl)
      · exact lv_tableIn (tgt := 1598) hx hb dL_law_44 (by decide) (by decide) rfl (by decide) (lz_safety C0 hv1 hv2 hv3 hv4 hR hB hC1 hS1 ih' hP hD hS hl)
      · exact lv_tableIn (tgt := 1676) hx hb dL_law_44 (by decide) (by decide) rfl (by decide) (lz_safetyBits C0 hv1 hv2 hv3 hv4 hR hB hC1 hS1 ih' hP hD hS hl)
      · exact lv_tableIn (tgt := 1732) hx hb dL_law_44 (by decide) (by decide) rfl (by decide) (lz_accountCount C0 hv1 hv2 hv3 hv4 hR hB hC1 hS1 ih' hP hD hS hl)
      · exact lv_tableIn (tgt := 1745) hx hb dL_law_44 (by decide) (by decide) rfl (by decide) (lz_balance C0 hv1 hv2 hv3 hv4 hR hB hC1 hS1 ih' hP hD hS hl)
      · exact lv_tableIn (tgt := 1801) hx hb dL_law_44 (by decide) (by decide) rfl (by decide) (lz_balanceByJournal C0 hv1 hv2 hv3 hv4 hR hB hC1 hS1 ih' hP hD hS hl)
      · exact lv_tableIn (tgt := 1857) hx hb dL_law_44 (by decide) (by decide) rfl (by decide) (lz_debits C0 hv1 hv2 hv3 hv4 hR hB hC1 hS1 ih' hP hD hS hl)
      · exact lv_tableIn (tgt := 1913) hx hb dL_law_44 (by decide) (by decide) rfl (by decide) (lz_credits C0 hv1 hv2 hv3 hv4 hR hB hC1 hS1 ih' hP hD hS hl)
      · exact lv_tableIn (tgt := 1969) hx hb dL_law_44 (by decide) (by decide) rfl (by decide) (lz_entryCount C0 hv1 hv2 hv3 hv4 hR hB hC1 hS1 ih' hP hD hS hl)
      · exact lv_tableIn (tgt := 1982) hx hb dL_law_44 (by decide) (by decide) rfl (by decide) (lz_debitOf C0 hv1 hv2 hv3 hv4 hR hB hC1 hS1 ih' hP hD hS hl)
      · exact lv_tableIn (tgt := 2038) hx hb dL_law_44 (by decide) (by decide) rfl (by decide) (lz_creditOf C0 hv1 hv2 hv3 hv4 hR hB hC1 hS1 ih' hP hD hS hl)
      · exact lv_tableIn (tgt := 2094) hx hb dL_law_44 (by decide) (by decide) rfl (by decide) (lz_amountOf C0 hv1 hv2 hv3 hv4 hR hB hC1 hS1 ih' hP hD hS hl)
      · exact lv_tableIn (tgt := 2150) hx hb dL_law_44 (by decide) (by decide) rfl (by decide) (lz_accountByBalance C0 hv1 hv2 hv3 hv4 hR hB hC1 hS1 ih' hP hD hS hl)
      · exact lv_tableIn (tgt := 2206) hx hb dL_law_44 (by decide) (by decide) rfl (by decide) (lz_fewestTransfers C0 hv1 hv2 hv3 hv4 hR hB hC1 hS1 ih' hP hD hS hl)
      · exact lv_tableIn (tgt := 2219) hx hb dL_law_44 (by decide) (by decide) rfl (by decide) (lz_fewestTransfersBySearch C0 hv1 hv2 hv3 hv4 hR hB hC1 hS1 ih' hP hD hS hl)
      · exact lv_tableIn (tgt := 2232) hx hb dL_law_44 (by decide) (by decide) rfl (by decide) (lz_night C0 hv1 hv2 hv3 hv4 hR hB hC1 hS1 ih' hP hD hS hl)
      · exact lv_tableIn (tgt := 2245) hx hb dL_law_44 (by decide) (by decide) rfl (by decide) (lz_net C0 hv1 hv2 hv3 hv4 hR hB hC1 hS1 ih' hP hD hS hl)
      · exact lv_tableIn (tgt := 2258) hx hb dL_law_44 (by decide) (by decide) rfl (by decide) (lz_showTotal C0 hv1 hv2 hv3 hv4 hR hB hC1 hS1 ih' hP hD hS hl)
      · exact lv_tableIn (tgt := 2271) hx hb dL_law_44 (by decide) (by decide) rfl (by decide) (lz_fallenTotal C0 hv1 hv2 hv3 hv4 hR hB hC1 hS1 ih' hP hD hS hl)
      · exact lv_tableIn (tgt := 2284) hx hb dL_law_44 (by decide) (by decide) rfl (by decide) (lz_meanPositive C0 hv1 hv2 hv3 hv4 hR hB hC1 hS1 ih' hP hD hS hl)
      · exact lv_tableIn (tgt := 2349) hx hb dL_law_44 (by decide) (by decide) rfl (by decide) (lz_meanPositiveBits C0 hv1 hv2 hv3 hv4 hR hB hC1 hS1 ih' hP hD hS hl)
      · exact lv_tableIn (tgt := 2392) hx hb dL_law_44 (by decide) (by decide) rfl (by decide) (lz_isConsistent C0 hv1 hv2 hv3 hv4 hR hB hC1 hS1 ih' hP hD hS hl)
      · exact lv_tableIn (tgt := 2405) hx hb dL_law_44 (by decide) (by decide) rfl (by decide) (lz_renderColumn C0 hv1 hv2 hv3 hv4 hR hB hC1 hS1 ih' hP hD hS hl)
      · exact lv_tableIn (tgt := 2461) hx hb dL_law_44 (by decide) (by decide) rfl (by decide) (lz_renderEntry C0 hv1 hv2 hv3 hv4 hR hB hC1 hS1 ih' hP hD hS hl)
      · exact lv_tableIn (tgt := 2517) hx hb dL_law_44 (by decide) (by decide) rfl (by decide) (lz_outputAt C0 hv1 hv2 hv3 hv4 hR hB hC1 hS1 ih' hP hD hS hl)
      · exact lv_tableIn (tgt := 2573) hx hb dL_law_44 (by decide) (by decide) rfl (by decide) (lz_type C0 hv1 hv2 hv3 hv4 hR hB hC1 hS1 ih' hP hD hS hl)
      · exact lv_tableIn (tgt := 2631) hx hb dL_law_44 (by decide) (by decide) rfl (by decide) (lz_runScript C0 hv1 hv2 hv3 hv4 hR hB hC1 hS1 ih' hP hD hS hl)
      · exact lv_tableIn (tgt := 2675) hx hb dL_law_44 (by decide) (by decide) rfl (by decide) (lz_errorPosition C0 hv1 hv2 hv3 hv4 hR hB hC1 hS1 ih' hP hD hS hl)
      · exact lv_tableIn (tgt := 2719) hx hb dL_law_44 (by decide) (by decide) rfl (by decide) (lz_failedCommand C0 hv1 hv2 hv3 hv4 hR hB hC1 hS1 ih' hP hD hS hl)
      · exact lv_tableIn (tgt := 2763) hx hb dL_law_44 (by decide) (by decide) rfl (by decide) (lz_undo C0 hv1 hv2 hv3 hv4 hR hB hC1 hS1 ih' hP hD hS hl)
      · exact lv_tableIn (tgt := 2807) hx hb dL_law_44 (by decide) (by decide) rfl (by decide) (lz_save C0 hv1 hv2 hv3 hv4 hR hB hC1 hS1 ih' hP hD hS hl)
      · exact lv_tableIn (tgt := 2820) hx hb dL_law_44 (by decide) (by decide) rfl (by decide) (lz_restore C0 hv1 hv2 hv3 hv4 hR hB hC1 hS1 ih' hP hD hS hl)
end LWC201
