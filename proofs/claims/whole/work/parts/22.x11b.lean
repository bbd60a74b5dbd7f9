theorem lk_X11_isWord_RX11_48 : Cond.fieldLink RX11 48 "CircusLedgerModel" "told" "[I" ∈ wsX11_isWord := by decide +kernel
theorem lk_X11_isWord_RX11_210 : Cond.fieldLink RX11 210 "CircusLedgerModel" "toldMany" "I" ∈ wsX11_isWord := by decide +kernel
theorem in_X11_isWord_X11 : ∀ w ∈ u_ws RX11 TX11 22, w ∈ wsX11_isWord := by decide +kernel
def f_X11_isWord_L14 (M_input : Nat → Int32) (M_length : Int32) (M_toldMany : Int32) (x1 : Int32) (x2 : Nat) : Nat → Int32 → Int32 → (Nat → Int32) → Option (Int32 × Int32 × (Nat → Int32))
  | 0, _, _, _ => none
  | nn + 1, x3, M_at, M_told =>
    gok (x2 < 16) (wkb1 (f_J0_length_8abf5 x2) (fun r2 =>
    if r2 ≤ x3 then
      (some (1, M_at, M_told))
    else
      (gok (x2 < 16) (wkb1 (f_J0_charAt_5068e x2 x3) (fun r6 =>
      wkb2 (f_X11_skips M_input M_length M_at r6) (fun r8 w9 =>
      if r8 = 0 then
        (some (0, w9, M_told))
      else
        (f_X11_isWord_L14 M_input M_length M_toldMany x1 x2 nn (x3 + 1) w9 M_told)))))))
def f_X11_isWord (M_input : Nat → Int32) (M_length : Int32) (M_at : Int32) (M_told : Nat → Int32) (M_toldMany : Int32) (x1 : Int32) (x2 : Nat) : Option (Int32 × Int32 × (Nat → Int32)) :=
  gin (5 * M_toldMany) 155 (wkl (upd M_told ((5 * M_toldMany).toNatClampNeg) x1) (fun g1 =>
  f_X11_isWord_L14 M_input M_length M_toldMany x1 x2 FU 0 M_at g1))
set_option maxHeartbeats 4000000 in
set_option maxRecDepth 100000 in
theorem wl_X11_isWord_L14 {p : Program} {l : Launch} {e : Env} {s : State} {m : MethodId} {args : Array Value} {below : List Frame} {meth : Method} {c : Code} {dC : Nat → ClassId} {dI : Nat → Nat → Nat} {Y : Nat → ClassId} {a : Nat → Nat} {g : Nat → Nat → Nat} {M_g : Nat → Int32} {M_kept : Nat → Int32} {M_saved : Nat → Int32} {M_before : Nat → Int32} {M_isSaved : Int32} {M_changes : Int32} {M_isWithin : Int32} {M_code : Int32} {M_input : Nat → Int32} {M_length : Int32} {M_fault : Int32} {M_failed : Int32} {M_signs : Nat → Int32} {M_signMany : Int32} {M_column : Nat → Int32} {M_loads : Nat → Int32} {M_many : Int32} {M_sums : Nat → Int32} {M_groups : Nat → Int32} {M_toldMany : Int32} {x1 : Int32} {x2 : Nat} {r : Int32} {zM_at : Int32} {zM_told : Nat → Int32}  (C0 : wk_C p s m args meth c cX11_isWord 4 (some .boolean) wsX11_isWord RX11) {A : Nat → Prop} (hK : va_K (dC, dI) vwCl (vTy Y) s) (hA : ∀ q, s.heap.size ≤ q → A q) (hT : wk_T g A s s.heap) : ∀ (nn : Nat) (x3 : Int32)  (M_at : Int32) (M_told : Nat → Int32), f_X11_isWord_L14 M_input M_length M_toldMany x1 x2 nn x3 M_at M_told = some (r, zM_at, zM_told) → ∀ (H : Heap) (locs : List Loc), va_P (dC, dI) vwCl (wX11 Y a M_g M_kept M_saved M_before M_isSaved M_changes M_isWithin M_code M_input M_length M_fault M_failed M_signs M_signMany M_column M_loads M_many M_sums M_groups M_at M_told M_toldMany) H → va_D A (wX11 Y a M_g M_kept M_saved M_before M_isSaved M_changes M_isWithin M_code M_input M_length M_fault M_failed M_signs M_signMany M_column M_loads M_many M_sums M_groups M_at M_told M_toldMany) → va_S A s.heap H locs → ∀ (ls : Array Slot), lv_has ls 4 [(0, .ref (a 0)), (2, .ref (g 2 x2)), (3, .int x3)] → W p l e (headSpec wsX11_isWord ({ frames := 4, cells := 0, slots := 0, locals := 85 } : Room)).room s m args below meth c H locs 0 0 (MQ below (va_Qi (fun r2 (_ : Unit) => r2 = r) (fun _ t => wk_X (dC, dI) Y (wX11 Y a M_g M_kept M_saved M_before M_isSaved M_changes M_isWithin M_code M_input M_length M_fault M_failed M_signs M_signMany M_column M_loads M_many M_sums M_groups zM_at zM_told M_toldMany) A t) A) args s 0 0 A) (F0 m 14 ls []) := by
  have C0 := C0
  obtain ⟨hx, hb, hml, hr, hlocks, hown, hts⟩ := id C0
  intro nn
  induction nn with
  | zero =>
    intro x3 M_at M_told hf
    rw [f_X11_isWord_L14] at hf
    cases hf
  | succ nn ih =>
    intro x3 M_at M_told hf H locs hP hD hS ls hl
    rw [f_X11_isWord_L14] at hf
    have hP : va_P (dC, dI) vwCl [(a 0, .inr (11, [.ref (a 1), .ref (a 2), .ref (a 3), .ref (a 4), .int M_isSaved, .int M_changes, .int M_isWithin, .int M_code, .ref (a 5), .int M_length, .int M_fault, .int M_failed, .ref (a 6), .int M_signMany, .ref (a 7), .ref (a 8), .int M_many, .ref (a 9), .ref (a 10), .int M_at, .ref (a 11), .int M_toldMany])), (a 1, .inl (Y 0, 238, .inl M_g)), (a 2, .inl (Y 0, 1904, .inl M_kept)), (a 3, .inl (Y 0, 238, .inl M_saved)), (a 4, .inl (Y 0, 238, .inl M_before)), (a 5, .inl (Y 0, 60, .inl M_input)), (a 6, .inl (Y 2, 100, .inl M_signs)), (a 7, .inl (Y 0, 6, .inl M_column)), (a 8, .inl (Y 0, 6, .inl M_loads)), (a 9, .inl (Y 0, 2048, .inl M_sums)), (a 10, .inl (Y 0, 2048, .inl M_groups)), (a 11, .inl (Y 0, 155, .inl M_told))] H := hP
    have hD : va_D A [(a 0, .inr (11, [.ref (a 1), .ref (a 2), .ref (a 3), .ref (a 4), .int M_isSaved, .int M_changes, .int M_isWithin, .int M_code, .ref (a 5), .int M_length, .int M_fault, .int M_failed, .ref (a 6), .int M_signMany, .ref (a 7), .ref (a 8), .int M_many, .ref (a 9), .ref (a 10), .int M_at, .ref (a 11), .int M_toldMany])), (a 1, .inl (Y 0, 238, .inl M_g)), (a 2, .inl (Y 0, 1904, .inl M_kept)), (a 3, .inl (Y 0, 238, .inl M_saved)), (a 4, .inl (Y 0, 238, .inl M_before)), (a 5, .inl (Y 0, 60, .inl M_input)), (a 6, .inl (Y 2, 100, .inl M_signs)), (a 7, .inl (Y 0, 6, .inl M_column)), (a 8, .inl (Y 0, 6, .inl M_loads)), (a 9, .inl (Y 0, 2048, .inl M_sums)), (a 10, .inl (Y 0, 2048, .inl M_groups)), (a 11, .inl (Y 0, 155, .inl M_told))] := hD
    refine lv_iload_n hx hb dX11_isWord_14 rfl (lv_at hl 2 rfl) ?_
    refine lv_aload_n hx hb dX11_isWord_15 rfl (lv_at hl 1 rfl) ?_
    obtain ⟨h1, hf⟩ := gok_s hf
    obtain ⟨r2, hr3, hf⟩ := wkb1_s hf
    have hPc := hP.sub (ws' := ([] : va_W)) [] rfl
    refine wk_viT (As := []) (rest := [.int x3]) ⟨hx, hb, hml, hown, hts⟩ (c_J0_length_8abf5 l dC dI Y g x2 r2 hr3) (cwV 0 hts gX11_isWord_J0_length_8abf5 rfl rfl rfl (by decide +kernel) ⟨Nat.le_of_ble_eq_true rfl, Nat.le_of_ble_eq_true rfl⟩) hK hPc hT hS (va_Orecv (hT.2.2.2.1 x2 h1).1 hS) rfl hl.1 rfl (Nat.le_of_ble_eq_true rfl) dX11_isWord_16 ⟨Nat.le_of_ble_eq_true rfl, Nat.le_of_ble_eq_true rfl⟩ ?_
    refine lv_icmp_ge (tgt := 42) hx hb dX11_isWord_19 (by decide) (fun q4 => ?_) (fun q4 => ?_)
    · have hf := wk_t hf q4
      refine lv_iconst (v := 1) hx hb dX11_isWord_42 (by decide) ?_
      obtain ⟨e0, e1, e2⟩ := wke3 hf
      subst e0
      subst e1
      subst e2
      have hP9 := hP.sub (ws' := (wX11 Y a M_g M_kept M_saved M_before M_isSaved M_changes M_isWithin M_code M_input M_length M_fault M_failed M_signs M_signMany M_column M_loads M_many M_sums M_groups M_at M_told M_toldMany)) [0, 1, 2, 3, 4, 5, 6, 7, 8, 9, 10, 11] rfl
      have hD9 := hD.sub (ws' := (wX11 Y a M_g M_kept M_saved M_before M_isSaved M_changes M_isWithin M_code M_input M_length M_fault M_failed M_signs M_signMany M_column M_loads M_many M_sums M_groups M_at M_told M_toldMany)) [0, 1, 2, 3, 4, 5, 6, 7, 8, 9, 10, 11] (by decide) rfl
      exact W.zret (v := 1) (ty := .boolean) hx hb hr rfl (fun t ht hW => ⟨⟨1, (), rfl, rfl, by rw [ht]; exact hP9, va_K.moved hW.alike hK, hD9⟩, hS.F ht⟩) hS.2.2 dX11_isWord_43
    · have hf := wk_f hf q4
      refine lv_aload_n hx hb dX11_isWord_22 rfl (lv_at hl 0 rfl) ?_
      refine lv_aload_n hx hb dX11_isWord_23 rfl (lv_at hl 1 rfl) ?_
      refine lv_iload_n hx hb dX11_isWord_24 rfl (lv_at hl 2 rfl) ?_
      obtain ⟨h5, hf⟩ := gok_s hf
      obtain ⟨r6, hr7, hf⟩ := wkb1_s hf
      have hPc := hP.sub (ws' := ([] : va_W)) [] rfl
      refine wk_viT (As := [.int x3]) (rest := [.ref (a 0)]) ⟨hx, hb, hml, hown, hts⟩ (c_J0_charAt_5068e l dC dI Y g x2 x3 r6 hr7) (cwV 1 hts gX11_isWord_J0_charAt_5068e rfl rfl rfl (by decide +kernel) ⟨Nat.le_of_ble_eq_true rfl, Nat.le_of_ble_eq_true rfl⟩) hK hPc hT hS (va_Orecv (hT.2.2.2.1 x2 h5).1 hS) rfl hl.1 rfl (Nat.le_of_ble_eq_true rfl) dX11_isWord_25 ⟨Nat.le_of_ble_eq_true rfl, Nat.le_of_ble_eq_true rfl⟩ ?_
      obtain ⟨r8, w9, hr10, hf⟩ := wkb2_s hf
      refine wk_evi (As := [.int r6]) (rest := []) (wc := (wX11 Y a M_g M_kept M_saved M_before M_isSaved M_changes M_isWithin M_code M_input M_length M_fault M_failed M_signs M_signMany M_column M_loads M_many M_sums M_groups M_at M_told M_toldMany)) (w1 := (wX11 Y a M_g M_kept M_saved M_before M_isSaved M_changes M_isWithin M_code M_input M_length M_fault M_failed M_signs M_signMany M_column M_loads M_many M_sums M_groups w9 M_told M_toldMany)) (wr := []) ⟨hx, hb, hml, hown, hts⟩ (c_X11_skips l dC dI Y a M_g M_kept M_saved M_before M_isSaved M_changes M_isWithin M_code M_input M_length M_fault M_failed M_signs M_signMany M_column M_loads M_many M_sums M_groups M_at M_told M_toldMany r6 H.size r8 w9 hr10) (cwV 1 hts gX11_isWord_X11_skips rfl rfl rfl (by decide +kernel) ⟨Nat.le_of_ble_eq_true rfl, Nat.le_of_ble_eq_true rfl⟩) hK hP hD hS hA [0, 1, 2, 3, 4, 5, 6, 7, 8, 9, 10, 11] [] rfl rfl (by decide) (by decide) (by decide) (va_recv hK hP (ci := 11) (q0 := 0) rfl rfl) rfl hl.1 rfl (Nat.le_of_ble_eq_true rfl) dX11_isWord_28 ⟨Nat.le_of_ble_eq_true rfl, Nat.le_of_ble_eq_true rfl⟩ (fun H locs hP hD hS => ?_)
      have hP : va_P (dC, dI) vwCl [(a 0, .inr (11, [.ref (a 1), .ref (a 2), .ref (a 3), .ref (a 4), .int M_isSaved, .int M_changes, .int M_isWithin, .int M_code, .ref (a 5), .int M_length, .int M_fault, .int M_failed, .ref (a 6), .int M_signMany, .ref (a 7), .ref (a 8), .int M_many, .ref (a 9), .ref (a 10), .int w9, .ref (a 11), .int M_toldMany])), (a 1, .inl (Y 0, 238, .inl M_g)), (a 2, .inl (Y 0, 1904, .inl M_kept)), (a 3, .inl (Y 0, 238, .inl M_saved)), (a 4, .inl (Y 0, 238, .inl M_before)), (a 5, .inl (Y 0, 60, .inl M_input)), (a 6, .inl (Y 2, 100, .inl M_signs)), (a 7, .inl (Y 0, 6, .inl M_column)), (a 8, .inl (Y 0, 6, .inl M_loads)), (a 9, .inl (Y 0, 2048, .inl M_sums)), (a 10, .inl (Y 0, 2048, .inl M_groups)), (a 11, .inl (Y 0, 155, .inl M_told))] H := hP
      have hD : va_D A [(a 0, .inr (11, [.ref (a 1), .ref (a 2), .ref (a 3), .ref (a 4), .int M_isSaved, .int M_changes, .int M_isWithin, .int M_code, .ref (a 5), .int M_length, .int M_fault, .int M_failed, .ref (a 6), .int M_signMany, .ref (a 7), .ref (a 8), .int M_many, .ref (a 9), .ref (a 10), .int w9, .ref (a 11), .int M_toldMany])), (a 1, .inl (Y 0, 238, .inl M_g)), (a 2, .inl (Y 0, 1904, .inl M_kept)), (a 3, .inl (Y 0, 238, .inl M_saved)), (a 4, .inl (Y 0, 238, .inl M_before)), (a 5, .inl (Y 0, 60, .inl M_input)), (a 6, .inl (Y 2, 100, .inl M_signs)), (a 7, .inl (Y 0, 6, .inl M_column)), (a 8, .inl (Y 0, 6, .inl M_loads)), (a 9, .inl (Y 0, 2048, .inl M_sums)), (a 10, .inl (Y 0, 2048, .inl M_groups)), (a 11, .inl (Y 0, 155, .inl M_told))] := hD
      refine lv_if_ne (tgt := 36) hx hb dX11_isWord_31 (by decide) (fun q12 => ?_) (fun q12 => ?_)
      · have hf := wk_f hf q12
        refine lv_iinc (v := (x3 + 1)) (lv' := [(3, .int (x3 + 1)), (0, .ref (a 0)), (2, .ref (g 2 x2))]) hx hb dX11_isWord_36 hl (k := 2) rfl rfl (by decide) rfl (fun ls hl => ?_)
        refine lv_goto (tgt := 14) hx hb dX11_isWord_39 (by decide) ?_
        exact ih (x3 + 1) w9 M_told hf H locs hP hD hS ls (lv_sub hl [1, 2, 0] rfl)
      · have hf := wk_t hf q12
        refine lv_iconst (v := 0) hx hb dX11_isWord_34 (by decide) ?_
        obtain ⟨e0, e1, e2⟩ := wke3 hf
        subst e0
        subst e1
        subst e2
        have hP9 := hP.sub (ws' := (wX11 Y a M_g M_kept M_saved M_before M_isSaved M_changes M_isWithin M_code M_input M_length M_fault M_failed M_signs M_signMany M_column M_loads M_many M_sums M_groups w9 M_told M_toldMany)) [0, 1, 2, 3, 4, 5, 6, 7, 8, 9, 10, 11] rfl
        have hD9 := hD.sub (ws' := (wX11 Y a M_g M_kept M_saved M_before M_isSaved M_changes M_isWithin M_code M_input M_length M_fault M_failed M_signs M_signMany M_column M_loads M_many M_sums M_groups w9 M_told M_toldMany)) [0, 1, 2, 3, 4, 5, 6, 7, 8, 9, 10, 11] (by decide) rfl
        exact W.zret (v := 0) (ty := .boolean) hx hb hr rfl (fun t ht hW => ⟨⟨0, (), rfl, rfl, by rw [ht]; exact hP9, va_K.moved hW.alike hK, hD9⟩, hS.F ht⟩) hS.2.2 dX11_isWord_35
set_option maxHeartbeats 4000000 in
set_option maxRecDepth 100000 in
theorem c_X11_isWord (l : Launch) (dC : Nat → ClassId) (dI : Nat → Nat → Nat) (Y : Nat → ClassId) (g : Nat → Nat → Nat) (a : Nat → Nat) (M_g : Nat → Int32) (M_kept : Nat → Int32) (M_saved : Nat → Int32) (M_before : Nat → Int32) (M_isSaved : Int32) (M_changes : Int32) (M_isWithin : Int32) (M_code : Int32) (M_input : Nat → Int32) (M_length : Int32) (M_fault : Int32) (M_failed : Int32) (M_signs : Nat → Int32) (M_signMany : Int32) (M_column : Nat → Int32) (M_loads : Nat → Int32) (M_many : Int32) (M_sums : Nat → Int32) (M_groups : Nat → Int32) (M_at : Int32) (M_told : Nat → Int32) (M_toldMany : Int32) (x1 : Int32) (x2 : Nat) (sz : Nat) (r : Int32) (zM_at : Int32) (zM_told : Nat → Int32) (hf : f_X11_isWord M_input M_length M_at M_told M_toldMany x1 x2 = some (r, zM_at, zM_told)) : Met l yX11_isWord wsX11_isWord ({ frames := 4, cells := 0, slots := 0, locals := 85 } : Room) (va_Pc [.ref (a 0), .int x1, .ref (g 2 x2)] (wk_ET (dC, dI) Y g (wX11 Y a M_g M_kept M_saved M_before M_isSaved M_changes M_isWithin M_code M_input M_length M_fault M_failed M_signs M_signMany M_column M_loads M_many M_sums M_groups M_at M_told M_toldMany) sz)) (va_Qi (fun r2 (_ : Unit) => r2 = r) (fun _ t => wk_X (dC, dI) Y (wX11 Y a M_g M_kept M_saved M_before M_isSaved M_changes M_isWithin M_code M_input M_length M_fault M_failed M_signs M_signMany M_column M_loads M_many M_sums M_groups zM_at zM_told M_toldMany) (va_A (wX11 Y a M_g M_kept M_saved M_before M_isSaved M_changes M_isWithin M_code M_input M_length M_fault M_failed M_signs M_signMany M_column M_loads M_many M_sums M_groups M_at M_told M_toldMany) sz) t) (va_A (wX11 Y a M_g M_kept M_saved M_before M_isSaved M_changes M_isWithin M_code M_input M_length M_fault M_failed M_signs M_signMany M_column M_loads M_many M_sums M_groups M_at M_told M_toldMany) sz)) 0 0 (va_A (wX11 Y a M_g M_kept M_saved M_before M_isSaved M_changes M_isWithin M_code M_input M_length M_fault M_failed M_signs M_signMany M_column M_loads M_many M_sums M_groups M_at M_told M_toldMany) sz) := by
  refine Met.ofW (cc := cX11_isWord) (maxL := 4) (ret := (some .boolean)) (by decide) rfl ?_
  intro p e s m args below meth c s₁ B hml hv
  obtain ⟨rfl, ⟨hsz, hP, hK, hD0⟩, hT⟩ := hv
  have hx := B.exec
  have hb := B.bytes
  have hr := B.returns
  have hts := atoms_spec (ws := wsX11_isWord) B.pre
  have hown : s.vm.findClass RX11 = some m.cls := findClass_of_methodNamed B.named
  have hlocks := B.notSynchronized
  have C0 : wk_C p s m _ meth c cX11_isWord 4 (some .boolean) wsX11_isWord RX11 := ⟨hx, hb, hml, hr, hlocks, hown, hts⟩
  subst hsz
  have hD := hD0.self (sz := s.heap.size)
  generalize hAe : va_A (wX11 Y a M_g M_kept M_saved M_before M_isSaved M_changes M_isWithin M_code M_input M_length M_fault M_failed M_signs M_signMany M_column M_loads M_many M_sums M_groups M_at M_told M_toldMany) s.heap.size = A at hD hT ⊢
  have hA : ∀ q : Nat, s.heap.size ≤ q → A q := fun q h => by rw [← hAe]; exact Or.inr h
  have hS : va_S A s.heap s.heap [] := va_S.rf
  obtain ⟨H, hHe⟩ : ∃ H, H = s.heap := ⟨_, rfl⟩
  have hS : va_S A s.heap H [] := by rw [hHe]; exact hS
  have hP : va_P (dC, dI) vwCl [(a 0, .inr (11, [.ref (a 1), .ref (a 2), .ref (a 3), .ref (a 4), .int M_isSaved, .int M_changes, .int M_isWithin, .int M_code, .ref (a 5), .int M_length, .int M_fault, .int M_failed, .ref (a 6), .int M_signMany, .ref (a 7), .ref (a 8), .int M_many, .ref (a 9), .ref (a 10), .int M_at, .ref (a 11), .int M_toldMany])), (a 1, .inl (Y 0, 238, .inl M_g)), (a 2, .inl (Y 0, 1904, .inl M_kept)), (a 3, .inl (Y 0, 238, .inl M_saved)), (a 4, .inl (Y 0, 238, .inl M_before)), (a 5, .inl (Y 0, 60, .inl M_input)), (a 6, .inl (Y 2, 100, .inl M_signs)), (a 7, .inl (Y 0, 6, .inl M_column)), (a 8, .inl (Y 0, 6, .inl M_loads)), (a 9, .inl (Y 0, 2048, .inl M_sums)), (a 10, .inl (Y 0, 2048, .inl M_groups)), (a 11, .inl (Y 0, 155, .inl M_told))] H := by rw [hHe]; exact hP
  have hD : va_D A [(a 0, .inr (11, [.ref (a 1), .ref (a 2), .ref (a 3), .ref (a 4), .int M_isSaved, .int M_changes, .int M_isWithin, .int M_code, .ref (a 5), .int M_length, .int M_fault, .int M_failed, .ref (a 6), .int M_signMany, .ref (a 7), .ref (a 8), .int M_many, .ref (a 9), .ref (a 10), .int M_at, .ref (a 11), .int M_toldMany])), (a 1, .inl (Y 0, 238, .inl M_g)), (a 2, .inl (Y 0, 1904, .inl M_kept)), (a 3, .inl (Y 0, 238, .inl M_saved)), (a 4, .inl (Y 0, 238, .inl M_before)), (a 5, .inl (Y 0, 60, .inl M_input)), (a 6, .inl (Y 2, 100, .inl M_signs)), (a 7, .inl (Y 0, 6, .inl M_column)), (a 8, .inl (Y 0, 6, .inl M_loads)), (a 9, .inl (Y 0, 2048, .inl M_sums)), (a 10, .inl (Y 0, 2048, .inl M_groups)), (a 11, .inl (Y 0, 155, .inl M_told))] := hD
  obtain ⟨locs, hlo⟩ : ∃ locs : List Loc, locs = [] := ⟨_, rfl⟩
  have hS : va_S A s.heap H locs := by rw [hlo]; exact hS
  have hl := lv_entry ([.ref (a 0), .int x1, .ref (g 2 x2)]) (n := 4) (Nat.le_of_ble_eq_true rfl)
  rw [lg_entry_eq]
  generalize (lg_sl ([.ref (a 0), .int x1, .ref (g 2 x2)]) ++ List.replicate (4 - (lg_sl ([.ref (a 0), .int x1, .ref (g 2 x2)])).length) Slot.unset).toArray = ls at hl ⊢
  have hl : lv_has ls 4 [(0, .ref (a 0)), (1, .int x1), (2, .ref (g 2 x2))] := hl
  refine wk_start hHe hlo ?_
  rw [f_X11_isWord] at hf
  refine lv_aload_n hx hb dX11_isWord_0 rfl (lv_at hl 0 rfl) ?_
  refine va_get (D := (dC, dI)) (ci := 11) (v := .ref (a 11)) (C := RX11) (T := TX11) (N := 22) hx hb hts in_X11_isWord_X11 hown hK hP 0 rfl rfl 20 (by decide) (hts _ lk_X11_isWord_RX11_48) (fun _ h9 => h9) rfl dX11_isWord_1 ?_
  refine lv_iconst (v := 5) hx hb dX11_isWord_4 (by decide) ?_
  refine lv_aload_n hx hb dX11_isWord_5 rfl (lv_at hl 0 rfl) ?_
  refine va_get (D := (dC, dI)) (ci := 11) (v := .int M_toldMany) (C := RX11) (T := TX11) (N := 22) hx hb hts in_X11_isWord_X11 hown hK hP 0 rfl rfl 21 (by decide) (hts _ lk_X11_isWord_RX11_210) (fun _ h9 => h9) rfl dX11_isWord_6 ?_
  refine lv_imul hx hb dX11_isWord_9 ?_
  refine lv_iload_n hx hb dX11_isWord_10 rfl (lv_at hl 1 rfl) ?_
  obtain ⟨h2, hf⟩ := gin_s hf
  refine wk_iast hx hb hK hP hD hS 11 0 (k := (5 * M_toldMany).toNatClampNeg) rfl rfl h2 rfl dX11_isWord_11 (fun g1 H locs eg1 hP hD hS => ?_)
  have hP : va_P (dC, dI) vwCl [(a 0, .inr (11, [.ref (a 1), .ref (a 2), .ref (a 3), .ref (a 4), .int M_isSaved, .int M_changes, .int M_isWithin, .int M_code, .ref (a 5), .int M_length, .int M_fault, .int M_failed, .ref (a 6), .int M_signMany, .ref (a 7), .ref (a 8), .int M_many, .ref (a 9), .ref (a 10), .int M_at, .ref (a 11), .int M_toldMany])), (a 1, .inl (Y 0, 238, .inl M_g)), (a 2, .inl (Y 0, 1904, .inl M_kept)), (a 3, .inl (Y 0, 238, .inl M_saved)), (a 4, .inl (Y 0, 238, .inl M_before)), (a 5, .inl (Y 0, 60, .inl M_input)), (a 6, .inl (Y 2, 100, .inl M_signs)), (a 7, .inl (Y 0, 6, .inl M_column)), (a 8, .inl (Y 0, 6, .inl M_loads)), (a 9, .inl (Y 0, 2048, .inl M_sums)), (a 10, .inl (Y 0, 2048, .inl M_groups)), (a 11, .inl (Y 0, 155, .inl g1))] H := hP
  have hD : va_D A [(a 0, .inr (11, [.ref (a 1), .ref (a 2), .ref (a 3), .ref (a 4), .int M_isSaved, .int M_changes, .int M_isWithin, .int M_code, .ref (a 5), .int M_length, .int M_fault, .int M_failed, .ref (a 6), .int M_signMany, .ref (a 7), .ref (a 8), .int M_many, .ref (a 9), .ref (a 10), .int M_at, .ref (a 11), .int M_toldMany])), (a 1, .inl (Y 0, 238, .inl M_g)), (a 2, .inl (Y 0, 1904, .inl M_kept)), (a 3, .inl (Y 0, 238, .inl M_saved)), (a 4, .inl (Y 0, 238, .inl M_before)), (a 5, .inl (Y 0, 60, .inl M_input)), (a 6, .inl (Y 2, 100, .inl M_signs)), (a 7, .inl (Y 0, 6, .inl M_column)), (a 8, .inl (Y 0, 6, .inl M_loads)), (a 9, .inl (Y 0, 2048, .inl M_sums)), (a 10, .inl (Y 0, 2048, .inl M_groups)), (a 11, .inl (Y 0, 155, .inl g1))] := hD
  have hf := wkl_s hf eg1
  refine lv_iconst (v := 0) hx hb dX11_isWord_12 (by decide) ?_
  refine lv_istore_n (lv' := [(3, .int 0), (0, .ref (a 0)), (1, .int x1), (2, .ref (g 2 x2))]) hx hb dX11_isWord_13 rfl hl (by decide) rfl (fun ls hl => ?_)
  exact wl_X11_isWord_L14 C0 hK hA hT FU 0 M_at g1 hf H locs hP hD hS ls (lv_sub hl [1, 3, 0] rfl)
theorem lk_X11_withN_RX11_48 : Cond.fieldLink RX11 48 "CircusLedgerModel" "told" "[I" ∈ wsX11_withN := by decide +kernel
theorem in_X11_withN_X11 : ∀ w ∈ u_ws RX11 TX11 22, w ∈ wsX11_withN := by decide +kernel
def f_X11_withN (M_input : Nat → Int32) (M_length : Int32) (M_at : Int32) (M_told : Nat → Int32) (M_toldMany : Int32) (x1 : Int32) : Option (Int32 × Int32 × (Nat → Int32)) :=
  wkb2 (f_X11_skips M_input M_length M_at 101) (fun r1 w2 =>
  if r1 = 0 then
    (wkb3 (f_X11_isWord M_input M_length w2 M_told M_toldMany 5 9) (fun r6 w7 w8 =>
    if r6 = 0 then
      (some (0, w7, w8))
    else
      (gin x1 155 (wkl (upd w8 x1.toNatClampNeg 1) (fun g12 =>
      wkb1 (f_X11_here M_input M_length w7) (fun r14 =>
      if r14 = 32 then
        (wkb3 (f_X11_figures M_input M_length w7 g12 32 x1 4) (fun r17 w18 w19 =>
        if r17 = 0 then
          (some (0, w18, w19))
        else
          (some (1, w18, w19))))
      else
        (some (1, w7, g12))))))))
  else
    (wkb3 (f_X11_isWord M_input M_length w2 M_told M_toldMany 4 8) (fun r23 w24 w25 =>
    if r23 = 0 then
      (some (0, w24, w25))
    else
      (wkb3 (f_X11_figures M_input M_length w24 w25 32 x1 1) (fun r29 w30 w31 =>
      if r29 = 0 then
        (some (0, w30, w31))
      else
        (some (1, w30, w31)))))))
set_option maxHeartbeats 4000000 in
set_option maxRecDepth 100000 in
theorem c_X11_withN (l : Launch) (dC : Nat → ClassId) (dI : Nat → Nat → Nat) (Y : Nat → ClassId) (g : Nat → Nat → Nat) (a : Nat → Nat) (M_g : Nat → Int32) (M_kept : Nat → Int32) (M_saved : Nat → Int32) (M_before : Nat → Int32) (M_isSaved : Int32) (M_changes : Int32) (M_isWithin : Int32) (M_code : Int32) (M_input : Nat → Int32) (M_length : Int32) (M_fault : Int32) (M_failed : Int32) (M_signs : Nat → Int32) (M_signMany : Int32) (M_column : Nat → Int32) (M_loads : Nat → Int32) (M_many : Int32) (M_sums : Nat → Int32) (M_groups : Nat → Int32) (M_at : Int32) (M_told : Nat → Int32) (M_toldMany : Int32) (x1 : Int32) (sz : Nat) (r : Int32) (zM_at : Int32) (zM_told : Nat → Int32) (hf : f_X11_withN M_input M_length M_at M_told M_toldMany x1 = some (r, zM_at, zM_told)) : Met l yX11_withN wsX11_withN ({ frames := 5, cells := 0, slots := 0, locals := 108 } : Room) (va_Pc [.ref (a 0), .int x1] (wk_ET (dC, dI) Y g (wX11 Y a M_g M_kept M_saved M_before M_isSaved M_changes M_isWithin M_code M_input M_length M_fault M_failed M_signs M_signMany M_column M_loads M_many M_sums M_groups M_at M_told M_toldMany) sz)) (va_Qi (fun r2 (_ : Unit) => r2 = r) (fun _ t => wk_X (dC, dI) Y (wX11 Y a M_g M_kept M_saved M_before M_isSaved M_changes M_isWithin M_code M_input M_length M_fault M_failed M_signs M_signMany M_column M_loads M_many M_sums M_groups zM_at zM_told M_toldMany) (va_A (wX11 Y a M_g M_kept M_saved M_before M_isSaved M_changes M_isWithin M_code M_input M_length M_fault M_failed M_signs M_signMany M_column M_loads M_many M_sums M_groups M_at M_told M_toldMany) sz) t) (va_A (wX11 Y a M_g M_kept M_saved M_before M_isSaved M_changes M_isWithin M_code M_input M_length M_fault M_failed M_signs M_signMany M_column M_loads M_many M_sums M_groups M_at M_told M_toldMany) sz)) 0 0 (va_A (wX11 Y a M_g M_kept M_saved M_before M_isSaved M_changes M_isWithin M_code M_input M_length M_fault M_failed M_signs M_signMany M_column M_loads M_many M_sums M_groups M_at M_told M_toldMany) sz) := by
  refine Met.ofW (cc := cX11_withN) (maxL := 2) (ret := (some .boolean)) (by decide) rfl ?_
  intro p e s m args below meth c s₁ B hml hv
  obtain ⟨rfl, ⟨hsz, hP, hK, hD0⟩, hT⟩ := hv
  have hx := B.exec
  have hb := B.bytes
  have hr := B.returns
  have hts := atoms_spec (ws := wsX11_withN) B.pre
  have hown : s.vm.findClass RX11 = some m.cls := findClass_of_methodNamed B.named
  have hlocks := B.notSynchronized
  have C0 : wk_C p s m _ meth c cX11_withN 2 (some .boolean) wsX11_withN RX11 := ⟨hx, hb, hml, hr, hlocks, hown, hts⟩
  subst hsz
  have hD := hD0.self (sz := s.heap.size)
  generalize hAe : va_A (wX11 Y a M_g M_kept M_saved M_before M_isSaved M_changes M_isWithin M_code M_input M_length M_fault M_failed M_signs M_signMany M_column M_loads M_many M_sums M_groups M_at M_told M_toldMany) s.heap.size = A at hD hT ⊢
  have hA : ∀ q : Nat, s.heap.size ≤ q → A q := fun q h => by rw [← hAe]; exact Or.inr h
  have hS : va_S A s.heap s.heap [] := va_S.rf
  obtain ⟨H, hHe⟩ : ∃ H, H = s.heap := ⟨_, rfl⟩
  have hS : va_S A s.heap H [] := by rw [hHe]; exact hS
  have hP : va_P (dC, dI) vwCl [(a 0, .inr (11, [.ref (a 1), .ref (a 2), .ref (a 3), .ref (a 4), .int M_isSaved, .int M_changes, .int M_isWithin, .int M_code, .ref (a 5), .int M_length, .int M_fault, .int M_failed, .ref (a 6), .int M_signMany, .ref (a 7), .ref (a 8), .int M_many, .ref (a 9), .ref (a 10), .int M_at, .ref (a 11), .int M_toldMany])), (a 1, .inl (Y 0, 238, .inl M_g)), (a 2, .inl (Y 0, 1904, .inl M_kept)), (a 3, .inl (Y 0, 238, .inl M_saved)), (a 4, .inl (Y 0, 238, .inl M_before)), (a 5, .inl (Y 0, 60, .inl M_input)), (a 6, .inl (Y 2, 100, .inl M_signs)), (a 7, .inl (Y 0, 6, .inl M_column)), (a 8, .inl (Y 0, 6, .inl M_loads)), (a 9, .inl (Y 0, 2048, .inl M_sums)), (a 10, .inl (Y 0, 2048, .inl M_groups)), (a 11, .inl (Y 0, 155, .inl M_told))] H := by rw [hHe]; exact hP
  have hD : va_D A [(a 0, .inr (11, [.ref (a 1), .ref (a 2), .ref (a 3), .ref (a 4), .int M_isSaved, .int M_changes, .int M_isWithin, .int M_code, .ref (a 5), .int M_length, .int M_fault, .int M_failed, .ref (a 6), .int M_signMany, .ref (a 7), .ref (a 8), .int M_many, .ref (a 9), .ref (a 10), .int M_at, .ref (a 11), .int M_toldMany])), (a 1, .inl (Y 0, 238, .inl M_g)), (a 2, .inl (Y 0, 1904, .inl M_kept)), (a 3, .inl (Y 0, 238, .inl M_saved)), (a 4, .inl (Y 0, 238, .inl M_before)), (a 5, .inl (Y 0, 60, .inl M_input)), (a 6, .inl (Y 2, 100, .inl M_signs)), (a 7, .inl (Y 0, 6, .inl M_column)), (a 8, .inl (Y 0, 6, .inl M_loads)), (a 9, .inl (Y 0, 2048, .inl M_sums)), (a 10, .inl (Y 0, 2048, .inl M_groups)), (a 11, .inl (Y 0, 155, .inl M_told))] := hD
  obtain ⟨locs, hlo⟩ : ∃ locs : List Loc, locs = [] := ⟨_, rfl⟩
  have hS : va_S A s.heap H locs := by rw [hlo]; exact hS
  have hl := lv_entry ([.ref (a 0), .int x1]) (n := 2) (Nat.le_of_ble_eq_true rfl)
  rw [lg_entry_eq]
  generalize (lg_sl ([.ref (a 0), .int x1]) ++ List.replicate (2 - (lg_sl ([.ref (a 0), .int x1])).length) Slot.unset).toArray = ls at hl ⊢
  have hl : lv_has ls 2 [(0, .ref (a 0)), (1, .int x1)] := hl
  refine wk_start hHe hlo ?_
  rw [f_X11_withN] at hf
  refine lv_aload_n hx hb dX11_withN_0 rfl (lv_at hl 0 rfl) ?_
  refine lv_bipush (v := 101) hx hb dX11_withN_1 (by decide) ?_
  obtain ⟨r1, w2, hr3, hf⟩ := wkb2_s hf
  refine wk_evi (As := [.int 101]) (rest := []) (wc := (wX11 Y a M_g M_kept M_saved M_before M_isSaved M_changes M_isWithin M_code M_input M_length M_fault M_failed M_signs M_signMany M_column M_loads M_many M_sums M_groups M_at M_told M_toldMany)) (w1 := (wX11 Y a M_g M_kept M_saved M_before M_isSaved M_changes M_isWithin M_code M_input M_length M_fault M_failed M_signs M_signMany M_column M_loads M_many M_sums M_groups w2 M_told M_toldMany)) (wr := []) ⟨hx, hb, hml, hown, hts⟩ (c_X11_skips l dC dI Y a M_g M_kept M_saved M_before M_isSaved M_changes M_isWithin M_code M_input M_length M_fault M_failed M_signs M_signMany M_column M_loads M_many M_sums M_groups M_at M_told M_toldMany 101 H.size r1 w2 hr3) (cwV 1 hts gX11_withN_X11_skips rfl rfl rfl (by decide +kernel) ⟨Nat.le_of_ble_eq_true rfl, Nat.le_of_ble_eq_true rfl⟩) hK hP hD hS hA [0, 1, 2, 3, 4, 5, 6, 7, 8, 9, 10, 11] [] rfl rfl (by decide) (by decide) (by decide) (va_recv hK hP (ci := 11) (q0 := 0) rfl rfl) rfl hl.1 rfl (Nat.le_of_ble_eq_true rfl) dX11_withN_3 ⟨Nat.le_of_ble_eq_true rfl, Nat.le_of_ble_eq_true rfl⟩ (fun H locs hP hD hS => ?_)
  have hP : va_P (dC, dI) vwCl [(a 0, .inr (11, [.ref (a 1), .ref (a 2), .ref (a 3), .ref (a 4), .int M_isSaved, .int M_changes, .int M_isWithin, .int M_code, .ref (a 5), .int M_length, .int M_fault, .int M_failed, .ref (a 6), .int M_signMany, .ref (a 7), .ref (a 8), .int M_many, .ref (a 9), .ref (a 10), .int w2, .ref (a 11), .int M_toldMany])), (a 1, .inl (Y 0, 238, .inl M_g)), (a 2, .inl (Y 0, 1904, .inl M_kept)), (a 3, .inl (Y 0, 238, .inl M_saved)), (a 4, .inl (Y 0, 238, .inl M_before)), (a 5, .inl (Y 0, 60, .inl M_input)), (a 6, .inl (Y 2, 100, .inl M_signs)), (a 7, .inl (Y 0, 6, .inl M_column)), (a 8, .inl (Y 0, 6, .inl M_loads)), (a 9, .inl (Y 0, 2048, .inl M_sums)), (a 10, .inl (Y 0, 2048, .inl M_groups)), (a 11, .inl (Y 0, 155, .inl M_told))] H := hP
  have hD : va_D A [(a 0, .inr (11, [.ref (a 1), .ref (a 2), .ref (a 3), .ref (a 4), .int M_isSaved, .int M_changes, .int M_isWithin, .int M_code, .ref (a 5), .int M_length, .int M_fault, .int M_failed, .ref (a 6), .int M_signMany, .ref (a 7), .ref (a 8), .int M_many, .ref (a 9), .ref (a 10), .int w2, .ref (a 11), .int M_toldMany])), (a 1, .inl (Y 0, 238, .inl M_g)), (a 2, .inl (Y 0, 1904, .inl M_kept)), (a 3, .inl (Y 0, 238, .inl M_saved)), (a 4, .inl (Y 0, 238, .inl M_before)), (a 5, .inl (Y 0, 60, .inl M_input)), (a 6, .inl (Y 2, 100, .inl M_signs)), (a 7, .inl (Y 0, 6, .inl M_column)), (a 8, .inl (Y 0, 6, .inl M_loads)), (a 9, .inl (Y 0, 2048, .inl M_sums)), (a 10, .inl (Y 0, 2048, .inl M_groups)), (a 11, .inl (Y 0, 155, .inl M_told))] := hD
  refine lv_if_eq (tgt := 36) hx hb dX11_withN_6 (by decide) (fun q5 => ?_) (fun q5 => ?_)
  · have hf := wk_t hf q5
    refine lv_aload_n hx hb dX11_withN_36 rfl (lv_at hl 0 rfl) ?_
    refine lv_iconst (v := 5) hx hb dX11_withN_37 (by decide) ?_
    refine va_ldcS (q := g 2 9) hx hb hown (wk_T.wrd hT 1 (by decide)) dX11_withN_38 ?_
    obtain ⟨r6, w7, w8, hr9, hf⟩ := wkb3_s hf
    refine wk_eviT (As := [.int 5, .ref (g 2 9)]) (rest := []) (wc := (wX11 Y a M_g M_kept M_saved M_before M_isSaved M_changes M_isWithin M_code M_input M_length M_fault M_failed M_signs M_signMany M_column M_loads M_many M_sums M_groups w2 M_told M_toldMany)) (w1 := (wX11 Y a M_g M_kept M_saved M_before M_isSaved M_changes M_isWithin M_code M_input M_length M_fault M_failed M_signs M_signMany M_column M_loads M_many M_sums M_groups w7 w8 M_toldMany)) (wr := []) ⟨hx, hb, hml, hown, hts⟩ (c_X11_isWord l dC dI Y g a M_g M_kept M_saved M_before M_isSaved M_changes M_isWithin M_code M_input M_length M_fault M_failed M_signs M_signMany M_column M_loads M_many M_sums M_groups w2 M_told M_toldMany 5 9 H.size r6 w7 w8 hr9) (cwV 2 hts gX11_withN_X11_isWord rfl rfl rfl (by decide +kernel) ⟨Nat.le_of_ble_eq_true rfl, Nat.le_of_ble_eq_true rfl⟩) hK hP hD hS hA hT [0, 1, 2, 3, 4, 5, 6, 7, 8, 9, 10, 11] [] rfl rfl (by decide) (by decide) (by decide) (va_recv hK hP (ci := 11) (q0 := 0) rfl rfl) rfl hl.1 rfl (Nat.le_of_ble_eq_true rfl) dX11_withN_40 ⟨Nat.le_of_ble_eq_true rfl, Nat.le_of_ble_eq_true rfl⟩ (fun H locs hP hD hS => ?_)
    have hP : va_P (dC, dI) vwCl [(a 0, .inr (11, [.ref (a 1), .ref (a 2), .ref (a 3), .ref (a 4), .int M_isSaved, .int M_changes, .int M_isWithin, .int M_code, .ref (a 5), .int M_length, .int M_fault, .int M_failed, .ref (a 6), .int M_signMany, .ref (a 7), .ref (a 8), .int M_many, .ref (a 9), .ref (a 10), .int w7, .ref (a 11), .int M_toldMany])), (a 1, .inl (Y 0, 238, .inl M_g)), (a 2, .inl (Y 0, 1904, .inl M_kept)), (a 3, .inl (Y 0, 238, .inl M_saved)), (a 4, .inl (Y 0, 238, .inl M_before)), (a 5, .inl (Y 0, 60, .inl M_input)), (a 6, .inl (Y 2, 100, .inl M_signs)), (a 7, .inl (Y 0, 6, .inl M_column)), (a 8, .inl (Y 0, 6, .inl M_loads)), (a 9, .inl (Y 0, 2048, .inl M_sums)), (a 10, .inl (Y 0, 2048, .inl M_groups)), (a 11, .inl (Y 0, 155, .inl w8))] H := hP
    have hD : va_D A [(a 0, .inr (11, [.ref (a 1), .ref (a 2), .ref (a 3), .ref (a 4), .int M_isSaved, .int M_changes, .int M_isWithin, .int M_code, .ref (a 5), .int M_length, .int M_fault, .int M_failed, .ref (a 6), .int M_signMany, .ref (a 7), .ref (a 8), .int M_many, .ref (a 9), .ref (a 10), .int w7, .ref (a 11), .int M_toldMany])), (a 1, .inl (Y 0, 238, .inl M_g)), (a 2, .inl (Y 0, 1904, .inl M_kept)), (a 3, .inl (Y 0, 238, .inl M_saved)), (a 4, .inl (Y 0, 238, .inl M_before)), (a 5, .inl (Y 0, 60, .inl M_input)), (a 6, .inl (Y 2, 100, .inl M_signs)), (a 7, .inl (Y 0, 6, .inl M_column)), (a 8, .inl (Y 0, 6, .inl M_loads)), (a 9, .inl (Y 0, 2048, .inl M_sums)), (a 10, .inl (Y 0, 2048, .inl M_groups)), (a 11, .inl (Y 0, 155, .inl w8))] := hD
    refine lv_if_ne (tgt := 48) hx hb dX11_withN_43 (by decide) (fun q11 => ?_) (fun q11 => ?_)
    · have hf := wk_f hf q11
      refine lv_aload_n hx hb dX11_withN_48 rfl (lv_at hl 0 rfl) ?_
      refine va_get (D := (dC, dI)) (ci := 11) (v := .ref (a 11)) (C := RX11) (T := TX11) (N := 22) hx hb hts in_X11_withN_X11 hown hK hP 0 rfl rfl 20 (by decide) (hts _ lk_X11_withN_RX11_48) (fun _ h9 => h9) rfl dX11_withN_49 ?_
      refine lv_iload_n hx hb dX11_withN_52 rfl (lv_at hl 1 rfl) ?_
      refine lv_iconst (v := 1) hx hb dX11_withN_53 (by decide) ?_
      obtain ⟨h13, hf⟩ := gin_s hf
      refine wk_iast hx hb hK hP hD hS 11 0 (k := x1.toNatClampNeg) rfl rfl h13 rfl dX11_withN_54 (fun g12 H locs eg12 hP hD hS => ?_)
      have hP : va_P (dC, dI) vwCl [(a 0, .inr (11, [.ref (a 1), .ref (a 2), .ref (a 3), .ref (a 4), .int M_isSaved, .int M_changes, .int M_isWithin, .int M_code, .ref (a 5), .int M_length, .int M_fault, .int M_failed, .ref (a 6), .int M_signMany, .ref (a 7), .ref (a 8), .int M_many, .ref (a 9), .ref (a 10), .int w7, .ref (a 11), .int M_toldMany])), (a 1, .inl (Y 0, 238, .inl M_g)), (a 2, .inl (Y 0, 1904, .inl M_kept)), (a 3, .inl (Y 0, 238, .inl M_saved)), (a 4, .inl (Y 0, 238, .inl M_before)), (a 5, .inl (Y 0, 60, .inl M_input)), (a 6, .inl (Y 2, 100, .inl M_signs)), (a 7, .inl (Y 0, 6, .inl M_column)), (a 8, .inl (Y 0, 6, .inl M_loads)), (a 9, .inl (Y 0, 2048, .inl M_sums)), (a 10, .inl (Y 0, 2048, .inl M_groups)), (a 11, .inl (Y 0, 155, .inl g12))] H := hP
      have hD : va_D A [(a 0, .inr (11, [.ref (a 1), .ref (a 2), .ref (a 3), .ref (a 4), .int M_isSaved, .int M_changes, .int M_isWithin, .int M_code, .ref (a 5), .int M_length, .int M_fault, .int M_failed, .ref (a 6), .int M_signMany, .ref (a 7), .ref (a 8), .int M_many, .ref (a 9), .ref (a 10), .int w7, .ref (a 11), .int M_toldMany])), (a 1, .inl (Y 0, 238, .inl M_g)), (a 2, .inl (Y 0, 1904, .inl M_kept)), (a 3, .inl (Y 0, 238, .inl M_saved)), (a 4, .inl (Y 0, 238, .inl M_before)), (a 5, .inl (Y 0, 60, .inl M_input)), (a 6, .inl (Y 2, 100, .inl M_signs)), (a 7, .inl (Y 0, 6, .inl M_column)), (a 8, .inl (Y 0, 6, .inl M_loads)), (a 9, .inl (Y 0, 2048, .inl M_sums)), (a 10, .inl (Y 0, 2048, .inl M_groups)), (a 11, .inl (Y 0, 155, .inl g12))] := hD
      have hf := wkl_s hf eg12
      refine lv_aload_n hx hb dX11_withN_55 rfl (lv_at hl 0 rfl) ?_
      obtain ⟨r14, hr15, hf⟩ := wkb1_s hf
      have hPc := hP.sub (ws' := (wX11 Y a M_g M_kept M_saved M_before M_isSaved M_changes M_isWithin M_code M_input M_length M_fault M_failed M_signs M_signMany M_column M_loads M_many M_sums M_groups w7 g12 M_toldMany)) [0, 1, 2, 3, 4, 5, 6, 7, 8, 9, 10, 11] rfl
      refine wk_vi (As := []) (rest := []) ⟨hx, hb, hml, hown, hts⟩ (c_X11_here l dC dI Y a M_g M_kept M_saved M_before M_isSaved M_changes M_isWithin M_code M_input M_length M_fault M_failed M_signs M_signMany M_column M_loads M_many M_sums M_groups w7 g12 M_toldMany r14 hr15) (cwV 0 hts gX11_withN_X11_here rfl rfl rfl (by decide +kernel) ⟨Nat.le_of_ble_eq_true rfl, Nat.le_of_ble_eq_true rfl⟩) hK hPc (va_recv hK hP (ci := 11) (q0 := 0) rfl rfl) rfl hl.1 rfl (Nat.le_of_ble_eq_true rfl) dX11_withN_56 ⟨Nat.le_of_ble_eq_true rfl, Nat.le_of_ble_eq_true rfl⟩ ?_
      refine lv_bipush (v := 32) hx hb dX11_withN_59 (by decide) ?_
      refine lv_icmp_ne (tgt := 75) hx hb dX11_withN_61 (by decide) (fun q16 => ?_) (fun q16 => ?_)
      · have hf := wk_f hf q16
        refine lv_iconst (v := 1) hx hb dX11_withN_75 (by decide) ?_
        refine lv_goto (tgt := 80) hx hb dX11_withN_76 (by decide) ?_
        obtain ⟨e0, e1, e2⟩ := wke3 hf
        subst e0
        subst e1
        subst e2
        have hP9 := hP.sub (ws' := (wX11 Y a M_g M_kept M_saved M_before M_isSaved M_changes M_isWithin M_code M_input M_length M_fault M_failed M_signs M_signMany M_column M_loads M_many M_sums M_groups w7 g12 M_toldMany)) [0, 1, 2, 3, 4, 5, 6, 7, 8, 9, 10, 11] rfl
        have hD9 := hD.sub (ws' := (wX11 Y a M_g M_kept M_saved M_before M_isSaved M_changes M_isWithin M_code M_input M_length M_fault M_failed M_signs M_signMany M_column M_loads M_many M_sums M_groups w7 g12 M_toldMany)) [0, 1, 2, 3, 4, 5, 6, 7, 8, 9, 10, 11] (by decide) rfl
        exact W.zret (v := 1) (ty := .boolean) hx hb hr rfl (fun t ht hW => ⟨⟨1, (), rfl, rfl, by rw [ht]; exact hP9, va_K.moved hW.alike hK, hD9⟩, hS.F ht⟩) hS.2.2 dX11_withN_80
      · have hf := wk_t hf q16
        refine lv_aload_n hx hb dX11_withN_64 rfl (lv_at hl 0 rfl) ?_
        refine lv_bipush (v := 32) hx hb dX11_withN_65 (by decide) ?_
        refine lv_iload_n hx hb dX11_withN_67 rfl (lv_at hl 1 rfl) ?_
        refine lv_iconst (v := 4) hx hb dX11_withN_68 (by decide) ?_
        obtain ⟨r17, w18, w19, hr20, hf⟩ := wkb3_s hf
        refine wk_evi (As := [.int 32, .int x1, .int 4]) (rest := []) (wc := (wX11 Y a M_g M_kept M_saved M_before M_isSaved M_changes M_isWithin M_code M_input M_length M_fault M_failed M_signs M_signMany M_column M_loads M_many M_sums M_groups w7 g12 M_toldMany)) (w1 := (wX11 Y a M_g M_kept M_saved M_before M_isSaved M_changes M_isWithin M_code M_input M_length M_fault M_failed M_signs M_signMany M_column M_loads M_many M_sums M_groups w18 w19 M_toldMany)) (wr := []) ⟨hx, hb, hml, hown, hts⟩ (c_X11_figures l dC dI Y a M_g M_kept M_saved M_before M_isSaved M_changes M_isWithin M_code M_input M_length M_fault M_failed M_signs M_signMany M_column M_loads M_many M_sums M_groups w7 g12 M_toldMany 32 x1 4 H.size r17 w18 w19 hr20) (cwV 3 hts gX11_withN_X11_figures rfl rfl rfl (by decide +kernel) ⟨Nat.le_of_ble_eq_true rfl, Nat.le_of_ble_eq_true rfl⟩) hK hP hD hS hA [0, 1, 2, 3, 4, 5, 6, 7, 8, 9, 10, 11] [] rfl rfl (by decide) (by decide) (by decide) (va_recv hK hP (ci := 11) (q0 := 0) rfl rfl) rfl hl.1 rfl (Nat.le_of_ble_eq_true rfl) dX11_withN_69 ⟨Nat.le_of_ble_eq_true rfl, Nat.le_of_ble_eq_true rfl⟩ (fun H locs hP hD hS => ?_)
        have hP : va_P (dC, dI) vwCl [(a 0, .inr (11, [.ref (a 1), .ref (a 2), .ref (a 3), .ref (a 4), .int M_isSaved, .int M_changes, .int M_isWithin, .int M_code, .ref (a 5), .int M_length, .int M_fault, .int M_failed, .ref (a 6), .int M_signMany, .ref (a 7), .ref (a 8), .int M_many, .ref (a 9), .ref (a 10), .int w18, .ref (a 11), .int M_toldMany])), (a 1, .inl (Y 0, 238, .inl M_g)), (a 2, .inl (Y 0, 1904, .inl M_kept)), (a 3, .inl (Y 0, 238, .inl M_saved)), (a 4, .inl (Y 0, 238, .inl M_before)), (a 5, .inl (Y 0, 60, .inl M_input)), (a 6, .inl (Y 2, 100, .inl M_signs)), (a 7, .inl (Y 0, 6, .inl M_column)), (a 8, .inl (Y 0, 6, .inl M_loads)), (a 9, .inl (Y 0, 2048, .inl M_sums)), (a 10, .inl (Y 0, 2048, .inl M_groups)), (a 11, .inl (Y 0, 155, .inl w19))] H := hP
        have hD : va_D A [(a 0, .inr (11, [.ref (a 1), .ref (a 2), .ref (a 3), .ref (a 4), .int M_isSaved, .int M_changes, .int M_isWithin, .int M_code, .ref (a 5), .int M_length, .int M_fault, .int M_failed, .ref (a 6), .int M_signMany, .ref (a 7), .ref (a 8), .int M_many, .ref (a 9), .ref (a 10), .int w18, .ref (a 11), .int M_toldMany])), (a 1, .inl (Y 0, 238, .inl M_g)), (a 2, .inl (Y 0, 1904, .inl M_kept)), (a 3, .inl (Y 0, 238, .inl M_saved)), (a 4, .inl (Y 0, 238, .inl M_before)), (a 5, .inl (Y 0, 60, .inl M_input)), (a 6, .inl (Y 2, 100, .inl M_signs)), (a 7, .inl (Y 0, 6, .inl M_column)), (a 8, .inl (Y 0, 6, .inl M_loads)), (a 9, .inl (Y 0, 2048, .inl M_sums)), (a 10, .inl (Y 0, 2048, .inl M_groups)), (a 11, .inl (Y 0, 155, .inl w19))] := hD
        refine lv_if_eq (tgt := 79) hx hb dX11_withN_72 (by decide) (fun q22 => ?_) (fun q22 => ?_)
        · have hf := wk_t hf q22
          refine lv_iconst (v := 0) hx hb dX11_withN_79 (by decide) ?_
          obtain ⟨e0, e1, e2⟩ := wke3 hf
          subst e0
          subst e1
          subst e2
          have hP9 := hP.sub (ws' := (wX11 Y a M_g M_kept M_saved M_before M_isSaved M_changes M_isWithin M_code M_input M_length M_fault M_failed M_signs M_signMany M_column M_loads M_many M_sums M_groups w18 w19 M_toldMany)) [0, 1, 2, 3, 4, 5, 6, 7, 8, 9, 10, 11] rfl
          have hD9 := hD.sub (ws' := (wX11 Y a M_g M_kept M_saved M_before M_isSaved M_changes M_isWithin M_code M_input M_length M_fault M_failed M_signs M_signMany M_column M_loads M_many M_sums M_groups w18 w19 M_toldMany)) [0, 1, 2, 3, 4, 5, 6, 7, 8, 9, 10, 11] (by decide) rfl
          exact W.zret (v := 0) (ty := .boolean) hx hb hr rfl (fun t ht hW => ⟨⟨0, (), rfl, rfl, by rw [ht]; exact hP9, va_K.moved hW.alike hK, hD9⟩, hS.F ht⟩) hS.2.2 dX11_withN_80
        · have hf := wk_f hf q22
          refine lv_iconst (v := 1) hx hb dX11_withN_75 (by decide) ?_
          refine lv_goto (tgt := 80) hx hb dX11_withN_76 (by decide) ?_
          obtain ⟨e0, e1, e2⟩ := wke3 hf
          subst e0
          subst e1
          subst e2
          have hP9 := hP.sub (ws' := (wX11 Y a M_g M_kept M_saved M_before M_isSaved M_changes M_isWithin M_code M_input M_length M_fault M_failed M_signs M_signMany M_column M_loads M_many M_sums M_groups w18 w19 M_toldMany)) [0, 1, 2, 3, 4, 5, 6, 7, 8, 9, 10, 11] rfl
          have hD9 := hD.sub (ws' := (wX11 Y a M_g M_kept M_saved M_before M_isSaved M_changes M_isWithin M_code M_input M_length M_fault M_failed M_signs M_signMany M_column M_loads M_many M_sums M_groups w18 w19 M_toldMany)) [0, 1, 2, 3, 4, 5, 6, 7, 8, 9, 10, 11] (by decide) rfl
          exact W.zret (v := 1) (ty := .boolean) hx hb hr rfl (fun t ht hW => ⟨⟨1, (), rfl, rfl, by rw [ht]; exact hP9, va_K.moved hW.alike hK, hD9⟩, hS.F ht⟩) hS.2.2 dX11_withN_80
    · have hf := wk_t hf q11
      refine lv_iconst (v := 0) hx hb dX11_withN_46 (by decide) ?_
      obtain ⟨e0, e1, e2⟩ := wke3 hf
      subst e0
      subst e1
      subst e2
      have hP9 := hP.sub (ws' := (wX11 Y a M_g M_kept M_saved M_before M_isSaved M_changes M_isWithin M_code M_input M_length M_fault M_failed M_signs M_signMany M_column M_loads M_many M_sums M_groups w7 w8 M_toldMany)) [0, 1, 2, 3, 4, 5, 6, 7, 8, 9, 10, 11] rfl
      have hD9 := hD.sub (ws' := (wX11 Y a M_g M_kept M_saved M_before M_isSaved M_changes M_isWithin M_code M_input M_length M_fault M_failed M_signs M_signMany M_column M_loads M_many M_sums M_groups w7 w8 M_toldMany)) [0, 1, 2, 3, 4, 5, 6, 7, 8, 9, 10, 11] (by decide) rfl
      exact W.zret (v := 0) (ty := .boolean) hx hb hr rfl (fun t ht hW => ⟨⟨0, (), rfl, rfl, by rw [ht]; exact hP9, va_K.moved hW.alike hK, hD9⟩, hS.F ht⟩) hS.2.2 dX11_withN_47
  · have hf := wk_f hf q5
    refine lv_aload_n hx hb dX11_withN_9 rfl (lv_at hl 0 rfl) ?_
    refine lv_iconst (v := 4) hx hb dX11_withN_10 (by decide) ?_
    refine va_ldcS (q := g 2 8) hx hb hown (wk_T.wrd hT 0 (by decide)) dX11_withN_11 ?_
    obtain ⟨r23, w24, w25, hr26, hf⟩ := wkb3_s hf
    refine wk_eviT (As := [.int 4, .ref (g 2 8)]) (rest := []) (wc := (wX11 Y a M_g M_kept M_saved M_before M_isSaved M_changes M_isWithin M_code M_input M_length M_fault M_failed M_signs M_signMany M_column M_loads M_many M_sums M_groups w2 M_told M_toldMany)) (w1 := (wX11 Y a M_g M_kept M_saved M_before M_isSaved M_changes M_isWithin M_code M_input M_length M_fault M_failed M_signs M_signMany M_column M_loads M_many M_sums M_groups w24 w25 M_toldMany)) (wr := []) ⟨hx, hb, hml, hown, hts⟩ (c_X11_isWord l dC dI Y g a M_g M_kept M_saved M_before M_isSaved M_changes M_isWithin M_code M_input M_length M_fault M_failed M_signs M_signMany M_column M_loads M_many M_sums M_groups w2 M_told M_toldMany 4 8 H.size r23 w24 w25 hr26) (cwV 2 hts gX11_withN_X11_isWord rfl rfl rfl (by decide +kernel) ⟨Nat.le_of_ble_eq_true rfl, Nat.le_of_ble_eq_true rfl⟩) hK hP hD hS hA hT [0, 1, 2, 3, 4, 5, 6, 7, 8, 9, 10, 11] [] rfl rfl (by decide) (by decide) (by decide) (va_recv hK hP (ci := 11) (q0 := 0) rfl rfl) rfl hl.1 rfl (Nat.le_of_ble_eq_true rfl) dX11_withN_13 ⟨Nat.le_of_ble_eq_true rfl, Nat.le_of_ble_eq_true rfl⟩ (fun H locs hP hD hS => ?_)
    have hP : va_P (dC, dI) vwCl [(a 0, .inr (11, [.ref (a 1), .ref (a 2), .ref (a 3), .ref (a 4), .int M_isSaved, .int M_changes, .int M_isWithin, .int M_code, .ref (a 5), .int M_length, .int M_fault, .int M_failed, .ref (a 6), .int M_signMany, .ref (a 7), .ref (a 8), .int M_many, .ref (a 9), .ref (a 10), .int w24, .ref (a 11), .int M_toldMany])), (a 1, .inl (Y 0, 238, .inl M_g)), (a 2, .inl (Y 0, 1904, .inl M_kept)), (a 3, .inl (Y 0, 238, .inl M_saved)), (a 4, .inl (Y 0, 238, .inl M_before)), (a 5, .inl (Y 0, 60, .inl M_input)), (a 6, .inl (Y 2, 100, .inl M_signs)), (a 7, .inl (Y 0, 6, .inl M_column)), (a 8, .inl (Y 0, 6, .inl M_loads)), (a 9, .inl (Y 0, 2048, .inl M_sums)), (a 10, .inl (Y 0, 2048, .inl M_groups)), (a 11, .inl (Y 0, 155, .inl w25))] H := hP
    have hD : va_D A [(a 0, .inr (11, [.ref (a 1), .ref (a 2), .ref (a 3), .ref (a 4), .int M_isSaved, .int M_changes, .int M_isWithin, .int M_code, .ref (a 5), .int M_length, .int M_fault, .int M_failed, .ref (a 6), .int M_signMany, .ref (a 7), .ref (a 8), .int M_many, .ref (a 9), .ref (a 10), .int w24, .ref (a 11), .int M_toldMany])), (a 1, .inl (Y 0, 238, .inl M_g)), (a 2, .inl (Y 0, 1904, .inl M_kept)), (a 3, .inl (Y 0, 238, .inl M_saved)), (a 4, .inl (Y 0, 238, .inl M_before)), (a 5, .inl (Y 0, 60, .inl M_input)), (a 6, .inl (Y 2, 100, .inl M_signs)), (a 7, .inl (Y 0, 6, .inl M_column)), (a 8, .inl (Y 0, 6, .inl M_loads)), (a 9, .inl (Y 0, 2048, .inl M_sums)), (a 10, .inl (Y 0, 2048, .inl M_groups)), (a 11, .inl (Y 0, 155, .inl w25))] := hD
    refine lv_if_eq (tgt := 34) hx hb dX11_withN_16 (by decide) (fun q28 => ?_) (fun q28 => ?_)
    · have hf := wk_t hf q28
      refine lv_iconst (v := 0) hx hb dX11_withN_34 (by decide) ?_
      obtain ⟨e0, e1, e2⟩ := wke3 hf
      subst e0
      subst e1
      subst e2
      have hP9 := hP.sub (ws' := (wX11 Y a M_g M_kept M_saved M_before M_isSaved M_changes M_isWithin M_code M_input M_length M_fault M_failed M_signs M_signMany M_column M_loads M_many M_sums M_groups w24 w25 M_toldMany)) [0, 1, 2, 3, 4, 5, 6, 7, 8, 9, 10, 11] rfl
      have hD9 := hD.sub (ws' := (wX11 Y a M_g M_kept M_saved M_before M_isSaved M_changes M_isWithin M_code M_input M_length M_fault M_failed M_signs M_signMany M_column M_loads M_many M_sums M_groups w24 w25 M_toldMany)) [0, 1, 2, 3, 4, 5, 6, 7, 8, 9, 10, 11] (by decide) rfl
      exact W.zret (v := 0) (ty := .boolean) hx hb hr rfl (fun t ht hW => ⟨⟨0, (), rfl, rfl, by rw [ht]; exact hP9, va_K.moved hW.alike hK, hD9⟩, hS.F ht⟩) hS.2.2 dX11_withN_35
    · have hf := wk_f hf q28
      refine lv_aload_n hx hb dX11_withN_19 rfl (lv_at hl 0 rfl) ?_
      refine lv_bipush (v := 32) hx hb dX11_withN_20 (by decide) ?_
      refine lv_iload_n hx hb dX11_withN_22 rfl (lv_at hl 1 rfl) ?_
      refine lv_iconst (v := 1) hx hb dX11_withN_23 (by decide) ?_
      obtain ⟨r29, w30, w31, hr32, hf⟩ := wkb3_s hf
      refine wk_evi (As := [.int 32, .int x1, .int 1]) (rest := []) (wc := (wX11 Y a M_g M_kept M_saved M_before M_isSaved M_changes M_isWithin M_code M_input M_length M_fault M_failed M_signs M_signMany M_column M_loads M_many M_sums M_groups w24 w25 M_toldMany)) (w1 := (wX11 Y a M_g M_kept M_saved M_before M_isSaved M_changes M_isWithin M_code M_input M_length M_fault M_failed M_signs M_signMany M_column M_loads M_many M_sums M_groups w30 w31 M_toldMany)) (wr := []) ⟨hx, hb, hml, hown, hts⟩ (c_X11_figures l dC dI Y a M_g M_kept M_saved M_before M_isSaved M_changes M_isWithin M_code M_input M_length M_fault M_failed M_signs M_signMany M_column M_loads M_many M_sums M_groups w24 w25 M_toldMany 32 x1 1 H.size r29 w30 w31 hr32) (cwV 3 hts gX11_withN_X11_figures rfl rfl rfl (by decide +kernel) ⟨Nat.le_of_ble_eq_true rfl, Nat.le_of_ble_eq_true rfl⟩) hK hP hD hS hA [0, 1, 2, 3, 4, 5, 6, 7, 8, 9, 10, 11] [] rfl rfl (by decide) (by decide) (by decide) (va_recv hK hP (ci := 11) (q0 := 0) rfl rfl) rfl hl.1 rfl (Nat.le_of_ble_eq_true rfl) dX11_withN_24 ⟨Nat.le_of_ble_eq_true rfl, Nat.le_of_ble_eq_true rfl⟩ (fun H locs hP hD hS => ?_)
      have hP : va_P (dC, dI) vwCl [(a 0, .inr (11, [.ref (a 1), .ref (a 2), .ref (a 3), .ref (a 4), .int M_isSaved, .int M_changes, .int M_isWithin, .int M_code, .ref (a 5), .int M_length, .int M_fault, .int M_failed, .ref (a 6), .int M_signMany, .ref (a 7), .ref (a 8), .int M_many, .ref (a 9), .ref (a 10), .int w30, .ref (a 11), .int M_toldMany])), (a 1, .inl (Y 0, 238, .inl M_g)), (a 2, .inl (Y 0, 1904, .inl M_kept)), (a 3, .inl (Y 0, 238, .inl M_saved)), (a 4, .inl (Y 0, 238, .inl M_before)), (a 5, .inl (Y 0, 60, .inl M_input)), (a 6, .inl (Y 2, 100, .inl M_signs)), (a 7, .inl (Y 0, 6, .inl M_column)), (a 8, .inl (Y 0, 6, .inl M_loads)), (a 9, .inl (Y 0, 2048, .inl M_sums)), (a 10, .inl (Y 0, 2048, .inl M_groups)), (a 11, .inl (Y 0, 155, .inl w31))] H := hP
      have hD : va_D A [(a 0, .inr (11, [.ref (a 1), .ref (a 2), .ref (a 3), .ref (a 4), .int M_isSaved, .int M_changes, .int M_isWithin, .int M_code, .ref (a 5), .int M_length, .int M_fault, .int M_failed, .ref (a 6), .int M_signMany, .ref (a 7), .ref (a 8), .int M_many, .ref (a 9), .ref (a 10), .int w30, .ref (a 11), .int M_toldMany])), (a 1, .inl (Y 0, 238, .inl M_g)), (a 2, .inl (Y 0, 1904, .inl M_kept)), (a 3, .inl (Y 0, 238, .inl M_saved)), (a 4, .inl (Y 0, 238, .inl M_before)), (a 5, .inl (Y 0, 60, .inl M_input)), (a 6, .inl (Y 2, 100, .inl M_signs)), (a 7, .inl (Y 0, 6, .inl M_column)), (a 8, .inl (Y 0, 6, .inl M_loads)), (a 9, .inl (Y 0, 2048, .inl M_sums)), (a 10, .inl (Y 0, 2048, .inl M_groups)), (a 11, .inl (Y 0, 155, .inl w31))] := hD
      refine lv_if_eq (tgt := 34) hx hb dX11_withN_27 (by decide) (fun q34 => ?_) (fun q34 => ?_)
      · have hf := wk_t hf q34
        refine lv_iconst (v := 0) hx hb dX11_withN_34 (by decide) ?_
        obtain ⟨e0, e1, e2⟩ := wke3 hf
        subst e0
        subst e1
        subst e2
        have hP9 := hP.sub (ws' := (wX11 Y a M_g M_kept M_saved M_before M_isSaved M_changes M_isWithin M_code M_input M_length M_fault M_failed M_signs M_signMany M_column M_loads M_many M_sums M_groups w30 w31 M_toldMany)) [0, 1, 2, 3, 4, 5, 6, 7, 8, 9, 10, 11] rfl
        have hD9 := hD.sub (ws' := (wX11 Y a M_g M_kept M_saved M_before M_isSaved M_changes M_isWithin M_code M_input M_length M_fault M_failed M_signs M_signMany M_column M_loads M_many M_sums M_groups w30 w31 M_toldMany)) [0, 1, 2, 3, 4, 5, 6, 7, 8, 9, 10, 11] (by decide) rfl
        exact W.zret (v := 0) (ty := .boolean) hx hb hr rfl (fun t ht hW => ⟨⟨0, (), rfl, rfl, by rw [ht]; exact hP9, va_K.moved hW.alike hK, hD9⟩, hS.F ht⟩) hS.2.2 dX11_withN_35
      · have hf := wk_f hf q34
        refine lv_iconst (v := 1) hx hb dX11_withN_30 (by decide) ?_
        refine lv_goto (tgt := 35) hx hb dX11_withN_31 (by decide) ?_
        obtain ⟨e0, e1, e2⟩ := wke3 hf
        subst e0
        subst e1
        subst e2
        have hP9 := hP.sub (ws' := (wX11 Y a M_g M_kept M_saved M_before M_isSaved M_changes M_isWithin M_code M_input M_length M_fault M_failed M_signs M_signMany M_column M_loads M_many M_sums M_groups w30 w31 M_toldMany)) [0, 1, 2, 3, 4, 5, 6, 7, 8, 9, 10, 11] rfl
        have hD9 := hD.sub (ws' := (wX11 Y a M_g M_kept M_saved M_before M_isSaved M_changes M_isWithin M_code M_input M_length M_fault M_failed M_signs M_signMany M_column M_loads M_many M_sums M_groups w30 w31 M_toldMany)) [0, 1, 2, 3, 4, 5, 6, 7, 8, 9, 10, 11] (by decide) rfl
        exact W.zret (v := 1) (ty := .boolean) hx hb hr rfl (fun t ht hW => ⟨⟨1, (), rfl, rfl, by rw [ht]; exact hP9, va_K.moved hW.alike hK, hD9⟩, hS.F ht⟩) hS.2.2 dX11_withN_35
theorem lk_X11_commandHere_RX11_210 : Cond.fieldLink RX11 210 "CircusLedgerModel" "toldMany" "I" ∈ wsX11_commandHere := by decide +kernel
theorem in_X11_commandHere_X11 : ∀ w ∈ u_ws RX11 TX11 22, w ∈ wsX11_commandHere := by decide +kernel
def f_X11_commandHere (M_input : Nat → Int32) (M_length : Int32) (M_at : Int32) (M_told : Nat → Int32) (M_toldMany : Int32) : Option (Int32 × Int32 × (Nat → Int32)) :=
  wkb2 (f_X11_skips M_input M_length M_at 97) (fun r1 w2 =>
  if r1 = 0 then
    (wkb2 (f_X11_skips M_input M_length w2 115) (fun r6 w7 =>
    if r6 = 0 then
      (wkb2 (f_X11_skips M_input M_length w7 110) (fun r11 w12 =>
      if r11 = 0 then
        (wkb2 (f_X11_skips M_input M_length w12 99) (fun r16 w17 =>
        if r16 = 0 then
          (wkb2 (f_X11_skips M_input M_length w17 112) (fun r21 w22 =>
          if r21 = 0 then
            (some (0, w22, M_told))
          else
            (wkb2 (f_X11_skips M_input M_length w22 111) (fun r26 w27 =>
            if r26 = 0 then
              (wkb3 (f_X11_isWord M_input M_length w27 M_told M_toldMany 2 15) (fun r31 w32 w33 =>
              if r31 = 0 then
                (some (0, w32, w33))
              else
                (wkb3 (f_X11_figures M_input M_length w32 w33 32 ((5 * M_toldMany) + 1) 1) (fun r37 w38 w39 =>
                if r37 = 0 then
                  (some (0, w38, w39))
                else
                  (wkb3 (f_X11_figures M_input M_length w38 w39 32 (((5 * M_toldMany) + 1) + 1) 4) (fun r43 w44 w45 =>
                  if r43 = 0 then
                    (some (0, w44, w45))
                  else
                    (some (1, w44, w45))))))))
            else
              (wkb3 (f_X11_isWord M_input M_length w27 M_told M_toldMany 1 14) (fun r49 w50 w51 =>
              if r49 = 0 then
                (some (0, w50, w51))
              else
                (wkb3 (f_X11_figures M_input M_length w50 w51 32 ((5 * M_toldMany) + 1) 4) (fun r55 w56 w57 =>
                if r55 = 0 then
                  (some (0, w56, w57))
                else
                  (wkb3 (f_X11_figures M_input M_length w56 w57 62 (((5 * M_toldMany) + 1) + 1) 4) (fun r61 w62 w63 =>
                  if r61 = 0 then
                    (some (0, w62, w63))
                  else
                    (wkb3 (f_X11_figures M_input M_length w62 w63 32 (((5 * M_toldMany) + 1) + 2) 4) (fun r67 w68 w69 =>
                    if r67 = 0 then
                      (some (0, w68, w69))
                    else
                      (some (1, w68, w69))))))))))))))
        else
          (wkb2 (f_X11_skips M_input M_length w17 108) (fun r73 w74 =>
          if r73 = 0 then
            (wkb3 (f_X11_isWord M_input M_length w74 M_told M_toldMany 7 13) (fun r78 w79 w80 =>
            if r78 = 0 then
              (some (0, w79, w80))
            else
              (wkb3 (f_X11_figures M_input M_length w79 w80 32 ((5 * M_toldMany) + 1) 4) (fun r84 w85 w86 =>
              if r84 = 0 then
                (some (0, w85, w86))
              else
                (wkb3 (f_X11_figures M_input M_length w85 w86 32 (((5 * M_toldMany) + 1) + 1) 4) (fun r90 w91 w92 =>
                if r90 = 0 then
                  (some (0, w91, w92))
                else
                  (some (1, w91, w92))))))))
          else
            (wkb3 (f_X11_isWord M_input M_length w74 M_told M_toldMany 6 12) (fun r96 w97 w98 =>
            gbo r96 (some (r96, w97, w98))))))))
      else
        (wkb3 (f_X11_withN M_input M_length w12 M_told M_toldMany ((5 * M_toldMany) + 1)) (fun r101 w102 w103 =>
        gbo r101 (some (r101, w102, w103))))))
    else
      (wkb3 (f_X11_isWord M_input M_length w7 M_told M_toldMany 3 11) (fun r106 w107 w108 =>
      if r106 = 0 then
        (some (0, w107, w108))
      else
        (wkb3 (f_X11_digits M_input M_length w107 w108 ((5 * M_toldMany) + 1)) (fun r112 w113 w114 =>
        if r112 = 0 then
          (some (0, w113, w114))
        else
          (some (1, w113, w114))))))))
  else
    (wkb3 (f_X11_isWord M_input M_length w2 M_told M_toldMany 0 10) (fun r118 w119 w120 =>
    if r118 = 0 then
      (some (0, w119, w120))
    else
      (wkb3 (f_X11_figures M_input M_length w119 w120 32 ((5 * M_toldMany) + 1) 4) (fun r124 w125 w126 =>
      if r124 = 0 then
        (some (0, w125, w126))
      else
        (wkb3 (f_X11_figures M_input M_length w125 w126 32 (((5 * M_toldMany) + 1) + 1) 4) (fun r130 w131 w132 =>
        if r130 = 0 then
          (some (0, w131, w132))
        else
          (wkb3 (f_X11_figures M_input M_length w131 w132 32 (((5 * M_toldMany) + 1) + 2) 4) (fun r136 w137 w138 =>
          if r136 = 0 then
            (some (0, w137, w138))
          else
            (wkb3 (f_X11_figures M_input M_length w137 w138 32 (((5 * M_toldMany) + 1) + 3) 4) (fun r142 w143 w144 =>
            if r142 = 0 then
              (some (0, w143, w144))
            else
              (some (1, w143, w144)))))))))))))
set_option maxHeartbeats 4000000 in
set_option maxRecDepth 100000 in
theorem c_X11_commandHere (l : Launch) (dC : Nat → ClassId) (dI : Nat → Nat → Nat) (Y : Nat → ClassId) (g : Nat → Nat → Nat) (a : Nat → Nat) (M_g : Nat → Int32) (M_kept : Nat → Int32) (M_saved : Nat → Int32) (M_before : Nat → Int32) (M_isSaved : Int32) (M_changes : Int32) (M_isWithin : Int32) (M_code : Int32) (M_input : Nat → Int32) (M_length : Int32) (M_fault : Int32) (M_failed : Int32) (M_signs : Nat → Int32) (M_signMany : Int32) (M_column : Nat → Int32) (M_loads : Nat → Int32) (M_many : Int32) (M_sums : Nat → Int32) (M_groups : Nat → Int32) (M_at : Int32) (M_told : Nat → Int32) (M_toldMany : Int32)  (sz : Nat) (r : Int32) (zM_at : Int32) (zM_told : Nat → Int32) (hf : f_X11_commandHere M_input M_length M_at M_told M_toldMany = some (r, zM_at, zM_told)) : Met l yX11_commandHere wsX11_commandHere ({ frames := 6, cells := 0, slots := 0, locals := 129 } : Room) (va_Pc [.ref (a 0)] (wk_ET (dC, dI) Y g (wX11 Y a M_g M_kept M_saved M_before M_isSaved M_changes M_isWithin M_code M_input M_length M_fault M_failed M_signs M_signMany M_column M_loads M_many M_sums M_groups M_at M_told M_toldMany) sz)) (va_Qi (fun r2 (_ : Unit) => r2 = r) (fun _ t => wk_X (dC, dI) Y (wX11 Y a M_g M_kept M_saved M_before M_isSaved M_changes M_isWithin M_code M_input M_length M_fault M_failed M_signs M_signMany M_column M_loads M_many M_sums M_groups zM_at zM_told M_toldMany) (va_A (wX11 Y a M_g M_kept M_saved M_before M_isSaved M_changes M_isWithin M_code M_input M_length M_fault M_failed M_signs M_signMany M_column M_loads M_many M_sums M_groups M_at M_told M_toldMany) sz) t) (va_A (wX11 Y a M_g M_kept M_saved M_before M_isSaved M_changes M_isWithin M_code M_input M_length M_fault M_failed M_signs M_signMany M_column M_loads M_many M_sums M_groups M_at M_told M_toldMany) sz)) 0 0 (va_A (wX11 Y a M_g M_kept M_saved M_before M_isSaved M_changes M_isWithin M_code M_input M_length M_fault M_failed M_signs M_signMany M_column M_loads M_many M_sums M_groups M_at M_told M_toldMany) sz) := by
  refine Met.ofW (cc := cX11_commandHere) (maxL := 2) (ret := (some .boolean)) (by decide) rfl ?_
  intro p e s m args below meth c s₁ B hml hv
  obtain ⟨rfl, ⟨hsz, hP, hK, hD0⟩, hT⟩ := hv
  have hx := B.exec
  have hb := B.bytes
  have hr := B.returns
  have hts := atoms_spec (ws := wsX11_commandHere) B.pre
  have hown : s.vm.findClass RX11 = some m.cls := findClass_of_methodNamed B.named
  have hlocks := B.notSynchronized
  have C0 : wk_C p s m _ meth c cX11_commandHere 2 (some .boolean) wsX11_commandHere RX11 := ⟨hx, hb, hml, hr, hlocks, hown, hts⟩
  subst hsz
  have hD := hD0.self (sz := s.heap.size)
  generalize hAe : va_A (wX11 Y a M_g M_kept M_saved M_before M_isSaved M_changes M_isWithin M_code M_input M_length M_fault M_failed M_signs M_signMany M_column M_loads M_many M_sums M_groups M_at M_told M_toldMany) s.heap.size = A at hD hT ⊢
  have hA : ∀ q : Nat, s.heap.size ≤ q → A q := fun q h => by rw [← hAe]; exact Or.inr h
  have hS : va_S A s.heap s.heap [] := va_S.rf
  obtain ⟨H, hHe⟩ : ∃ H, H = s.heap := ⟨_, rfl⟩
  have hS : va_S A s.heap H [] := by rw [hHe]; exact hS
  have hP : va_P (dC, dI) vwCl [(a 0, .inr (11, [.ref (a 1), .ref (a 2), .ref (a 3), .ref (a 4), .int M_isSaved, .int M_changes, .int M_isWithin, .int M_code, .ref (a 5), .int M_length, .int M_fault, .int M_failed, .ref (a 6), .int M_signMany, .ref (a 7), .ref (a 8), .int M_many, .ref (a 9), .ref (a 10), .int M_at, .ref (a 11), .int M_toldMany])), (a 1, .inl (Y 0, 238, .inl M_g)), (a 2, .inl (Y 0, 1904, .inl M_kept)), (a 3, .inl (Y 0, 238, .inl M_saved)), (a 4, .inl (Y 0, 238, .inl M_before)), (a 5, .inl (Y 0, 60, .inl M_input)), (a 6, .inl (Y 2, 100, .inl M_signs)), (a 7, .inl (Y 0, 6, .inl M_column)), (a 8, .inl (Y 0, 6, .inl M_loads)), (a 9, .inl (Y 0, 2048, .inl M_sums)), (a 10, .inl (Y 0, 2048, .inl M_groups)), (a 11, .inl (Y 0, 155, .inl M_told))] H := by rw [hHe]; exact hP
  have hD : va_D A [(a 0, .inr (11, [.ref (a 1), .ref (a 2), .ref (a 3), .ref (a 4), .int M_isSaved, .int M_changes, .int M_isWithin, .int M_code, .ref (a 5), .int M_length, .int M_fault, .int M_failed, .ref (a 6), .int M_signMany, .ref (a 7), .ref (a 8), .int M_many, .ref (a 9), .ref (a 10), .int M_at, .ref (a 11), .int M_toldMany])), (a 1, .inl (Y 0, 238, .inl M_g)), (a 2, .inl (Y 0, 1904, .inl M_kept)), (a 3, .inl (Y 0, 238, .inl M_saved)), (a 4, .inl (Y 0, 238, .inl M_before)), (a 5, .inl (Y 0, 60, .inl M_input)), (a 6, .inl (Y 2, 100, .inl M_signs)), (a 7, .inl (Y 0, 6, .inl M_column)), (a 8, .inl (Y 0, 6, .inl M_loads)), (a 9, .inl (Y 0, 2048, .inl M_sums)), (a 10, .inl (Y 0, 2048, .inl M_groups)), (a 11, .inl (Y 0, 155, .inl M_told))] := hD
  obtain ⟨locs, hlo⟩ : ∃ locs : List Loc, locs = [] := ⟨_, rfl⟩
  have hS : va_S A s.heap H locs := by rw [hlo]; exact hS
  have hl := lv_entry ([.ref (a 0)]) (n := 2) (Nat.le_of_ble_eq_true rfl)
  rw [lg_entry_eq]
  generalize (lg_sl ([.ref (a 0)]) ++ List.replicate (2 - (lg_sl ([.ref (a 0)])).length) Slot.unset).toArray = ls at hl ⊢
  have hl : lv_has ls 2 [(0, .ref (a 0))] := hl
  refine wk_start hHe hlo ?_
  rw [f_X11_commandHere] at hf
  refine lv_iconst (v := 5) hx hb dX11_commandHere_0 (by decide) ?_
  refine lv_aload_n hx hb dX11_commandHere_1 rfl (lv_at hl 0 rfl) ?_
  refine va_get (D := (dC, dI)) (ci := 11) (v := .int M_toldMany) (C := RX11) (T := TX11) (N := 22) hx hb hts in_X11_commandHere_X11 hown hK hP 0 rfl rfl 21 (by decide) (hts _ lk_X11_commandHere_RX11_210) (fun _ h9 => h9) rfl dX11_commandHere_2 ?_
  refine lv_imul hx hb dX11_commandHere_5 ?_
  refine lv_iconst (v := 1) hx hb dX11_commandHere_6 (by decide) ?_
  refine lv_iadd hx hb dX11_commandHere_7 ?_
  refine lv_istore_n (lv' := [(1, .int ((5 * M_toldMany) + 1)), (0, .ref (a 0))]) hx hb dX11_commandHere_8 rfl hl (by decide) rfl (fun ls hl => ?_)
  refine lv_aload_n hx hb dX11_commandHere_9 rfl (lv_at hl 1 rfl) ?_
  refine lv_bipush (v := 97) hx hb dX11_commandHere_10 (by decide) ?_
  obtain ⟨r1, w2, hr3, hf⟩ := wkb2_s hf
  refine wk_evi (As := [.int 97]) (rest := []) (wc := (wX11 Y a M_g M_kept M_saved M_before M_isSaved M_changes M_isWithin M_code M_input M_length M_fault M_failed M_signs M_signMany M_column M_loads M_many M_sums M_groups M_at M_told M_toldMany)) (w1 := (wX11 Y a M_g M_kept M_saved M_before M_isSaved M_changes M_isWithin M_code M_input M_length M_fault M_failed M_signs M_signMany M_column M_loads M_many M_sums M_groups w2 M_told M_toldMany)) (wr := []) ⟨hx, hb, hml, hown, hts⟩ (c_X11_skips l dC dI Y a M_g M_kept M_saved M_before M_isSaved M_changes M_isWithin M_code M_input M_length M_fault M_failed M_signs M_signMany M_column M_loads M_many M_sums M_groups M_at M_told M_toldMany 97 H.size r1 w2 hr3) (cwV 1 hts gX11_commandHere_X11_skips rfl rfl rfl (by decide +kernel) ⟨Nat.le_of_ble_eq_true rfl, Nat.le_of_ble_eq_true rfl⟩) hK hP hD hS hA [0, 1, 2, 3, 4, 5, 6, 7, 8, 9, 10, 11] [] rfl rfl (by decide) (by decide) (by decide) (va_recv hK hP (ci := 11) (q0 := 0) rfl rfl) rfl hl.1 rfl (Nat.le_of_ble_eq_true rfl) dX11_commandHere_12 ⟨Nat.le_of_ble_eq_true rfl, Nat.le_of_ble_eq_true rfl⟩ (fun H locs hP hD hS => ?_)
  have hP : va_P (dC, dI) vwCl [(a 0, .inr (11, [.ref (a 1), .ref (a 2), .ref (a 3), .ref (a 4), .int M_isSaved, .int M_changes, .int M_isWithin, .int M_code, .ref (a 5), .int M_length, .int M_fault, .int M_failed, .ref (a 6), .int M_signMany, .ref (a 7), .ref (a 8), .int M_many, .ref (a 9), .ref (a 10), .int w2, .ref (a 11), .int M_toldMany])), (a 1, .inl (Y 0, 238, .inl M_g)), (a 2, .inl (Y 0, 1904, .inl M_kept)), (a 3, .inl (Y 0, 238, .inl M_saved)), (a 4, .inl (Y 0, 238, .inl M_before)), (a 5, .inl (Y 0, 60, .inl M_input)), (a 6, .inl (Y 2, 100, .inl M_signs)), (a 7, .inl (Y 0, 6, .inl M_column)), (a 8, .inl (Y 0, 6, .inl M_loads)), (a 9, .inl (Y 0, 2048, .inl M_sums)), (a 10, .inl (Y 0, 2048, .inl M_groups)), (a 11, .inl (Y 0, 155, .inl M_told))] H := hP
  have hD : va_D A [(a 0, .inr (11, [.ref (a 1), .ref (a 2), .ref (a 3), .ref (a 4), .int M_isSaved, .int M_changes, .int M_isWithin, .int M_code, .ref (a 5), .int M_length, .int M_fault, .int M_failed, .ref (a 6), .int M_signMany, .ref (a 7), .ref (a 8), .int M_many, .ref (a 9), .ref (a 10), .int w2, .ref (a 11), .int M_toldMany])), (a 1, .inl (Y 0, 238, .inl M_g)), (a 2, .inl (Y 0, 1904, .inl M_kept)), (a 3, .inl (Y 0, 238, .inl M_saved)), (a 4, .inl (Y 0, 238, .inl M_before)), (a 5, .inl (Y 0, 60, .inl M_input)), (a 6, .inl (Y 2, 100, .inl M_signs)), (a 7, .inl (Y 0, 6, .inl M_column)), (a 8, .inl (Y 0, 6, .inl M_loads)), (a 9, .inl (Y 0, 2048, .inl M_sums)), (a 10, .inl (Y 0, 2048, .inl M_groups)), (a 11, .inl (Y 0, 155, .inl M_told))] := hD
  refine lv_if_eq (tgt := 84) hx hb dX11_commandHere_15 (by decide) (fun q5 => ?_) (fun q5 => ?_)
  · have hf := wk_t hf q5
    refine lv_aload_n hx hb dX11_commandHere_84 rfl (lv_at hl 1 rfl) ?_
    refine lv_bipush (v := 115) hx hb dX11_commandHere_85 (by decide) ?_
    obtain ⟨r6, w7, hr8, hf⟩ := wkb2_s hf
    refine wk_evi (As := [.int 115]) (rest := []) (wc := (wX11 Y a M_g M_kept M_saved M_before M_isSaved M_changes M_isWithin M_code M_input M_length M_fault M_failed M_signs M_signMany M_column M_loads M_many M_sums M_groups w2 M_told M_toldMany)) (w1 := (wX11 Y a M_g M_kept M_saved M_before M_isSaved M_changes M_isWithin M_code M_input M_length M_fault M_failed M_signs M_signMany M_column M_loads M_many M_sums M_groups w7 M_told M_toldMany)) (wr := []) ⟨hx, hb, hml, hown, hts⟩ (c_X11_skips l dC dI Y a M_g M_kept M_saved M_before M_isSaved M_changes M_isWithin M_code M_input M_length M_fault M_failed M_signs M_signMany M_column M_loads M_many M_sums M_groups w2 M_told M_toldMany 115 H.size r6 w7 hr8) (cwV 1 hts gX11_commandHere_X11_skips rfl rfl rfl (by decide +kernel) ⟨Nat.le_of_ble_eq_true rfl, Nat.le_of_ble_eq_true rfl⟩) hK hP hD hS hA [0, 1, 2, 3, 4, 5, 6, 7, 8, 9, 10, 11] [] rfl rfl (by decide) (by decide) (by decide) (va_recv hK hP (ci := 11) (q0 := 0) rfl rfl) rfl hl.1 rfl (Nat.le_of_ble_eq_true rfl) dX11_commandHere_87 ⟨Nat.le_of_ble_eq_true rfl, Nat.le_of_ble_eq_true rfl⟩ (fun H locs hP hD hS => ?_)
    have hP : va_P (dC, dI) vwCl [(a 0, .inr (11, [.ref (a 1), .ref (a 2), .ref (a 3), .ref (a 4), .int M_isSaved, .int M_changes, .int M_isWithin, .int M_code, .ref (a 5), .int M_length, .int M_fault, .int M_failed, .ref (a 6), .int M_signMany, .ref (a 7), .ref (a 8), .int M_many, .ref (a 9), .ref (a 10), .int w7, .ref (a 11), .int M_toldMany])), (a 1, .inl (Y 0, 238, .inl M_g)), (a 2, .inl (Y 0, 1904, .inl M_kept)), (a 3, .inl (Y 0, 238, .inl M_saved)), (a 4, .inl (Y 0, 238, .inl M_before)), (a 5, .inl (Y 0, 60, .inl M_input)), (a 6, .inl (Y 2, 100, .inl M_signs)), (a 7, .inl (Y 0, 6, .inl M_column)), (a 8, .inl (Y 0, 6, .inl M_loads)), (a 9, .inl (Y 0, 2048, .inl M_sums)), (a 10, .inl (Y 0, 2048, .inl M_groups)), (a 11, .inl (Y 0, 155, .inl M_told))] H := hP
    have hD : va_D A [(a 0, .inr (11, [.ref (a 1), .ref (a 2), .ref (a 3), .ref (a 4), .int M_isSaved, .int M_changes, .int M_isWithin, .int M_code, .ref (a 5), .int M_length, .int M_fault, .int M_failed, .ref (a 6), .int M_signMany, .ref (a 7), .ref (a 8), .int M_many, .ref (a 9), .ref (a 10), .int w7, .ref (a 11), .int M_toldMany])), (a 1, .inl (Y 0, 238, .inl M_g)), (a 2, .inl (Y 0, 1904, .inl M_kept)), (a 3, .inl (Y 0, 238, .inl M_saved)), (a 4, .inl (Y 0, 238, .inl M_before)), (a 5, .inl (Y 0, 60, .inl M_input)), (a 6, .inl (Y 2, 100, .inl M_signs)), (a 7, .inl (Y 0, 6, .inl M_column)), (a 8, .inl (Y 0, 6, .inl M_loads)), (a 9, .inl (Y 0, 2048, .inl M_sums)), (a 10, .inl (Y 0, 2048, .inl M_groups)), (a 11, .inl (Y 0, 155, .inl M_told))] := hD
    refine lv_if_eq (tgt := 117) hx hb dX11_commandHere_90 (by decide) (fun q10 => ?_) (fun q10 => ?_)
    · have hf := wk_t hf q10
      refine lv_aload_n hx hb dX11_commandHere_117 rfl (lv_at hl 1 rfl) ?_
      refine lv_bipush (v := 110) hx hb dX11_commandHere_118 (by decide) ?_
      obtain ⟨r11, w12, hr13, hf⟩ := wkb2_s hf
      refine wk_evi (As := [.int 110]) (rest := []) (wc := (wX11 Y a M_g M_kept M_saved M_before M_isSaved M_changes M_isWithin M_code M_input M_length M_fault M_failed M_signs M_signMany M_column M_loads M_many M_sums M_groups w7 M_told M_toldMany)) (w1 := (wX11 Y a M_g M_kept M_saved M_before M_isSaved M_changes M_isWithin M_code M_input M_length M_fault M_failed M_signs M_signMany M_column M_loads M_many M_sums M_groups w12 M_told M_toldMany)) (wr := []) ⟨hx, hb, hml, hown, hts⟩ (c_X11_skips l dC dI Y a M_g M_kept M_saved M_before M_isSaved M_changes M_isWithin M_code M_input M_length M_fault M_failed M_signs M_signMany M_column M_loads M_many M_sums M_groups w7 M_told M_toldMany 110 H.size r11 w12 hr13) (cwV 1 hts gX11_commandHere_X11_skips rfl rfl rfl (by decide +kernel) ⟨Nat.le_of_ble_eq_true rfl, Nat.le_of_ble_eq_true rfl⟩) hK hP hD hS hA [0, 1, 2, 3, 4, 5, 6, 7, 8, 9, 10, 11] [] rfl rfl (by decide) (by decide) (by decide) (va_recv hK hP (ci := 11) (q0 := 0) rfl rfl) rfl hl.1 rfl (Nat.le_of_ble_eq_true rfl) dX11_commandHere_120 ⟨Nat.le_of_ble_eq_true rfl, Nat.le_of_ble_eq_true rfl⟩ (fun H locs hP hD hS => ?_)
      have hP : va_P (dC, dI) vwCl [(a 0, .inr (11, [.ref (a 1), .ref (a 2), .ref (a 3), .ref (a 4), .int M_isSaved, .int M_changes, .int M_isWithin, .int M_code, .ref (a 5), .int M_length, .int M_fault, .int M_failed, .ref (a 6), .int M_signMany, .ref (a 7), .ref (a 8), .int M_many, .ref (a 9), .ref (a 10), .int w12, .ref (a 11), .int M_toldMany])), (a 1, .inl (Y 0, 238, .inl M_g)), (a 2, .inl (Y 0, 1904, .inl M_kept)), (a 3, .inl (Y 0, 238, .inl M_saved)), (a 4, .inl (Y 0, 238, .inl M_before)), (a 5, .inl (Y 0, 60, .inl M_input)), (a 6, .inl (Y 2, 100, .inl M_signs)), (a 7, .inl (Y 0, 6, .inl M_column)), (a 8, .inl (Y 0, 6, .inl M_loads)), (a 9, .inl (Y 0, 2048, .inl M_sums)), (a 10, .inl (Y 0, 2048, .inl M_groups)), (a 11, .inl (Y 0, 155, .inl M_told))] H := hP
      have hD : va_D A [(a 0, .inr (11, [.ref (a 1), .ref (a 2), .ref (a 3), .ref (a 4), .int M_isSaved, .int M_changes, .int M_isWithin, .int M_code, .ref (a 5), .int M_length, .int M_fault, .int M_failed, .ref (a 6), .int M_signMany, .ref (a 7), .ref (a 8), .int M_many, .ref (a 9), .ref (a 10), .int w12, .ref (a 11), .int M_toldMany])), (a 1, .inl (Y 0, 238, .inl M_g)), (a 2, .inl (Y 0, 1904, .inl M_kept)), (a 3, .inl (Y 0, 238, .inl M_saved)), (a 4, .inl (Y 0, 238, .inl M_before)), (a 5, .inl (Y 0, 60, .inl M_input)), (a 6, .inl (Y 2, 100, .inl M_signs)), (a 7, .inl (Y 0, 6, .inl M_column)), (a 8, .inl (Y 0, 6, .inl M_loads)), (a 9, .inl (Y 0, 2048, .inl M_sums)), (a 10, .inl (Y 0, 2048, .inl M_groups)), (a 11, .inl (Y 0, 155, .inl M_told))] := hD
      refine lv_if_eq (tgt := 132) hx hb dX11_commandHere_123 (by decide) (fun q15 => ?_) (fun q15 => ?_)
      · have hf := wk_t hf q15
        refine lv_aload_n hx hb dX11_commandHere_132 rfl (lv_at hl 1 rfl) ?_
        refine lv_bipush (v := 99) hx hb dX11_commandHere_133 (by decide) ?_
        obtain ⟨r16, w17, hr18, hf⟩ := wkb2_s hf
        refine wk_evi (As := [.int 99]) (rest := []) (wc := (wX11 Y a M_g M_kept M_saved M_before M_isSaved M_changes M_isWithin M_code M_input M_length M_fault M_failed M_signs M_signMany M_column M_loads M_many M_sums M_groups w12 M_told M_toldMany)) (w1 := (wX11 Y a M_g M_kept M_saved M_before M_isSaved M_changes M_isWithin M_code M_input M_length M_fault M_failed M_signs M_signMany M_column M_loads M_many M_sums M_groups w17 M_told M_toldMany)) (wr := []) ⟨hx, hb, hml, hown, hts⟩ (c_X11_skips l dC dI Y a M_g M_kept M_saved M_before M_isSaved M_changes M_isWithin M_code M_input M_length M_fault M_failed M_signs M_signMany M_column M_loads M_many M_sums M_groups w12 M_told M_toldMany 99 H.size r16 w17 hr18) (cwV 1 hts gX11_commandHere_X11_skips rfl rfl rfl (by decide +kernel) ⟨Nat.le_of_ble_eq_true rfl, Nat.le_of_ble_eq_true rfl⟩) hK hP hD hS hA [0, 1, 2, 3, 4, 5, 6, 7, 8, 9, 10, 11] [] rfl rfl (by decide) (by decide) (by decide) (va_recv hK hP (ci := 11) (q0 := 0) rfl rfl) rfl hl.1 rfl (Nat.le_of_ble_eq_true rfl) dX11_commandHere_135 ⟨Nat.le_of_ble_eq_true rfl, Nat.le_of_ble_eq_true rfl⟩ (fun H locs hP hD hS => ?_)
        have hP : va_P (dC, dI) vwCl [(a 0, .inr (11, [.ref (a 1), .ref (a 2), .ref (a 3), .ref (a 4), .int M_isSaved, .int M_changes, .int M_isWithin, .int M_code, .ref (a 5), .int M_length, .int M_fault, .int M_failed, .ref (a 6), .int M_signMany, .ref (a 7), .ref (a 8), .int M_many, .ref (a 9), .ref (a 10), .int w17, .ref (a 11), .int M_toldMany])), (a 1, .inl (Y 0, 238, .inl M_g)), (a 2, .inl (Y 0, 1904, .inl M_kept)), (a 3, .inl (Y 0, 238, .inl M_saved)), (a 4, .inl (Y 0, 238, .inl M_before)), (a 5, .inl (Y 0, 60, .inl M_input)), (a 6, .inl (Y 2, 100, .inl M_signs)), (a 7, .inl (Y 0, 6, .inl M_column)), (a 8, .inl (Y 0, 6, .inl M_loads)), (a 9, .inl (Y 0, 2048, .inl M_sums)), (a 10, .inl (Y 0, 2048, .inl M_groups)), (a 11, .inl (Y 0, 155, .inl M_told))] H := hP
        have hD : va_D A [(a 0, .inr (11, [.ref (a 1), .ref (a 2), .ref (a 3), .ref (a 4), .int M_isSaved, .int M_changes, .int M_isWithin, .int M_code, .ref (a 5), .int M_length, .int M_fault, .int M_failed, .ref (a 6), .int M_signMany, .ref (a 7), .ref (a 8), .int M_many, .ref (a 9), .ref (a 10), .int w17, .ref (a 11), .int M_toldMany])), (a 1, .inl (Y 0, 238, .inl M_g)), (a 2, .inl (Y 0, 1904, .inl M_kept)), (a 3, .inl (Y 0, 238, .inl M_saved)), (a 4, .inl (Y 0, 238, .inl M_before)), (a 5, .inl (Y 0, 60, .inl M_input)), (a 6, .inl (Y 2, 100, .inl M_signs)), (a 7, .inl (Y 0, 6, .inl M_column)), (a 8, .inl (Y 0, 6, .inl M_loads)), (a 9, .inl (Y 0, 2048, .inl M_sums)), (a 10, .inl (Y 0, 2048, .inl M_groups)), (a 11, .inl (Y 0, 155, .inl M_told))] := hD
        refine lv_if_eq (tgt := 202) hx hb dX11_commandHere_138 (by decide) (fun q20 => ?_) (fun q20 => ?_)
        · have hf := wk_t hf q20
          refine lv_aload_n hx hb dX11_commandHere_202 rfl (lv_at hl 1 rfl) ?_
          refine lv_bipush (v := 112) hx hb dX11_commandHere_203 (by decide) ?_
          obtain ⟨r21, w22, hr23, hf⟩ := wkb2_s hf
          refine wk_evi (As := [.int 112]) (rest := []) (wc := (wX11 Y a M_g M_kept M_saved M_before M_isSaved M_changes M_isWithin M_code M_input M_length M_fault M_failed M_signs M_signMany M_column M_loads M_many M_sums M_groups w17 M_told M_toldMany)) (w1 := (wX11 Y a M_g M_kept M_saved M_before M_isSaved M_changes M_isWithin M_code M_input M_length M_fault M_failed M_signs M_signMany M_column M_loads M_many M_sums M_groups w22 M_told M_toldMany)) (wr := []) ⟨hx, hb, hml, hown, hts⟩ (c_X11_skips l dC dI Y a M_g M_kept M_saved M_before M_isSaved M_changes M_isWithin M_code M_input M_length M_fault M_failed M_signs M_signMany M_column M_loads M_many M_sums M_groups w17 M_told M_toldMany 112 H.size r21 w22 hr23) (cwV 1 hts gX11_commandHere_X11_skips rfl rfl rfl (by decide +kernel) ⟨Nat.le_of_ble_eq_true rfl, Nat.le_of_ble_eq_true rfl⟩) hK hP hD hS hA [0, 1, 2, 3, 4, 5, 6, 7, 8, 9, 10, 11] [] rfl rfl (by decide) (by decide) (by decide) (va_recv hK hP (ci := 11) (q0 := 0) rfl rfl) rfl hl.1 rfl (Nat.le_of_ble_eq_true rfl) dX11_commandHere_205 ⟨Nat.le_of_ble_eq_true rfl, Nat.le_of_ble_eq_true rfl⟩ (fun H locs hP hD hS => ?_)
          have hP : va_P (dC, dI) vwCl [(a 0, .inr (11, [.ref (a 1), .ref (a 2), .ref (a 3), .ref (a 4), .int M_isSaved, .int M_changes, .int M_isWithin, .int M_code, .ref (a 5), .int M_length, .int M_fault, .int M_failed, .ref (a 6), .int M_signMany, .ref (a 7), .ref (a 8), .int M_many, .ref (a 9), .ref (a 10), .int w22, .ref (a 11), .int M_toldMany])), (a 1, .inl (Y 0, 238, .inl M_g)), (a 2, .inl (Y 0, 1904, .inl M_kept)), (a 3, .inl (Y 0, 238, .inl M_saved)), (a 4, .inl (Y 0, 238, .inl M_before)), (a 5, .inl (Y 0, 60, .inl M_input)), (a 6, .inl (Y 2, 100, .inl M_signs)), (a 7, .inl (Y 0, 6, .inl M_column)), (a 8, .inl (Y 0, 6, .inl M_loads)), (a 9, .inl (Y 0, 2048, .inl M_sums)), (a 10, .inl (Y 0, 2048, .inl M_groups)), (a 11, .inl (Y 0, 155, .inl M_told))] H := hP
          have hD : va_D A [(a 0, .inr (11, [.ref (a 1), .ref (a 2), .ref (a 3), .ref (a 4), .int M_isSaved, .int M_changes, .int M_isWithin, .int M_code, .ref (a 5), .int M_length, .int M_fault, .int M_failed, .ref (a 6), .int M_signMany, .ref (a 7), .ref (a 8), .int M_many, .ref (a 9), .ref (a 10), .int w22, .ref (a 11), .int M_toldMany])), (a 1, .inl (Y 0, 238, .inl M_g)), (a 2, .inl (Y 0, 1904, .inl M_kept)), (a 3, .inl (Y 0, 238, .inl M_saved)), (a 4, .inl (Y 0, 238, .inl M_before)), (a 5, .inl (Y 0, 60, .inl M_input)), (a 6, .inl (Y 2, 100, .inl M_signs)), (a 7, .inl (Y 0, 6, .inl M_column)), (a 8, .inl (Y 0, 6, .inl M_loads)), (a 9, .inl (Y 0, 2048, .inl M_sums)), (a 10, .inl (Y 0, 2048, .inl M_groups)), (a 11, .inl (Y 0, 155, .inl M_told))] := hD
          refine lv_if_ne (tgt := 213) hx hb dX11_commandHere_208 (by decide) (fun q25 => ?_) (fun q25 => ?_)
          · have hf := wk_f hf q25
            refine lv_aload_n hx hb dX11_commandHere_213 rfl (lv_at hl 1 rfl) ?_
            refine lv_bipush (v := 111) hx hb dX11_commandHere_214 (by decide) ?_
            obtain ⟨r26, w27, hr28, hf⟩ := wkb2_s hf
            refine wk_evi (As := [.int 111]) (rest := []) (wc := (wX11 Y a M_g M_kept M_saved M_before M_isSaved M_changes M_isWithin M_code M_input M_length M_fault M_failed M_signs M_signMany M_column M_loads M_many M_sums M_groups w22 M_told M_toldMany)) (w1 := (wX11 Y a M_g M_kept M_saved M_before M_isSaved M_changes M_isWithin M_code M_input M_length M_fault M_failed M_signs M_signMany M_column M_loads M_many M_sums M_groups w27 M_told M_toldMany)) (wr := []) ⟨hx, hb, hml, hown, hts⟩ (c_X11_skips l dC dI Y a M_g M_kept M_saved M_before M_isSaved M_changes M_isWithin M_code M_input M_length M_fault M_failed M_signs M_signMany M_column M_loads M_many M_sums M_groups w22 M_told M_toldMany 111 H.size r26 w27 hr28) (cwV 1 hts gX11_commandHere_X11_skips rfl rfl rfl (by decide +kernel) ⟨Nat.le_of_ble_eq_true rfl, Nat.le_of_ble_eq_true rfl⟩) hK hP hD hS hA [0, 1, 2, 3, 4, 5, 6, 7, 8, 9, 10, 11] [] rfl rfl (by decide) (by decide) (by decide) (va_recv hK hP (ci := 11) (q0 := 0) rfl rfl) rfl hl.1 rfl (Nat.le_of_ble_eq_true rfl) dX11_commandHere_216 ⟨Nat.le_of_ble_eq_true rfl, Nat.le_of_ble_eq_true rfl⟩ (fun H locs hP hD hS => ?_)
            have hP : va_P (dC, dI) vwCl [(a 0, .inr (11, [.ref (a 1), .ref (a 2), .ref (a 3), .ref (a 4), .int M_isSaved, .int M_changes, .int M_isWithin, .int M_code, .ref (a 5), .int M_length, .int M_fault, .int M_failed, .ref (a 6), .int M_signMany, .ref (a 7), .ref (a 8), .int M_many, .ref (a 9), .ref (a 10), .int w27, .ref (a 11), .int M_toldMany])), (a 1, .inl (Y 0, 238, .inl M_g)), (a 2, .inl (Y 0, 1904, .inl M_kept)), (a 3, .inl (Y 0, 238, .inl M_saved)), (a 4, .inl (Y 0, 238, .inl M_before)), (a 5, .inl (Y 0, 60, .inl M_input)), (a 6, .inl (Y 2, 100, .inl M_signs)), (a 7, .inl (Y 0, 6, .inl M_column)), (a 8, .inl (Y 0, 6, .inl M_loads)), (a 9, .inl (Y 0, 2048, .inl M_sums)), (a 10, .inl (Y 0, 2048, .inl M_groups)), (a 11, .inl (Y 0, 155, .inl M_told))] H := hP
            have hD : va_D A [(a 0, .inr (11, [.ref (a 1), .ref (a 2), .ref (a 3), .ref (a 4), .int M_isSaved, .int M_changes, .int M_isWithin, .int M_code, .ref (a 5), .int M_length, .int M_fault, .int M_failed, .ref (a 6), .int M_signMany, .ref (a 7), .ref (a 8), .int M_many, .ref (a 9), .ref (a 10), .int w27, .ref (a 11), .int M_toldMany])), (a 1, .inl (Y 0, 238, .inl M_g)), (a 2, .inl (Y 0, 1904, .inl M_kept)), (a 3, .inl (Y 0, 238, .inl M_saved)), (a 4, .inl (Y 0, 238, .inl M_before)), (a 5, .inl (Y 0, 60, .inl M_input)), (a 6, .inl (Y 2, 100, .inl M_signs)), (a 7, .inl (Y 0, 6, .inl M_column)), (a 8, .inl (Y 0, 6, .inl M_loads)), (a 9, .inl (Y 0, 2048, .inl M_sums)), (a 10, .inl (Y 0, 2048, .inl M_groups)), (a 11, .inl (Y 0, 155, .inl M_told))] := hD
            refine lv_if_eq (tgt := 275) hx hb dX11_commandHere_219 (by decide) (fun q30 => ?_) (fun q30 => ?_)
            · have hf := wk_t hf q30
              refine lv_aload_n hx hb dX11_commandHere_275 rfl (lv_at hl 1 rfl) ?_
              refine lv_iconst (v := 2) hx hb dX11_commandHere_276 (by decide) ?_
              refine va_ldcS (q := g 2 15) hx hb hown (wk_T.wrd hT 7 (by decide)) dX11_commandHere_277 ?_
              obtain ⟨r31, w32, w33, hr34, hf⟩ := wkb3_s hf
              refine wk_eviT (As := [.int 2, .ref (g 2 15)]) (rest := []) (wc := (wX11 Y a M_g M_kept M_saved M_before M_isSaved M_changes M_isWithin M_code M_input M_length M_fault M_failed M_signs M_signMany M_column M_loads M_many M_sums M_groups w27 M_told M_toldMany)) (w1 := (wX11 Y a M_g M_kept M_saved M_before M_isSaved M_changes M_isWithin M_code M_input M_length M_fault M_failed M_signs M_signMany M_column M_loads M_many M_sums M_groups w32 w33 M_toldMany)) (wr := []) ⟨hx, hb, hml, hown, hts⟩ (c_X11_isWord l dC dI Y g a M_g M_kept M_saved M_before M_isSaved M_changes M_isWithin M_code M_input M_length M_fault M_failed M_signs M_signMany M_column M_loads M_many M_sums M_groups w27 M_told M_toldMany 2 15 H.size r31 w32 w33 hr34) (cwV 2 hts gX11_commandHere_X11_isWord rfl rfl rfl (by decide +kernel) ⟨Nat.le_of_ble_eq_true rfl, Nat.le_of_ble_eq_true rfl⟩) hK hP hD hS hA hT [0, 1, 2, 3, 4, 5, 6, 7, 8, 9, 10, 11] [] rfl rfl (by decide) (by decide) (by decide) (va_recv hK hP (ci := 11) (q0 := 0) rfl rfl) rfl hl.1 rfl (Nat.le_of_ble_eq_true rfl) dX11_commandHere_279 ⟨Nat.le_of_ble_eq_true rfl, Nat.le_of_ble_eq_true rfl⟩ (fun H locs hP hD hS => ?_)
              have hP : va_P (dC, dI) vwCl [(a 0, .inr (11, [.ref (a 1), .ref (a 2), .ref (a 3), .ref (a 4), .int M_isSaved, .int M_changes, .int M_isWithin, .int M_code, .ref (a 5), .int M_length, .int M_fault, .int M_failed, .ref (a 6), .int M_signMany, .ref (a 7), .ref (a 8), .int M_many, .ref (a 9), .ref (a 10), .int w32, .ref (a 11), .int M_toldMany])), (a 1, .inl (Y 0, 238, .inl M_g)), (a 2, .inl (Y 0, 1904, .inl M_kept)), (a 3, .inl (Y 0, 238, .inl M_saved)), (a 4, .inl (Y 0, 238, .inl M_before)), (a 5, .inl (Y 0, 60, .inl M_input)), (a 6, .inl (Y 2, 100, .inl M_signs)), (a 7, .inl (Y 0, 6, .inl M_column)), (a 8, .inl (Y 0, 6, .inl M_loads)), (a 9, .inl (Y 0, 2048, .inl M_sums)), (a 10, .inl (Y 0, 2048, .inl M_groups)), (a 11, .inl (Y 0, 155, .inl w33))] H := hP
              have hD : va_D A [(a 0, .inr (11, [.ref (a 1), .ref (a 2), .ref (a 3), .ref (a 4), .int M_isSaved, .int M_changes, .int M_isWithin, .int M_code, .ref (a 5), .int M_length, .int M_fault, .int M_failed, .ref (a 6), .int M_signMany, .ref (a 7), .ref (a 8), .int M_many, .ref (a 9), .ref (a 10), .int w32, .ref (a 11), .int M_toldMany])), (a 1, .inl (Y 0, 238, .inl M_g)), (a 2, .inl (Y 0, 1904, .inl M_kept)), (a 3, .inl (Y 0, 238, .inl M_saved)), (a 4, .inl (Y 0, 238, .inl M_before)), (a 5, .inl (Y 0, 60, .inl M_input)), (a 6, .inl (Y 2, 100, .inl M_signs)), (a 7, .inl (Y 0, 6, .inl M_column)), (a 8, .inl (Y 0, 6, .inl M_loads)), (a 9, .inl (Y 0, 2048, .inl M_sums)), (a 10, .inl (Y 0, 2048, .inl M_groups)), (a 11, .inl (Y 0, 155, .inl w33))] := hD
              refine lv_if_eq (tgt := 313) hx hb dX11_commandHere_282 (by decide) (fun q36 => ?_) (fun q36 => ?_)
              · have hf := wk_t hf q36
                refine lv_iconst (v := 0) hx hb dX11_commandHere_313 (by decide) ?_
                obtain ⟨e0, e1, e2⟩ := wke3 hf
                subst e0
                subst e1
                subst e2
                have hP9 := hP.sub (ws' := (wX11 Y a M_g M_kept M_saved M_before M_isSaved M_changes M_isWithin M_code M_input M_length M_fault M_failed M_signs M_signMany M_column M_loads M_many M_sums M_groups w32 w33 M_toldMany)) [0, 1, 2, 3, 4, 5, 6, 7, 8, 9, 10, 11] rfl
                have hD9 := hD.sub (ws' := (wX11 Y a M_g M_kept M_saved M_before M_isSaved M_changes M_isWithin M_code M_input M_length M_fault M_failed M_signs M_signMany M_column M_loads M_many M_sums M_groups w32 w33 M_toldMany)) [0, 1, 2, 3, 4, 5, 6, 7, 8, 9, 10, 11] (by decide) rfl
                exact W.zret (v := 0) (ty := .boolean) hx hb hr rfl (fun t ht hW => ⟨⟨0, (), rfl, rfl, by rw [ht]; exact hP9, va_K.moved hW.alike hK, hD9⟩, hS.F ht⟩) hS.2.2 dX11_commandHere_314
              · have hf := wk_f hf q36
                refine lv_aload_n hx hb dX11_commandHere_285 rfl (lv_at hl 1 rfl) ?_
                refine lv_bipush (v := 32) hx hb dX11_commandHere_286 (by decide) ?_
                refine lv_iload_n hx hb dX11_commandHere_288 rfl (lv_at hl 0 rfl) ?_
                refine lv_iconst (v := 1) hx hb dX11_commandHere_289 (by decide) ?_
                obtain ⟨r37, w38, w39, hr40, hf⟩ := wkb3_s hf
                refine wk_evi (As := [.int 32, .int ((5 * M_toldMany) + 1), .int 1]) (rest := []) (wc := (wX11 Y a M_g M_kept M_saved M_before M_isSaved M_changes M_isWithin M_code M_input M_length M_fault M_failed M_signs M_signMany M_column M_loads M_many M_sums M_groups w32 w33 M_toldMany)) (w1 := (wX11 Y a M_g M_kept M_saved M_before M_isSaved M_changes M_isWithin M_code M_input M_length M_fault M_failed M_signs M_signMany M_column M_loads M_many M_sums M_groups w38 w39 M_toldMany)) (wr := []) ⟨hx, hb, hml, hown, hts⟩ (c_X11_figures l dC dI Y a M_g M_kept M_saved M_before M_isSaved M_changes M_isWithin M_code M_input M_length M_fault M_failed M_signs M_signMany M_column M_loads M_many M_sums M_groups w32 w33 M_toldMany 32 ((5 * M_toldMany) + 1) 1 H.size r37 w38 w39 hr40) (cwV 3 hts gX11_commandHere_X11_figures rfl rfl rfl (by decide +kernel) ⟨Nat.le_of_ble_eq_true rfl, Nat.le_of_ble_eq_true rfl⟩) hK hP hD hS hA [0, 1, 2, 3, 4, 5, 6, 7, 8, 9, 10, 11] [] rfl rfl (by decide) (by decide) (by decide) (va_recv hK hP (ci := 11) (q0 := 0) rfl rfl) rfl hl.1 rfl (Nat.le_of_ble_eq_true rfl) dX11_commandHere_290 ⟨Nat.le_of_ble_eq_true rfl, Nat.le_of_ble_eq_true rfl⟩ (fun H locs hP hD hS => ?_)
                have hP : va_P (dC, dI) vwCl [(a 0, .inr (11, [.ref (a 1), .ref (a 2), .ref (a 3), .ref (a 4), .int M_isSaved, .int M_changes, .int M_isWithin, .int M_code, .ref (a 5), .int M_length, .int M_fault, .int M_failed, .ref (a 6), .int M_signMany, .ref (a 7), .ref (a 8), .int M_many, .ref (a 9), .ref (a 10), .int w38, .ref (a 11), .int M_toldMany])), (a 1, .inl (Y 0, 238, .inl M_g)), (a 2, .inl (Y 0, 1904, .inl M_kept)), (a 3, .inl (Y 0, 238, .inl M_saved)), (a 4, .inl (Y 0, 238, .inl M_before)), (a 5, .inl (Y 0, 60, .inl M_input)), (a 6, .inl (Y 2, 100, .inl M_signs)), (a 7, .inl (Y 0, 6, .inl M_column)), (a 8, .inl (Y 0, 6, .inl M_loads)), (a 9, .inl (Y 0, 2048, .inl M_sums)), (a 10, .inl (Y 0, 2048, .inl M_groups)), (a 11, .inl (Y 0, 155, .inl w39))] H := hP
                have hD : va_D A [(a 0, .inr (11, [.ref (a 1), .ref (a 2), .ref (a 3), .ref (a 4), .int M_isSaved, .int M_changes, .int M_isWithin, .int M_code, .ref (a 5), .int M_length, .int M_fault, .int M_failed, .ref (a 6), .int M_signMany, .ref (a 7), .ref (a 8), .int M_many, .ref (a 9), .ref (a 10), .int w38, .ref (a 11), .int M_toldMany])), (a 1, .inl (Y 0, 238, .inl M_g)), (a 2, .inl (Y 0, 1904, .inl M_kept)), (a 3, .inl (Y 0, 238, .inl M_saved)), (a 4, .inl (Y 0, 238, .inl M_before)), (a 5, .inl (Y 0, 60, .inl M_input)), (a 6, .inl (Y 2, 100, .inl M_signs)), (a 7, .inl (Y 0, 6, .inl M_column)), (a 8, .inl (Y 0, 6, .inl M_loads)), (a 9, .inl (Y 0, 2048, .inl M_sums)), (a 10, .inl (Y 0, 2048, .inl M_groups)), (a 11, .inl (Y 0, 155, .inl w39))] := hD
                refine lv_if_eq (tgt := 313) hx hb dX11_commandHere_293 (by decide) (fun q42 => ?_) (fun q42 => ?_)
                · have hf := wk_t hf q42
                  refine lv_iconst (v := 0) hx hb dX11_commandHere_313 (by decide) ?_
                  obtain ⟨e0, e1, e2⟩ := wke3 hf
                  subst e0
                  subst e1
                  subst e2
                  have hP9 := hP.sub (ws' := (wX11 Y a M_g M_kept M_saved M_before M_isSaved M_changes M_isWithin M_code M_input M_length M_fault M_failed M_signs M_signMany M_column M_loads M_many M_sums M_groups w38 w39 M_toldMany)) [0, 1, 2, 3, 4, 5, 6, 7, 8, 9, 10, 11] rfl
                  have hD9 := hD.sub (ws' := (wX11 Y a M_g M_kept M_saved M_before M_isSaved M_changes M_isWithin M_code M_input M_length M_fault M_failed M_signs M_signMany M_column M_loads M_many M_sums M_groups w38 w39 M_toldMany)) [0, 1, 2, 3, 4, 5, 6, 7, 8, 9, 10, 11] (by decide) rfl
                  exact W.zret (v := 0) (ty := .boolean) hx hb hr rfl (fun t ht hW => ⟨⟨0, (), rfl, rfl, by rw [ht]; exact hP9, va_K.moved hW.alike hK, hD9⟩, hS.F ht⟩) hS.2.2 dX11_commandHere_314
                · have hf := wk_f hf q42
                  refine lv_aload_n hx hb dX11_commandHere_296 rfl (lv_at hl 1 rfl) ?_
                  refine lv_bipush (v := 32) hx hb dX11_commandHere_297 (by decide) ?_
                  refine lv_iload_n hx hb dX11_commandHere_299 rfl (lv_at hl 0 rfl) ?_
                  refine lv_iconst (v := 1) hx hb dX11_commandHere_300 (by decide) ?_
                  refine lv_iadd hx hb dX11_commandHere_301 ?_
                  refine lv_iconst (v := 4) hx hb dX11_commandHere_302 (by decide) ?_
                  obtain ⟨r43, w44, w45, hr46, hf⟩ := wkb3_s hf
                  refine wk_evi (As := [.int 32, .int (((5 * M_toldMany) + 1) + 1), .int 4]) (rest := []) (wc := (wX11 Y a M_g M_kept M_saved M_before M_isSaved M_changes M_isWithin M_code M_input M_length M_fault M_failed M_signs M_signMany M_column M_loads M_many M_sums M_groups w38 w39 M_toldMany)) (w1 := (wX11 Y a M_g M_kept M_saved M_before M_isSaved M_changes M_isWithin M_code M_input M_length M_fault M_failed M_signs M_signMany M_column M_loads M_many M_sums M_groups w44 w45 M_toldMany)) (wr := []) ⟨hx, hb, hml, hown, hts⟩ (c_X11_figures l dC dI Y a M_g M_kept M_saved M_before M_isSaved M_changes M_isWithin M_code M_input M_length M_fault M_failed M_signs M_signMany M_column M_loads M_many M_sums M_groups w38 w39 M_toldMany 32 (((5 * M_toldMany) + 1) + 1) 4 H.size r43 w44 w45 hr46) (cwV 3 hts gX11_commandHere_X11_figures rfl rfl rfl (by decide +kernel) ⟨Nat.le_of_ble_eq_true rfl, Nat.le_of_ble_eq_true rfl⟩) hK hP hD hS hA [0, 1, 2, 3, 4, 5, 6, 7, 8, 9, 10, 11] [] rfl rfl (by decide) (by decide) (by decide) (va_recv hK hP (ci := 11) (q0 := 0) rfl rfl) rfl hl.1 rfl (Nat.le_of_ble_eq_true rfl) dX11_commandHere_303 ⟨Nat.le_of_ble_eq_true rfl, Nat.le_of_ble_eq_true rfl⟩ (fun H locs hP hD hS => ?_)
                  have hP : va_P (dC, dI) vwCl [(a 0, .inr (11, [.ref (a 1), .ref (a 2), .ref (a 3), .ref (a 4), .int M_isSaved, .int M_changes, .int M_isWithin, .int M_code, .ref (a 5), .int M_length, .int M_fault, .int M_failed, .ref (a 6), .int M_signMany, .ref (a 7), .ref (a 8), .int M_many, .ref (a 9), .ref (a 10), .int w44, .ref (a 11), .int M_toldMany])), (a 1, .inl (Y 0, 238, .inl M_g)), (a 2, .inl (Y 0, 1904, .inl M_kept)), (a 3, .inl (Y 0, 238, .inl M_saved)), (a 4, .inl (Y 0, 238, .inl M_before)), (a 5, .inl (Y 0, 60, .inl M_input)), (a 6, .inl (Y 2, 100, .inl M_signs)), (a 7, .inl (Y 0, 6, .inl M_column)), (a 8, .inl (Y 0, 6, .inl M_loads)), (a 9, .inl (Y 0, 2048, .inl M_sums)), (a 10, .inl (Y 0, 2048, .inl M_groups)), (a 11, .inl (Y 0, 155, .inl w45))] H := hP
                  have hD : va_D A [(a 0, .inr (11, [.ref (a 1), .ref (a 2), .ref (a 3), .ref (a 4), .int M_isSaved, .int M_changes, .int M_isWithin, .int M_code, .ref (a 5), .int M_length, .int M_fault, .int M_failed, .ref (a 6), .int M_signMany, .ref (a 7), .ref (a 8), .int M_many, .ref (a 9), .ref (a 10), .int w44, .ref (a 11), .int M_toldMany])), (a 1, .inl (Y 0, 238, .inl M_g)), (a 2, .inl (Y 0, 1904, .inl M_kept)), (a 3, .inl (Y 0, 238, .inl M_saved)), (a 4, .inl (Y 0, 238, .inl M_before)), (a 5, .inl (Y 0, 60, .inl M_input)), (a 6, .inl (Y 2, 100, .inl M_signs)), (a 7, .inl (Y 0, 6, .inl M_column)), (a 8, .inl (Y 0, 6, .inl M_loads)), (a 9, .inl (Y 0, 2048, .inl M_sums)), (a 10, .inl (Y 0, 2048, .inl M_groups)), (a 11, .inl (Y 0, 155, .inl w45))] := hD
                  refine lv_if_eq (tgt := 313) hx hb dX11_commandHere_306 (by decide) (fun q48 => ?_) (fun q48 => ?_)
                  · have hf := wk_t hf q48
                    refine lv_iconst (v := 0) hx hb dX11_commandHere_313 (by decide) ?_
                    obtain ⟨e0, e1, e2⟩ := wke3 hf
                    subst e0
                    subst e1
                    subst e2
                    have hP9 := hP.sub (ws' := (wX11 Y a M_g M_kept M_saved M_before M_isSaved M_changes M_isWithin M_code M_input M_length M_fault M_failed M_signs M_signMany M_column M_loads M_many M_sums M_groups w44 w45 M_toldMany)) [0, 1, 2, 3, 4, 5, 6, 7, 8, 9, 10, 11] rfl
                    have hD9 := hD.sub (ws' := (wX11 Y a M_g M_kept M_saved M_before M_isSaved M_changes M_isWithin M_code M_input M_length M_fault M_failed M_signs M_signMany M_column M_loads M_many M_sums M_groups w44 w45 M_toldMany)) [0, 1, 2, 3, 4, 5, 6, 7, 8, 9, 10, 11] (by decide) rfl
                    exact W.zret (v := 0) (ty := .boolean) hx hb hr rfl (fun t ht hW => ⟨⟨0, (), rfl, rfl, by rw [ht]; exact hP9, va_K.moved hW.alike hK, hD9⟩, hS.F ht⟩) hS.2.2 dX11_commandHere_314
                  · have hf := wk_f hf q48
                    refine lv_iconst (v := 1) hx hb dX11_commandHere_309 (by decide) ?_
                    refine lv_goto (tgt := 314) hx hb dX11_commandHere_310 (by decide) ?_
                    obtain ⟨e0, e1, e2⟩ := wke3 hf
                    subst e0
                    subst e1
                    subst e2
                    have hP9 := hP.sub (ws' := (wX11 Y a M_g M_kept M_saved M_before M_isSaved M_changes M_isWithin M_code M_input M_length M_fault M_failed M_signs M_signMany M_column M_loads M_many M_sums M_groups w44 w45 M_toldMany)) [0, 1, 2, 3, 4, 5, 6, 7, 8, 9, 10, 11] rfl
                    have hD9 := hD.sub (ws' := (wX11 Y a M_g M_kept M_saved M_before M_isSaved M_changes M_isWithin M_code M_input M_length M_fault M_failed M_signs M_signMany M_column M_loads M_many M_sums M_groups w44 w45 M_toldMany)) [0, 1, 2, 3, 4, 5, 6, 7, 8, 9, 10, 11] (by decide) rfl
                    exact W.zret (v := 1) (ty := .boolean) hx hb hr rfl (fun t ht hW => ⟨⟨1, (), rfl, rfl, by rw [ht]; exact hP9, va_K.moved hW.alike hK, hD9⟩, hS.F ht⟩) hS.2.2 dX11_commandHere_314
            · have hf := wk_f hf q30
              refine lv_aload_n hx hb dX11_commandHere_222 rfl (lv_at hl 1 rfl) ?_
              refine lv_iconst (v := 1) hx hb dX11_commandHere_223 (by decide) ?_
              refine va_ldcS (q := g 2 14) hx hb hown (wk_T.wrd hT 6 (by decide)) dX11_commandHere_224 ?_
              obtain ⟨r49, w50, w51, hr52, hf⟩ := wkb3_s hf
              refine wk_eviT (As := [.int 1, .ref (g 2 14)]) (rest := []) (wc := (wX11 Y a M_g M_kept M_saved M_before M_isSaved M_changes M_isWithin M_code M_input M_length M_fault M_failed M_signs M_signMany M_column M_loads M_many M_sums M_groups w27 M_told M_toldMany)) (w1 := (wX11 Y a M_g M_kept M_saved M_before M_isSaved M_changes M_isWithin M_code M_input M_length M_fault M_failed M_signs M_signMany M_column M_loads M_many M_sums M_groups w50 w51 M_toldMany)) (wr := []) ⟨hx, hb, hml, hown, hts⟩ (c_X11_isWord l dC dI Y g a M_g M_kept M_saved M_before M_isSaved M_changes M_isWithin M_code M_input M_length M_fault M_failed M_signs M_signMany M_column M_loads M_many M_sums M_groups w27 M_told M_toldMany 1 14 H.size r49 w50 w51 hr52) (cwV 2 hts gX11_commandHere_X11_isWord rfl rfl rfl (by decide +kernel) ⟨Nat.le_of_ble_eq_true rfl, Nat.le_of_ble_eq_true rfl⟩) hK hP hD hS hA hT [0, 1, 2, 3, 4, 5, 6, 7, 8, 9, 10, 11] [] rfl rfl (by decide) (by decide) (by decide) (va_recv hK hP (ci := 11) (q0 := 0) rfl rfl) rfl hl.1 rfl (Nat.le_of_ble_eq_true rfl) dX11_commandHere_226 ⟨Nat.le_of_ble_eq_true rfl, Nat.le_of_ble_eq_true rfl⟩ (fun H locs hP hD hS => ?_)
              have hP : va_P (dC, dI) vwCl [(a 0, .inr (11, [.ref (a 1), .ref (a 2), .ref (a 3), .ref (a 4), .int M_isSaved, .int M_changes, .int M_isWithin, .int M_code, .ref (a 5), .int M_length, .int M_fault, .int M_failed, .ref (a 6), .int M_signMany, .ref (a 7), .ref (a 8), .int M_many, .ref (a 9), .ref (a 10), .int w50, .ref (a 11), .int M_toldMany])), (a 1, .inl (Y 0, 238, .inl M_g)), (a 2, .inl (Y 0, 1904, .inl M_kept)), (a 3, .inl (Y 0, 238, .inl M_saved)), (a 4, .inl (Y 0, 238, .inl M_before)), (a 5, .inl (Y 0, 60, .inl M_input)), (a 6, .inl (Y 2, 100, .inl M_signs)), (a 7, .inl (Y 0, 6, .inl M_column)), (a 8, .inl (Y 0, 6, .inl M_loads)), (a 9, .inl (Y 0, 2048, .inl M_sums)), (a 10, .inl (Y 0, 2048, .inl M_groups)), (a 11, .inl (Y 0, 155, .inl w51))] H := hP
              have hD : va_D A [(a 0, .inr (11, [.ref (a 1), .ref (a 2), .ref (a 3), .ref (a 4), .int M_isSaved, .int M_changes, .int M_isWithin, .int M_code, .ref (a 5), .int M_length, .int M_fault, .int M_failed, .ref (a 6), .int M_signMany, .ref (a 7), .ref (a 8), .int M_many, .ref (a 9), .ref (a 10), .int w50, .ref (a 11), .int M_toldMany])), (a 1, .inl (Y 0, 238, .inl M_g)), (a 2, .inl (Y 0, 1904, .inl M_kept)), (a 3, .inl (Y 0, 238, .inl M_saved)), (a 4, .inl (Y 0, 238, .inl M_before)), (a 5, .inl (Y 0, 60, .inl M_input)), (a 6, .inl (Y 2, 100, .inl M_signs)), (a 7, .inl (Y 0, 6, .inl M_column)), (a 8, .inl (Y 0, 6, .inl M_loads)), (a 9, .inl (Y 0, 2048, .inl M_sums)), (a 10, .inl (Y 0, 2048, .inl M_groups)), (a 11, .inl (Y 0, 155, .inl w51))] := hD
              refine lv_if_eq (tgt := 273) hx hb dX11_commandHere_229 (by decide) (fun q54 => ?_) (fun q54 => ?_)
              · have hf := wk_t hf q54
                refine lv_iconst (v := 0) hx hb dX11_commandHere_273 (by decide) ?_
                obtain ⟨e0, e1, e2⟩ := wke3 hf
                subst e0
                subst e1
                subst e2
                have hP9 := hP.sub (ws' := (wX11 Y a M_g M_kept M_saved M_before M_isSaved M_changes M_isWithin M_code M_input M_length M_fault M_failed M_signs M_signMany M_column M_loads M_many M_sums M_groups w50 w51 M_toldMany)) [0, 1, 2, 3, 4, 5, 6, 7, 8, 9, 10, 11] rfl
                have hD9 := hD.sub (ws' := (wX11 Y a M_g M_kept M_saved M_before M_isSaved M_changes M_isWithin M_code M_input M_length M_fault M_failed M_signs M_signMany M_column M_loads M_many M_sums M_groups w50 w51 M_toldMany)) [0, 1, 2, 3, 4, 5, 6, 7, 8, 9, 10, 11] (by decide) rfl
                exact W.zret (v := 0) (ty := .boolean) hx hb hr rfl (fun t ht hW => ⟨⟨0, (), rfl, rfl, by rw [ht]; exact hP9, va_K.moved hW.alike hK, hD9⟩, hS.F ht⟩) hS.2.2 dX11_commandHere_274
              · have hf := wk_f hf q54
                refine lv_aload_n hx hb dX11_commandHere_232 rfl (lv_at hl 1 rfl) ?_
                refine lv_bipush (v := 32) hx hb dX11_commandHere_233 (by decide) ?_
                refine lv_iload_n hx hb dX11_commandHere_235 rfl (lv_at hl 0 rfl) ?_
                refine lv_iconst (v := 4) hx hb dX11_commandHere_236 (by decide) ?_
                obtain ⟨r55, w56, w57, hr58, hf⟩ := wkb3_s hf
                refine wk_evi (As := [.int 32, .int ((5 * M_toldMany) + 1), .int 4]) (rest := []) (wc := (wX11 Y a M_g M_kept M_saved M_before M_isSaved M_changes M_isWithin M_code M_input M_length M_fault M_failed M_signs M_signMany M_column M_loads M_many M_sums M_groups w50 w51 M_toldMany)) (w1 := (wX11 Y a M_g M_kept M_saved M_before M_isSaved M_changes M_isWithin M_code M_input M_length M_fault M_failed M_signs M_signMany M_column M_loads M_many M_sums M_groups w56 w57 M_toldMany)) (wr := []) ⟨hx, hb, hml, hown, hts⟩ (c_X11_figures l dC dI Y a M_g M_kept M_saved M_before M_isSaved M_changes M_isWithin M_code M_input M_length M_fault M_failed M_signs M_signMany M_column M_loads M_many M_sums M_groups w50 w51 M_toldMany 32 ((5 * M_toldMany) + 1) 4 H.size r55 w56 w57 hr58) (cwV 3 hts gX11_commandHere_X11_figures rfl rfl rfl (by decide +kernel) ⟨Nat.le_of_ble_eq_true rfl, Nat.le_of_ble_eq_true rfl⟩) hK hP hD hS hA [0, 1, 2, 3, 4, 5, 6, 7, 8, 9, 10, 11] [] rfl rfl (by decide) (by decide) (by decide) (va_recv hK hP (ci := 11) (q0 := 0) rfl rfl) rfl hl.1 rfl (Nat.le_of_ble_eq_true rfl) dX11_commandHere_237 ⟨Nat.le_of_ble_eq_true rfl, Nat.le_of_ble_eq_true rfl⟩ (fun H locs hP hD hS => ?_)
                have hP : va_P (dC, dI) vwCl [(a 0, .inr (11, [.ref (a 1), .ref (a 2), .ref (a 3), .ref (a 4), .int M_isSaved, .int M_changes, .int M_isWithin, .int M_code, .ref (a 5), .int M_length, .int M_fault, .int M_failed, .ref (a 6), .int M_signMany, .ref (a 7), .ref (a 8), .int M_many, .ref (a 9), .ref (a 10), .int w56, .ref (a 11), .int M_toldMany])), (a 1, .inl (Y 0, 238, .inl M_g)), (a 2, .inl (Y 0, 1904, .inl M_kept)), (a 3, .inl (Y 0, 238, .inl M_saved)), (a 4, .inl (Y 0, 238, .inl M_before)), (a 5, .inl (Y 0, 60, .inl M_input)), (a 6, .inl (Y 2, 100, .inl M_signs)), (a 7, .inl (Y 0, 6, .inl M_column)), (a 8, .inl (Y 0, 6, .inl M_loads)), (a 9, .inl (Y 0, 2048, .inl M_sums)), (a 10, .inl (Y 0, 2048, .inl M_groups)), (a 11, .inl (Y 0, 155, .inl w57))] H := hP
                have hD : va_D A [(a 0, .inr (11, [.ref (a 1), .ref (a 2), .ref (a 3), .ref (a 4), .int M_isSaved, .int M_changes, .int M_isWithin, .int M_code, .ref (a 5), .int M_length, .int M_fault, .int M_failed, .ref (a 6), .int M_signMany, .ref (a 7), .ref (a 8), .int M_many, .ref (a 9), .ref (a 10), .int w56, .ref (a 11), .int M_toldMany])), (a 1, .inl (Y 0, 238, .inl M_g)), (a 2, .inl (Y 0, 1904, .inl M_kept)), (a 3, .inl (Y 0, 238, .inl M_saved)), (a 4, .inl (Y 0, 238, .inl M_before)), (a 5, .inl (Y 0, 60, .inl M_input)), (a 6, .inl (Y 2, 100, .inl M_signs)), (a 7, .inl (Y 0, 6, .inl M_column)), (a 8, .inl (Y 0, 6, .inl M_loads)), (a 9, .inl (Y 0, 2048, .inl M_sums)), (a 10, .inl (Y 0, 2048, .inl M_groups)), (a 11, .inl (Y 0, 155, .inl w57))] := hD
                refine lv_if_eq (tgt := 273) hx hb dX11_commandHere_240 (by decide) (fun q60 => ?_) (fun q60 => ?_)
                · have hf := wk_t hf q60
                  refine lv_iconst (v := 0) hx hb dX11_commandHere_273 (by decide) ?_
                  obtain ⟨e0, e1, e2⟩ := wke3 hf
                  subst e0
                  subst e1
                  subst e2
                  have hP9 := hP.sub (ws' := (wX11 Y a M_g M_kept M_saved M_before M_isSaved M_changes M_isWithin M_code M_input M_length M_fault M_failed M_signs M_signMany M_column M_loads M_many M_sums M_groups w56 w57 M_toldMany)) [0, 1, 2, 3, 4, 5, 6, 7, 8, 9, 10, 11] rfl
                  have hD9 := hD.sub (ws' := (wX11 Y a M_g M_kept M_saved M_before M_isSaved M_changes M_isWithin M_code M_input M_length M_fault M_failed M_signs M_signMany M_column M_loads M_many M_sums M_groups w56 w57 M_toldMany)) [0, 1, 2, 3, 4, 5, 6, 7, 8, 9, 10, 11] (by decide) rfl
                  exact W.zret (v := 0) (ty := .boolean) hx hb hr rfl (fun t ht hW => ⟨⟨0, (), rfl, rfl, by rw [ht]; exact hP9, va_K.moved hW.alike hK, hD9⟩, hS.F ht⟩) hS.2.2 dX11_commandHere_274
                · have hf := wk_f hf q60
                  refine lv_aload_n hx hb dX11_commandHere_243 rfl (lv_at hl 1 rfl) ?_
                  refine lv_bipush (v := 62) hx hb dX11_commandHere_244 (by decide) ?_
                  refine lv_iload_n hx hb dX11_commandHere_246 rfl (lv_at hl 0 rfl) ?_
                  refine lv_iconst (v := 1) hx hb dX11_commandHere_247 (by decide) ?_
                  refine lv_iadd hx hb dX11_commandHere_248 ?_
                  refine lv_iconst (v := 4) hx hb dX11_commandHere_249 (by decide) ?_
                  obtain ⟨r61, w62, w63, hr64, hf⟩ := wkb3_s hf
                  refine wk_evi (As := [.int 62, .int (((5 * M_toldMany) + 1) + 1), .int 4]) (rest := []) (wc := (wX11 Y a M_g M_kept M_saved M_before M_isSaved M_changes M_isWithin M_code M_input M_length M_fault M_failed M_signs M_signMany M_column M_loads M_many M_sums M_groups w56 w57 M_toldMany)) (w1 := (wX11 Y a M_g M_kept M_saved M_before M_isSaved M_changes M_isWithin M_code M_input M_length M_fault M_failed M_signs M_signMany M_column M_loads M_many M_sums M_groups w62 w63 M_toldMany)) (wr := []) ⟨hx, hb, hml, hown, hts⟩ (c_X11_figures l dC dI Y a M_g M_kept M_saved M_before M_isSaved M_changes M_isWithin M_code M_input M_length M_fault M_failed M_signs M_signMany M_column M_loads M_many M_sums M_groups w56 w57 M_toldMany 62 (((5 * M_toldMany) + 1) + 1) 4 H.size r61 w62 w63 hr64) (cwV 3 hts gX11_commandHere_X11_figures rfl rfl rfl (by decide +kernel) ⟨Nat.le_of_ble_eq_true rfl, Nat.le_of_ble_eq_true rfl⟩) hK hP hD hS hA [0, 1, 2, 3, 4, 5, 6, 7, 8, 9, 10, 11] [] rfl rfl (by decide) (by decide) (by decide) (va_recv hK hP (ci := 11) (q0 := 0) rfl rfl) rfl hl.1 rfl (Nat.le_of_ble_eq_true rfl) dX11_commandHere_250 ⟨Nat.le_of_ble_eq_true rfl, Nat.le_of_ble_eq_true rfl⟩ (fun H locs hP hD hS => ?_)
                  have hP : va_P (dC, dI) vwCl [(a 0, .inr (11, [.ref (a 1), .ref (a 2), .ref (a 3), .ref (a 4), .int M_isSaved, .int M_changes, .int M_isWithin, .int M_code, .ref (a 5), .int M_length, .int M_fault, .int M_failed, .ref (a 6), .int M_signMany, .ref (a 7), .ref (a 8), .int M_many, .ref (a 9), .ref (a 10), .int w62, .ref (a 11), .int M_toldMany])), (a 1, .inl (Y 0, 238, .inl M_g)), (a 2, .inl (Y 0, 1904, .inl M_kept)), (a 3, .inl (Y 0, 238, .inl M_saved)), (a 4, .inl (Y 0, 238, .inl M_before)), (a 5, .inl (Y 0, 60, .inl M_input)), (a 6, .inl (Y 2, 100, .inl M_signs)), (a 7, .inl (Y 0, 6, .inl M_column)), (a 8, .inl (Y 0, 6, .inl M_loads)), (a 9, .inl (Y 0, 2048, .inl M_sums)), (a 10, .inl (Y 0, 2048, .inl M_groups)), (a 11, .inl (Y 0, 155, .inl w63))] H := hP
                  have hD : va_D A [(a 0, .inr (11, [.ref (a 1), .ref (a 2), .ref (a 3), .ref (a 4), .int M_isSaved, .int M_changes, .int M_isWithin, .int M_code, .ref (a 5), .int M_length, .int M_fault, .int M_failed, .ref (a 6), .int M_signMany, .ref (a 7), .ref (a 8), .int M_many, .ref (a 9), .ref (a 10), .int w62, .ref (a 11), .int M_toldMany])), (a 1, .inl (Y 0, 238, .inl M_g)), (a 2, .inl (Y 0, 1904, .inl M_kept)), (a 3, .inl (Y 0, 238, .inl M_saved)), (a 4, .inl (Y 0, 238, .inl M_before)), (a 5, .inl (Y 0, 60, .inl M_input)), (a 6, .inl (Y 2, 100, .inl M_signs)), (a 7, .inl (Y 0, 6, .inl M_column)), (a 8, .inl (Y 0, 6, .inl M_loads)), (a 9, .inl (Y 0, 2048, .inl M_sums)), (a 10, .inl (Y 0, 2048, .inl M_groups)), (a 11, .inl (Y 0, 155, .inl w63))] := hD
                  refine lv_if_eq (tgt := 273) hx hb dX11_commandHere_253 (by decide) (fun q66 => ?_) (fun q66 => ?_)
                  · have hf := wk_t hf q66
                    refine lv_iconst (v := 0) hx hb dX11_commandHere_273 (by decide) ?_
                    obtain ⟨e0, e1, e2⟩ := wke3 hf
                    subst e0
                    subst e1
                    subst e2
                    have hP9 := hP.sub (ws' := (wX11 Y a M_g M_kept M_saved M_before M_isSaved M_changes M_isWithin M_code M_input M_length M_fault M_failed M_signs M_signMany M_column M_loads M_many M_sums M_groups w62 w63 M_toldMany)) [0, 1, 2, 3, 4, 5, 6, 7, 8, 9, 10, 11] rfl
                    have hD9 := hD.sub (ws' := (wX11 Y a M_g M_kept M_saved M_before M_isSaved M_changes M_isWithin M_code M_input M_length M_fault M_failed M_signs M_signMany M_column M_loads M_many M_sums M_groups w62 w63 M_toldMany)) [0, 1, 2, 3, 4, 5, 6, 7, 8, 9, 10, 11] (by decide) rfl
                    exact W.zret (v := 0) (ty := .boolean) hx hb hr rfl (fun t ht hW => ⟨⟨0, (), rfl, rfl, by rw [ht]; exact hP9, va_K.moved hW.alike hK, hD9⟩, hS.F ht⟩) hS.2.2 dX11_commandHere_274
                  · have hf := wk_f hf q66
                    refine lv_aload_n hx hb dX11_commandHere_256 rfl (lv_at hl 1 rfl) ?_
                    refine lv_bipush (v := 32) hx hb dX11_commandHere_257 (by decide) ?_
                    refine lv_iload_n hx hb dX11_commandHere_259 rfl (lv_at hl 0 rfl) ?_
                    refine lv_iconst (v := 2) hx hb dX11_commandHere_260 (by decide) ?_
                    refine lv_iadd hx hb dX11_commandHere_261 ?_
                    refine lv_iconst (v := 4) hx hb dX11_commandHere_262 (by decide) ?_
                    obtain ⟨r67, w68, w69, hr70, hf⟩ := wkb3_s hf
                    refine wk_evi (As := [.int 32, .int (((5 * M_toldMany) + 1) + 2), .int 4]) (rest := []) (wc := (wX11 Y a M_g M_kept M_saved M_before M_isSaved M_changes M_isWithin M_code M_input M_length M_fault M_failed M_signs M_signMany M_column M_loads M_many M_sums M_groups w62 w63 M_toldMany)) (w1 := (wX11 Y a M_g M_kept M_saved M_before M_isSaved M_changes M_isWithin M_code M_input M_length M_fault M_failed M_signs M_signMany M_column M_loads M_many M_sums M_groups w68 w69 M_toldMany)) (wr := []) ⟨hx, hb, hml, hown, hts⟩ (c_X11_figures l dC dI Y a M_g M_kept M_saved M_before M_isSaved M_changes M_isWithin M_code M_input M_length M_fault M_failed M_signs M_signMany M_column M_loads M_many M_sums M_groups w62 w63 M_toldMany 32 (((5 * M_toldMany) + 1) + 2) 4 H.size r67 w68 w69 hr70) (cwV 3 hts gX11_commandHere_X11_figures rfl rfl rfl (by decide +kernel) ⟨Nat.le_of_ble_eq_true rfl, Nat.le_of_ble_eq_true rfl⟩) hK hP hD hS hA [0, 1, 2, 3, 4, 5, 6, 7, 8, 9, 10, 11] [] rfl rfl (by decide) (by decide) (by decide) (va_recv hK hP (ci := 11) (q0 := 0) rfl rfl) rfl hl.1 rfl (Nat.le_of_ble_eq_true rfl) dX11_commandHere_263 ⟨Nat.le_of_ble_eq_true rfl, Nat.le_of_ble_eq_true rfl⟩ (fun H locs hP hD hS => ?_)
                    have hP : va_P (dC, dI) vwCl [(a 0, .inr (11, [.ref (a 1), .ref (a 2), .ref (a 3), .ref (a 4), .int M_isSaved, .int M_changes, .int M_isWithin, .int M_code, .ref (a 5), .int M_length, .int M_fault, .int M_failed, .ref (a 6), .int M_signMany, .ref (a 7), .ref (a 8), .int M_many, .ref (a 9), .ref (a 10), .int w68, .ref (a 11), .int M_toldMany])), (a 1, .inl (Y 0, 238, .inl M_g)), (a 2, .inl (Y 0, 1904, .inl M_kept)), (a 3, .inl (Y 0, 238, .inl M_saved)), (a 4, .inl (Y 0, 238, .inl M_before)), (a 5, .inl (Y 0, 60, .inl M_input)), (a 6, .inl (Y 2, 100, .inl M_signs)), (a 7, .inl (Y 0, 6, .inl M_column)), (a 8, .inl (Y 0, 6, .inl M_loads)), (a 9, .inl (Y 0, 2048, .inl M_sums)), (a 10, .inl (Y 0, 2048, .inl M_groups)), (a 11, .inl (Y 0, 155, .inl w69))] H := hP
                    have hD : va_D A [(a 0, .inr (11, [.ref (a 1), .ref (a 2), .ref (a 3), .ref (a 4), .int M_isSaved, .int M_changes, .int M_isWithin, .int M_code, .ref (a 5), .int M_length, .int M_fault, .int M_failed, .ref (a 6), .int M_signMany, .ref (a 7), .ref (a 8), .int M_many, .ref (a 9), .ref (a 10), .int w68, .ref (a 11), .int M_toldMany])), (a 1, .inl (Y 0, 238, .inl M_g)), (a 2, .inl (Y 0, 1904, .inl M_kept)), (a 3, .inl (Y 0, 238, .inl M_saved)), (a 4, .inl (Y 0, 238, .inl M_before)), (a 5, .inl (Y 0, 60, .inl M_input)), (a 6, .inl (Y 2, 100, .inl M_signs)), (a 7, .inl (Y 0, 6, .inl M_column)), (a 8, .inl (Y 0, 6, .inl M_loads)), (a 9, .inl (Y 0, 2048, .inl M_sums)), (a 10, .inl (Y 0, 2048, .inl M_groups)), (a 11, .inl (Y 0, 155, .inl w69))] := hD
                    refine lv_if_eq (tgt := 273) hx hb dX11_commandHere_266 (by decide) (fun q72 => ?_) (fun q72 => ?_)
                    · have hf := wk_t hf q72
                      refine lv_iconst (v := 0) hx hb dX11_commandHere_273 (by decide) ?_
                      obtain ⟨e0, e1, e2⟩ := wke3 hf
                      subst e0
                      subst e1
                      subst e2
                      have hP9 := hP.sub (ws' := (wX11 Y a M_g M_kept M_saved M_before M_isSaved M_changes M_isWithin M_code M_input M_length M_fault M_failed M_signs M_signMany M_column M_loads M_many M_sums M_groups w68 w69 M_toldMany)) [0, 1, 2, 3, 4, 5, 6, 7, 8, 9, 10, 11] rfl
                      have hD9 := hD.sub (ws' := (wX11 Y a M_g M_kept M_saved M_before M_isSaved M_changes M_isWithin M_code M_input M_length M_fault M_failed M_signs M_signMany M_column M_loads M_many M_sums M_groups w68 w69 M_toldMany)) [0, 1, 2, 3, 4, 5, 6, 7, 8, 9, 10, 11] (by decide) rfl
                      exact W.zret (v := 0) (ty := .boolean) hx hb hr rfl (fun t ht hW => ⟨⟨0, (), rfl, rfl, by rw [ht]; exact hP9, va_K.moved hW.alike hK, hD9⟩, hS.F ht⟩) hS.2.2 dX11_commandHere_274
                    · have hf := wk_f hf q72
                      refine lv_iconst (v := 1) hx hb dX11_commandHere_269 (by decide) ?_
                      refine lv_goto (tgt := 274) hx hb dX11_commandHere_270 (by decide) ?_
                      obtain ⟨e0, e1, e2⟩ := wke3 hf
                      subst e0
                      subst e1
                      subst e2
                      have hP9 := hP.sub (ws' := (wX11 Y a M_g M_kept M_saved M_before M_isSaved M_changes M_isWithin M_code M_input M_length M_fault M_failed M_signs M_signMany M_column M_loads M_many M_sums M_groups w68 w69 M_toldMany)) [0, 1, 2, 3, 4, 5, 6, 7, 8, 9, 10, 11] rfl
                      have hD9 := hD.sub (ws' := (wX11 Y a M_g M_kept M_saved M_before M_isSaved M_changes M_isWithin M_code M_input M_length M_fault M_failed M_signs M_signMany M_column M_loads M_many M_sums M_groups w68 w69 M_toldMany)) [0, 1, 2, 3, 4, 5, 6, 7, 8, 9, 10, 11] (by decide) rfl
                      exact W.zret (v := 1) (ty := .boolean) hx hb hr rfl (fun t ht hW => ⟨⟨1, (), rfl, rfl, by rw [ht]; exact hP9, va_K.moved hW.alike hK, hD9⟩, hS.F ht⟩) hS.2.2 dX11_commandHere_274
          · have hf := wk_t hf q25
            refine lv_iconst (v := 0) hx hb dX11_commandHere_211 (by decide) ?_
            obtain ⟨e0, e1, e2⟩ := wke3 hf
            subst e0
            subst e1
            subst e2
            have hP9 := hP.sub (ws' := (wX11 Y a M_g M_kept M_saved M_before M_isSaved M_changes M_isWithin M_code M_input M_length M_fault M_failed M_signs M_signMany M_column M_loads M_many M_sums M_groups w22 M_told M_toldMany)) [0, 1, 2, 3, 4, 5, 6, 7, 8, 9, 10, 11] rfl
            have hD9 := hD.sub (ws' := (wX11 Y a M_g M_kept M_saved M_before M_isSaved M_changes M_isWithin M_code M_input M_length M_fault M_failed M_signs M_signMany M_column M_loads M_many M_sums M_groups w22 M_told M_toldMany)) [0, 1, 2, 3, 4, 5, 6, 7, 8, 9, 10, 11] (by decide) rfl
            exact W.zret (v := 0) (ty := .boolean) hx hb hr rfl (fun t ht hW => ⟨⟨0, (), rfl, rfl, by rw [ht]; exact hP9, va_K.moved hW.alike hK, hD9⟩, hS.F ht⟩) hS.2.2 dX11_commandHere_212
        · have hf := wk_f hf q20
          refine lv_aload_n hx hb dX11_commandHere_141 rfl (lv_at hl 1 rfl) ?_
          refine lv_bipush (v := 108) hx hb dX11_commandHere_142 (by decide) ?_
          obtain ⟨r73, w74, hr75, hf⟩ := wkb2_s hf
          refine wk_evi (As := [.int 108]) (rest := []) (wc := (wX11 Y a M_g M_kept M_saved M_before M_isSaved M_changes M_isWithin M_code M_input M_length M_fault M_failed M_signs M_signMany M_column M_loads M_many M_sums M_groups w17 M_told M_toldMany)) (w1 := (wX11 Y a M_g M_kept M_saved M_before M_isSaved M_changes M_isWithin M_code M_input M_length M_fault M_failed M_signs M_signMany M_column M_loads M_many M_sums M_groups w74 M_told M_toldMany)) (wr := []) ⟨hx, hb, hml, hown, hts⟩ (c_X11_skips l dC dI Y a M_g M_kept M_saved M_before M_isSaved M_changes M_isWithin M_code M_input M_length M_fault M_failed M_signs M_signMany M_column M_loads M_many M_sums M_groups w17 M_told M_toldMany 108 H.size r73 w74 hr75) (cwV 1 hts gX11_commandHere_X11_skips rfl rfl rfl (by decide +kernel) ⟨Nat.le_of_ble_eq_true rfl, Nat.le_of_ble_eq_true rfl⟩) hK hP hD hS hA [0, 1, 2, 3, 4, 5, 6, 7, 8, 9, 10, 11] [] rfl rfl (by decide) (by decide) (by decide) (va_recv hK hP (ci := 11) (q0 := 0) rfl rfl) rfl hl.1 rfl (Nat.le_of_ble_eq_true rfl) dX11_commandHere_144 ⟨Nat.le_of_ble_eq_true rfl, Nat.le_of_ble_eq_true rfl⟩ (fun H locs hP hD hS => ?_)
          have hP : va_P (dC, dI) vwCl [(a 0, .inr (11, [.ref (a 1), .ref (a 2), .ref (a 3), .ref (a 4), .int M_isSaved, .int M_changes, .int M_isWithin, .int M_code, .ref (a 5), .int M_length, .int M_fault, .int M_failed, .ref (a 6), .int M_signMany, .ref (a 7), .ref (a 8), .int M_many, .ref (a 9), .ref (a 10), .int w74, .ref (a 11), .int M_toldMany])), (a 1, .inl (Y 0, 238, .inl M_g)), (a 2, .inl (Y 0, 1904, .inl M_kept)), (a 3, .inl (Y 0, 238, .inl M_saved)), (a 4, .inl (Y 0, 238, .inl M_before)), (a 5, .inl (Y 0, 60, .inl M_input)), (a 6, .inl (Y 2, 100, .inl M_signs)), (a 7, .inl (Y 0, 6, .inl M_column)), (a 8, .inl (Y 0, 6, .inl M_loads)), (a 9, .inl (Y 0, 2048, .inl M_sums)), (a 10, .inl (Y 0, 2048, .inl M_groups)), (a 11, .inl (Y 0, 155, .inl M_told))] H := hP
          have hD : va_D A [(a 0, .inr (11, [.ref (a 1), .ref (a 2), .ref (a 3), .ref (a 4), .int M_isSaved, .int M_changes, .int M_isWithin, .int M_code, .ref (a 5), .int M_length, .int M_fault, .int M_failed, .ref (a 6), .int M_signMany, .ref (a 7), .ref (a 8), .int M_many, .ref (a 9), .ref (a 10), .int w74, .ref (a 11), .int M_toldMany])), (a 1, .inl (Y 0, 238, .inl M_g)), (a 2, .inl (Y 0, 1904, .inl M_kept)), (a 3, .inl (Y 0, 238, .inl M_saved)), (a 4, .inl (Y 0, 238, .inl M_before)), (a 5, .inl (Y 0, 60, .inl M_input)), (a 6, .inl (Y 2, 100, .inl M_signs)), (a 7, .inl (Y 0, 6, .inl M_column)), (a 8, .inl (Y 0, 6, .inl M_loads)), (a 9, .inl (Y 0, 2048, .inl M_sums)), (a 10, .inl (Y 0, 2048, .inl M_groups)), (a 11, .inl (Y 0, 155, .inl M_told))] := hD
          refine lv_if_eq (tgt := 161) hx hb dX11_commandHere_147 (by decide) (fun q77 => ?_) (fun q77 => ?_)
          · have hf := wk_t hf q77
            refine lv_aload_n hx hb dX11_commandHere_161 rfl (lv_at hl 1 rfl) ?_
            refine lv_bipush (v := 7) hx hb dX11_commandHere_162 (by decide) ?_
            refine va_ldcS (q := g 2 13) hx hb hown (wk_T.wrd hT 5 (by decide)) dX11_commandHere_164 ?_
            obtain ⟨r78, w79, w80, hr81, hf⟩ := wkb3_s hf
            refine wk_eviT (As := [.int 7, .ref (g 2 13)]) (rest := []) (wc := (wX11 Y a M_g M_kept M_saved M_before M_isSaved M_changes M_isWithin M_code M_input M_length M_fault M_failed M_signs M_signMany M_column M_loads M_many M_sums M_groups w74 M_told M_toldMany)) (w1 := (wX11 Y a M_g M_kept M_saved M_before M_isSaved M_changes M_isWithin M_code M_input M_length M_fault M_failed M_signs M_signMany M_column M_loads M_many M_sums M_groups w79 w80 M_toldMany)) (wr := []) ⟨hx, hb, hml, hown, hts⟩ (c_X11_isWord l dC dI Y g a M_g M_kept M_saved M_before M_isSaved M_changes M_isWithin M_code M_input M_length M_fault M_failed M_signs M_signMany M_column M_loads M_many M_sums M_groups w74 M_told M_toldMany 7 13 H.size r78 w79 w80 hr81) (cwV 2 hts gX11_commandHere_X11_isWord rfl rfl rfl (by decide +kernel) ⟨Nat.le_of_ble_eq_true rfl, Nat.le_of_ble_eq_true rfl⟩) hK hP hD hS hA hT [0, 1, 2, 3, 4, 5, 6, 7, 8, 9, 10, 11] [] rfl rfl (by decide) (by decide) (by decide) (va_recv hK hP (ci := 11) (q0 := 0) rfl rfl) rfl hl.1 rfl (Nat.le_of_ble_eq_true rfl) dX11_commandHere_166 ⟨Nat.le_of_ble_eq_true rfl, Nat.le_of_ble_eq_true rfl⟩ (fun H locs hP hD hS => ?_)
            have hP : va_P (dC, dI) vwCl [(a 0, .inr (11, [.ref (a 1), .ref (a 2), .ref (a 3), .ref (a 4), .int M_isSaved, .int M_changes, .int M_isWithin, .int M_code, .ref (a 5), .int M_length, .int M_fault, .int M_failed, .ref (a 6), .int M_signMany, .ref (a 7), .ref (a 8), .int M_many, .ref (a 9), .ref (a 10), .int w79, .ref (a 11), .int M_toldMany])), (a 1, .inl (Y 0, 238, .inl M_g)), (a 2, .inl (Y 0, 1904, .inl M_kept)), (a 3, .inl (Y 0, 238, .inl M_saved)), (a 4, .inl (Y 0, 238, .inl M_before)), (a 5, .inl (Y 0, 60, .inl M_input)), (a 6, .inl (Y 2, 100, .inl M_signs)), (a 7, .inl (Y 0, 6, .inl M_column)), (a 8, .inl (Y 0, 6, .inl M_loads)), (a 9, .inl (Y 0, 2048, .inl M_sums)), (a 10, .inl (Y 0, 2048, .inl M_groups)), (a 11, .inl (Y 0, 155, .inl w80))] H := hP
            have hD : va_D A [(a 0, .inr (11, [.ref (a 1), .ref (a 2), .ref (a 3), .ref (a 4), .int M_isSaved, .int M_changes, .int M_isWithin, .int M_code, .ref (a 5), .int M_length, .int M_fault, .int M_failed, .ref (a 6), .int M_signMany, .ref (a 7), .ref (a 8), .int M_many, .ref (a 9), .ref (a 10), .int w79, .ref (a 11), .int M_toldMany])), (a 1, .inl (Y 0, 238, .inl M_g)), (a 2, .inl (Y 0, 1904, .inl M_kept)), (a 3, .inl (Y 0, 238, .inl M_saved)), (a 4, .inl (Y 0, 238, .inl M_before)), (a 5, .inl (Y 0, 60, .inl M_input)), (a 6, .inl (Y 2, 100, .inl M_signs)), (a 7, .inl (Y 0, 6, .inl M_column)), (a 8, .inl (Y 0, 6, .inl M_loads)), (a 9, .inl (Y 0, 2048, .inl M_sums)), (a 10, .inl (Y 0, 2048, .inl M_groups)), (a 11, .inl (Y 0, 155, .inl w80))] := hD
            refine lv_if_eq (tgt := 200) hx hb dX11_commandHere_169 (by decide) (fun q83 => ?_) (fun q83 => ?_)
            · have hf := wk_t hf q83
              refine lv_iconst (v := 0) hx hb dX11_commandHere_200 (by decide) ?_
              obtain ⟨e0, e1, e2⟩ := wke3 hf
              subst e0
              subst e1
              subst e2
              have hP9 := hP.sub (ws' := (wX11 Y a M_g M_kept M_saved M_before M_isSaved M_changes M_isWithin M_code M_input M_length M_fault M_failed M_signs M_signMany M_column M_loads M_many M_sums M_groups w79 w80 M_toldMany)) [0, 1, 2, 3, 4, 5, 6, 7, 8, 9, 10, 11] rfl
              have hD9 := hD.sub (ws' := (wX11 Y a M_g M_kept M_saved M_before M_isSaved M_changes M_isWithin M_code M_input M_length M_fault M_failed M_signs M_signMany M_column M_loads M_many M_sums M_groups w79 w80 M_toldMany)) [0, 1, 2, 3, 4, 5, 6, 7, 8, 9, 10, 11] (by decide) rfl
              exact W.zret (v := 0) (ty := .boolean) hx hb hr rfl (fun t ht hW => ⟨⟨0, (), rfl, rfl, by rw [ht]; exact hP9, va_K.moved hW.alike hK, hD9⟩, hS.F ht⟩) hS.2.2 dX11_commandHere_201
            · have hf := wk_f hf q83
              refine lv_aload_n hx hb dX11_commandHere_172 rfl (lv_at hl 1 rfl) ?_
              refine lv_bipush (v := 32) hx hb dX11_commandHere_173 (by decide) ?_
              refine lv_iload_n hx hb dX11_commandHere_175 rfl (lv_at hl 0 rfl) ?_
              refine lv_iconst (v := 4) hx hb dX11_commandHere_176 (by decide) ?_
              obtain ⟨r84, w85, w86, hr87, hf⟩ := wkb3_s hf
              refine wk_evi (As := [.int 32, .int ((5 * M_toldMany) + 1), .int 4]) (rest := []) (wc := (wX11 Y a M_g M_kept M_saved M_before M_isSaved M_changes M_isWithin M_code M_input M_length M_fault M_failed M_signs M_signMany M_column M_loads M_many M_sums M_groups w79 w80 M_toldMany)) (w1 := (wX11 Y a M_g M_kept M_saved M_before M_isSaved M_changes M_isWithin M_code M_input M_length M_fault M_failed M_signs M_signMany M_column M_loads M_many M_sums M_groups w85 w86 M_toldMany)) (wr := []) ⟨hx, hb, hml, hown, hts⟩ (c_X11_figures l dC dI Y a M_g M_kept M_saved M_before M_isSaved M_changes M_isWithin M_code M_input M_length M_fault M_failed M_signs M_signMany M_column M_loads M_many M_sums M_groups w79 w80 M_toldMany 32 ((5 * M_toldMany) + 1) 4 H.size r84 w85 w86 hr87) (cwV 3 hts gX11_commandHere_X11_figures rfl rfl rfl (by decide +kernel) ⟨Nat.le_of_ble_eq_true rfl, Nat.le_of_ble_eq_true rfl⟩) hK hP hD hS hA [0, 1, 2, 3, 4, 5, 6, 7, 8, 9, 10, 11] [] rfl rfl (by decide) (by decide) (by decide) (va_recv hK hP (ci := 11) (q0 := 0) rfl rfl) rfl hl.1 rfl (Nat.le_of_ble_eq_true rfl) dX11_commandHere_177 ⟨Nat.le_of_ble_eq_true rfl, Nat.le_of_ble_eq_true rfl⟩ (fun H locs hP hD hS => ?_)
              have hP : va_P (dC, dI) vwCl [(a 0, .inr (11, [.ref (a 1), .ref (a 2), .ref (a 3), .ref (a 4), .int M_isSaved, .int M_changes, .int M_isWithin, .int M_code, .ref (a 5), .int M_length, .int M_fault, .int M_failed, .ref (a 6), .int M_signMany, .ref (a 7), .ref (a 8), .int M_many, .ref (a 9), .ref (a 10), .int w85, .ref (a 11), .int M_toldMany])), (a 1, .inl (Y 0, 238, .inl M_g)), (a 2, .inl (Y 0, 1904, .inl M_kept)), (a 3, .inl (Y 0, 238, .inl M_saved)), (a 4, .inl (Y 0, 238, .inl M_before)), (a 5, .inl (Y 0, 60, .inl M_input)), (a 6, .inl (Y 2, 100, .inl M_signs)), (a 7, .inl (Y 0, 6, .inl M_column)), (a 8, .inl (Y 0, 6, .inl M_loads)), (a 9, .inl (Y 0, 2048, .inl M_sums)), (a 10, .inl (Y 0, 2048, .inl M_groups)), (a 11, .inl (Y 0, 155, .inl w86))] H := hP
              have hD : va_D A [(a 0, .inr (11, [.ref (a 1), .ref (a 2), .ref (a 3), .ref (a 4), .int M_isSaved, .int M_changes, .int M_isWithin, .int M_code, .ref (a 5), .int M_length, .int M_fault, .int M_failed, .ref (a 6), .int M_signMany, .ref (a 7), .ref (a 8), .int M_many, .ref (a 9), .ref (a 10), .int w85, .ref (a 11), .int M_toldMany])), (a 1, .inl (Y 0, 238, .inl M_g)), (a 2, .inl (Y 0, 1904, .inl M_kept)), (a 3, .inl (Y 0, 238, .inl M_saved)), (a 4, .inl (Y 0, 238, .inl M_before)), (a 5, .inl (Y 0, 60, .inl M_input)), (a 6, .inl (Y 2, 100, .inl M_signs)), (a 7, .inl (Y 0, 6, .inl M_column)), (a 8, .inl (Y 0, 6, .inl M_loads)), (a 9, .inl (Y 0, 2048, .inl M_sums)), (a 10, .inl (Y 0, 2048, .inl M_groups)), (a 11, .inl (Y 0, 155, .inl w86))] := hD
              refine lv_if_eq (tgt := 200) hx hb dX11_commandHere_180 (by decide) (fun q89 => ?_) (fun q89 => ?_)
              · have hf := wk_t hf q89
                refine lv_iconst (v := 0) hx hb dX11_commandHere_200 (by decide) ?_
                obtain ⟨e0, e1, e2⟩ := wke3 hf
                subst e0
                subst e1
                subst e2
                have hP9 := hP.sub (ws' := (wX11 Y a M_g M_kept M_saved M_before M_isSaved M_changes M_isWithin M_code M_input M_length M_fault M_failed M_signs M_signMany M_column M_loads M_many M_sums M_groups w85 w86 M_toldMany)) [0, 1, 2, 3, 4, 5, 6, 7, 8, 9, 10, 11] rfl
                have hD9 := hD.sub (ws' := (wX11 Y a M_g M_kept M_saved M_before M_isSaved M_changes M_isWithin M_code M_input M_length M_fault M_failed M_signs M_signMany M_column M_loads M_many M_sums M_groups w85 w86 M_toldMany)) [0, 1, 2, 3, 4, 5, 6, 7, 8, 9, 10, 11] (by decide) rfl
                exact W.zret (v := 0) (ty := .boolean) hx hb hr rfl (fun t ht hW => ⟨⟨0, (), rfl, rfl, by rw [ht]; exact hP9, va_K.moved hW.alike hK, hD9⟩, hS.F ht⟩) hS.2.2 dX11_commandHere_201
              · have hf := wk_f hf q89
                refine lv_aload_n hx hb dX11_commandHere_183 rfl (lv_at hl 1 rfl) ?_
                refine lv_bipush (v := 32) hx hb dX11_commandHere_184 (by decide) ?_
                refine lv_iload_n hx hb dX11_commandHere_186 rfl (lv_at hl 0 rfl) ?_
                refine lv_iconst (v := 1) hx hb dX11_commandHere_187 (by decide) ?_
                refine lv_iadd hx hb dX11_commandHere_188 ?_
                refine lv_iconst (v := 4) hx hb dX11_commandHere_189 (by decide) ?_
                obtain ⟨r90, w91, w92, hr93, hf⟩ := wkb3_s hf
                refine wk_evi (As := [.int 32, .int (((5 * M_toldMany) + 1) + 1), .int 4]) (rest := []) (wc := (wX11 Y a M_g M_kept M_saved M_before M_isSaved M_changes M_isWithin M_code M_input M_length M_fault M_failed M_signs M_signMany M_column M_loads M_many M_sums M_groups w85 w86 M_toldMany)) (w1 := (wX11 Y a M_g M_kept M_saved M_before M_isSaved M_changes M_isWithin M_code M_input M_length M_fault M_failed M_signs M_signMany M_column M_loads M_many M_sums M_groups w91 w92 M_toldMany)) (wr := []) ⟨hx, hb, hml, hown, hts⟩ (c_X11_figures l dC dI Y a M_g M_kept M_saved M_before M_isSaved M_changes M_isWithin M_code M_input M_length M_fault M_failed M_signs M_signMany M_column M_loads M_many M_sums M_groups w85 w86 M_toldMany 32 (((5 * M_toldMany) + 1) + 1) 4 H.size r90 w91 w92 hr93) (cwV 3 hts gX11_commandHere_X11_figures rfl rfl rfl (by decide +kernel) ⟨Nat.le_of_ble_eq_true rfl, Nat.le_of_ble_eq_true rfl⟩) hK hP hD hS hA [0, 1, 2, 3, 4, 5, 6, 7, 8, 9, 10, 11] [] rfl rfl (by decide) (by decide) (by decide) (va_recv hK hP (ci := 11) (q0 := 0) rfl rfl) rfl hl.1 rfl (Nat.le_of_ble_eq_true rfl) dX11_commandHere_190 ⟨Nat.le_of_ble_eq_true rfl, Nat.le_of_ble_eq_true rfl⟩ (fun H locs hP hD hS => ?_)
                have hP : va_P (dC, dI) vwCl [(a 0, .inr (11, [.ref (a 1), .ref (a 2), .ref (a 3), .ref (a 4), .int M_isSaved, .int M_changes, .int M_isWithin, .int M_code, .ref (a 5), .int M_length, .int M_fault, .int M_failed, .ref (a 6), .int M_signMany, .ref (a 7), .ref (a 8), .int M_many, .ref (a 9), .ref (a 10), .int w91, .ref (a 11), .int M_toldMany])), (a 1, .inl (Y 0, 238, .inl M_g)), (a 2, .inl (Y 0, 1904, .inl M_kept)), (a 3, .inl (Y 0, 238, .inl M_saved)), (a 4, .inl (Y 0, 238, .inl M_before)), (a 5, .inl (Y 0, 60, .inl M_input)), (a 6, .inl (Y 2, 100, .inl M_signs)), (a 7, .inl (Y 0, 6, .inl M_column)), (a 8, .inl (Y 0, 6, .inl M_loads)), (a 9, .inl (Y 0, 2048, .inl M_sums)), (a 10, .inl (Y 0, 2048, .inl M_groups)), (a 11, .inl (Y 0, 155, .inl w92))] H := hP
                have hD : va_D A [(a 0, .inr (11, [.ref (a 1), .ref (a 2), .ref (a 3), .ref (a 4), .int M_isSaved, .int M_changes, .int M_isWithin, .int M_code, .ref (a 5), .int M_length, .int M_fault, .int M_failed, .ref (a 6), .int M_signMany, .ref (a 7), .ref (a 8), .int M_many, .ref (a 9), .ref (a 10), .int w91, .ref (a 11), .int M_toldMany])), (a 1, .inl (Y 0, 238, .inl M_g)), (a 2, .inl (Y 0, 1904, .inl M_kept)), (a 3, .inl (Y 0, 238, .inl M_saved)), (a 4, .inl (Y 0, 238, .inl M_before)), (a 5, .inl (Y 0, 60, .inl M_input)), (a 6, .inl (Y 2, 100, .inl M_signs)), (a 7, .inl (Y 0, 6, .inl M_column)), (a 8, .inl (Y 0, 6, .inl M_loads)), (a 9, .inl (Y 0, 2048, .inl M_sums)), (a 10, .inl (Y 0, 2048, .inl M_groups)), (a 11, .inl (Y 0, 155, .inl w92))] := hD
                refine lv_if_eq (tgt := 200) hx hb dX11_commandHere_193 (by decide) (fun q95 => ?_) (fun q95 => ?_)
                · have hf := wk_t hf q95
                  refine lv_iconst (v := 0) hx hb dX11_commandHere_200 (by decide) ?_
                  obtain ⟨e0, e1, e2⟩ := wke3 hf
                  subst e0
                  subst e1
                  subst e2
                  have hP9 := hP.sub (ws' := (wX11 Y a M_g M_kept M_saved M_before M_isSaved M_changes M_isWithin M_code M_input M_length M_fault M_failed M_signs M_signMany M_column M_loads M_many M_sums M_groups w91 w92 M_toldMany)) [0, 1, 2, 3, 4, 5, 6, 7, 8, 9, 10, 11] rfl
                  have hD9 := hD.sub (ws' := (wX11 Y a M_g M_kept M_saved M_before M_isSaved M_changes M_isWithin M_code M_input M_length M_fault M_failed M_signs M_signMany M_column M_loads M_many M_sums M_groups w91 w92 M_toldMany)) [0, 1, 2, 3, 4, 5, 6, 7, 8, 9, 10, 11] (by decide) rfl
                  exact W.zret (v := 0) (ty := .boolean) hx hb hr rfl (fun t ht hW => ⟨⟨0, (), rfl, rfl, by rw [ht]; exact hP9, va_K.moved hW.alike hK, hD9⟩, hS.F ht⟩) hS.2.2 dX11_commandHere_201
                · have hf := wk_f hf q95
                  refine lv_iconst (v := 1) hx hb dX11_commandHere_196 (by decide) ?_
                  refine lv_goto (tgt := 201) hx hb dX11_commandHere_197 (by decide) ?_
                  obtain ⟨e0, e1, e2⟩ := wke3 hf
                  subst e0
                  subst e1
                  subst e2
                  have hP9 := hP.sub (ws' := (wX11 Y a M_g M_kept M_saved M_before M_isSaved M_changes M_isWithin M_code M_input M_length M_fault M_failed M_signs M_signMany M_column M_loads M_many M_sums M_groups w91 w92 M_toldMany)) [0, 1, 2, 3, 4, 5, 6, 7, 8, 9, 10, 11] rfl
                  have hD9 := hD.sub (ws' := (wX11 Y a M_g M_kept M_saved M_before M_isSaved M_changes M_isWithin M_code M_input M_length M_fault M_failed M_signs M_signMany M_column M_loads M_many M_sums M_groups w91 w92 M_toldMany)) [0, 1, 2, 3, 4, 5, 6, 7, 8, 9, 10, 11] (by decide) rfl
                  exact W.zret (v := 1) (ty := .boolean) hx hb hr rfl (fun t ht hW => ⟨⟨1, (), rfl, rfl, by rw [ht]; exact hP9, va_K.moved hW.alike hK, hD9⟩, hS.F ht⟩) hS.2.2 dX11_commandHere_201
          · have hf := wk_f hf q77
            refine lv_aload_n hx hb dX11_commandHere_150 rfl (lv_at hl 1 rfl) ?_
            refine lv_bipush (v := 6) hx hb dX11_commandHere_151 (by decide) ?_
            refine va_ldcS (q := g 2 12) hx hb hown (wk_T.wrd hT 4 (by decide)) dX11_commandHere_153 ?_
            obtain ⟨r96, w97, w98, hr99, hf⟩ := wkb3_s hf
            refine wk_eviT (As := [.int 6, .ref (g 2 12)]) (rest := []) (wc := (wX11 Y a M_g M_kept M_saved M_before M_isSaved M_changes M_isWithin M_code M_input M_length M_fault M_failed M_signs M_signMany M_column M_loads M_many M_sums M_groups w74 M_told M_toldMany)) (w1 := (wX11 Y a M_g M_kept M_saved M_before M_isSaved M_changes M_isWithin M_code M_input M_length M_fault M_failed M_signs M_signMany M_column M_loads M_many M_sums M_groups w97 w98 M_toldMany)) (wr := []) ⟨hx, hb, hml, hown, hts⟩ (c_X11_isWord l dC dI Y g a M_g M_kept M_saved M_before M_isSaved M_changes M_isWithin M_code M_input M_length M_fault M_failed M_signs M_signMany M_column M_loads M_many M_sums M_groups w74 M_told M_toldMany 6 12 H.size r96 w97 w98 hr99) (cwV 2 hts gX11_commandHere_X11_isWord rfl rfl rfl (by decide +kernel) ⟨Nat.le_of_ble_eq_true rfl, Nat.le_of_ble_eq_true rfl⟩) hK hP hD hS hA hT [0, 1, 2, 3, 4, 5, 6, 7, 8, 9, 10, 11] [] rfl rfl (by decide) (by decide) (by decide) (va_recv hK hP (ci := 11) (q0 := 0) rfl rfl) rfl hl.1 rfl (Nat.le_of_ble_eq_true rfl) dX11_commandHere_155 ⟨Nat.le_of_ble_eq_true rfl, Nat.le_of_ble_eq_true rfl⟩ (fun H locs hP hD hS => ?_)
            have hP : va_P (dC, dI) vwCl [(a 0, .inr (11, [.ref (a 1), .ref (a 2), .ref (a 3), .ref (a 4), .int M_isSaved, .int M_changes, .int M_isWithin, .int M_code, .ref (a 5), .int M_length, .int M_fault, .int M_failed, .ref (a 6), .int M_signMany, .ref (a 7), .ref (a 8), .int M_many, .ref (a 9), .ref (a 10), .int w97, .ref (a 11), .int M_toldMany])), (a 1, .inl (Y 0, 238, .inl M_g)), (a 2, .inl (Y 0, 1904, .inl M_kept)), (a 3, .inl (Y 0, 238, .inl M_saved)), (a 4, .inl (Y 0, 238, .inl M_before)), (a 5, .inl (Y 0, 60, .inl M_input)), (a 6, .inl (Y 2, 100, .inl M_signs)), (a 7, .inl (Y 0, 6, .inl M_column)), (a 8, .inl (Y 0, 6, .inl M_loads)), (a 9, .inl (Y 0, 2048, .inl M_sums)), (a 10, .inl (Y 0, 2048, .inl M_groups)), (a 11, .inl (Y 0, 155, .inl w98))] H := hP
            have hD : va_D A [(a 0, .inr (11, [.ref (a 1), .ref (a 2), .ref (a 3), .ref (a 4), .int M_isSaved, .int M_changes, .int M_isWithin, .int M_code, .ref (a 5), .int M_length, .int M_fault, .int M_failed, .ref (a 6), .int M_signMany, .ref (a 7), .ref (a 8), .int M_many, .ref (a 9), .ref (a 10), .int w97, .ref (a 11), .int M_toldMany])), (a 1, .inl (Y 0, 238, .inl M_g)), (a 2, .inl (Y 0, 1904, .inl M_kept)), (a 3, .inl (Y 0, 238, .inl M_saved)), (a 4, .inl (Y 0, 238, .inl M_before)), (a 5, .inl (Y 0, 60, .inl M_input)), (a 6, .inl (Y 2, 100, .inl M_signs)), (a 7, .inl (Y 0, 6, .inl M_column)), (a 8, .inl (Y 0, 6, .inl M_loads)), (a 9, .inl (Y 0, 2048, .inl M_sums)), (a 10, .inl (Y 0, 2048, .inl M_groups)), (a 11, .inl (Y 0, 155, .inl w98))] := hD
            refine lv_goto (tgt := 201) hx hb dX11_commandHere_158 (by decide) ?_
            obtain ⟨h01, hf⟩ := gbo_s hf
            obtain ⟨e0, e1, e2⟩ := wke3 hf
            subst e0
            subst e1
            subst e2
            have hP9 := hP.sub (ws' := (wX11 Y a M_g M_kept M_saved M_before M_isSaved M_changes M_isWithin M_code M_input M_length M_fault M_failed M_signs M_signMany M_column M_loads M_many M_sums M_groups w97 w98 M_toldMany)) [0, 1, 2, 3, 4, 5, 6, 7, 8, 9, 10, 11] rfl
            have hD9 := hD.sub (ws' := (wX11 Y a M_g M_kept M_saved M_before M_isSaved M_changes M_isWithin M_code M_input M_length M_fault M_failed M_signs M_signMany M_column M_loads M_many M_sums M_groups w97 w98 M_toldMany)) [0, 1, 2, 3, 4, 5, 6, 7, 8, 9, 10, 11] (by decide) rfl
            exact W.zret (v := r96) (ty := .boolean) hx hb hr (gbo_n h01) (fun t ht hW => ⟨⟨r96, (), rfl, rfl, by rw [ht]; exact hP9, va_K.moved hW.alike hK, hD9⟩, hS.F ht⟩) hS.2.2 dX11_commandHere_201
      · have hf := wk_f hf q15
        refine lv_aload_n hx hb dX11_commandHere_126 rfl (lv_at hl 1 rfl) ?_
        refine lv_iload_n hx hb dX11_commandHere_127 rfl (lv_at hl 0 rfl) ?_
        obtain ⟨r101, w102, w103, hr104, hf⟩ := wkb3_s hf
        refine wk_eviT (As := [.int ((5 * M_toldMany) + 1)]) (rest := []) (wc := (wX11 Y a M_g M_kept M_saved M_before M_isSaved M_changes M_isWithin M_code M_input M_length M_fault M_failed M_signs M_signMany M_column M_loads M_many M_sums M_groups w12 M_told M_toldMany)) (w1 := (wX11 Y a M_g M_kept M_saved M_before M_isSaved M_changes M_isWithin M_code M_input M_length M_fault M_failed M_signs M_signMany M_column M_loads M_many M_sums M_groups w102 w103 M_toldMany)) (wr := []) ⟨hx, hb, hml, hown, hts⟩ (c_X11_withN l dC dI Y g a M_g M_kept M_saved M_before M_isSaved M_changes M_isWithin M_code M_input M_length M_fault M_failed M_signs M_signMany M_column M_loads M_many M_sums M_groups w12 M_told M_toldMany ((5 * M_toldMany) + 1) H.size r101 w102 w103 hr104) (cwV 1 hts gX11_commandHere_X11_withN rfl rfl rfl (by decide +kernel) ⟨Nat.le_of_ble_eq_true rfl, Nat.le_of_ble_eq_true rfl⟩) hK hP hD hS hA hT [0, 1, 2, 3, 4, 5, 6, 7, 8, 9, 10, 11] [] rfl rfl (by decide) (by decide) (by decide) (va_recv hK hP (ci := 11) (q0 := 0) rfl rfl) rfl hl.1 rfl (Nat.le_of_ble_eq_true rfl) dX11_commandHere_128 ⟨Nat.le_of_ble_eq_true rfl, Nat.le_of_ble_eq_true rfl⟩ (fun H locs hP hD hS => ?_)
        have hP : va_P (dC, dI) vwCl [(a 0, .inr (11, [.ref (a 1), .ref (a 2), .ref (a 3), .ref (a 4), .int M_isSaved, .int M_changes, .int M_isWithin, .int M_code, .ref (a 5), .int M_length, .int M_fault, .int M_failed, .ref (a 6), .int M_signMany, .ref (a 7), .ref (a 8), .int M_many, .ref (a 9), .ref (a 10), .int w102, .ref (a 11), .int M_toldMany])), (a 1, .inl (Y 0, 238, .inl M_g)), (a 2, .inl (Y 0, 1904, .inl M_kept)), (a 3, .inl (Y 0, 238, .inl M_saved)), (a 4, .inl (Y 0, 238, .inl M_before)), (a 5, .inl (Y 0, 60, .inl M_input)), (a 6, .inl (Y 2, 100, .inl M_signs)), (a 7, .inl (Y 0, 6, .inl M_column)), (a 8, .inl (Y 0, 6, .inl M_loads)), (a 9, .inl (Y 0, 2048, .inl M_sums)), (a 10, .inl (Y 0, 2048, .inl M_groups)), (a 11, .inl (Y 0, 155, .inl w103))] H := hP
        have hD : va_D A [(a 0, .inr (11, [.ref (a 1), .ref (a 2), .ref (a 3), .ref (a 4), .int M_isSaved, .int M_changes, .int M_isWithin, .int M_code, .ref (a 5), .int M_length, .int M_fault, .int M_failed, .ref (a 6), .int M_signMany, .ref (a 7), .ref (a 8), .int M_many, .ref (a 9), .ref (a 10), .int w102, .ref (a 11), .int M_toldMany])), (a 1, .inl (Y 0, 238, .inl M_g)), (a 2, .inl (Y 0, 1904, .inl M_kept)), (a 3, .inl (Y 0, 238, .inl M_saved)), (a 4, .inl (Y 0, 238, .inl M_before)), (a 5, .inl (Y 0, 60, .inl M_input)), (a 6, .inl (Y 2, 100, .inl M_signs)), (a 7, .inl (Y 0, 6, .inl M_column)), (a 8, .inl (Y 0, 6, .inl M_loads)), (a 9, .inl (Y 0, 2048, .inl M_sums)), (a 10, .inl (Y 0, 2048, .inl M_groups)), (a 11, .inl (Y 0, 155, .inl w103))] := hD
        obtain ⟨h01, hf⟩ := gbo_s hf
        obtain ⟨e0, e1, e2⟩ := wke3 hf
        subst e0
        subst e1
        subst e2
        have hP9 := hP.sub (ws' := (wX11 Y a M_g M_kept M_saved M_before M_isSaved M_changes M_isWithin M_code M_input M_length M_fault M_failed M_signs M_signMany M_column M_loads M_many M_sums M_groups w102 w103 M_toldMany)) [0, 1, 2, 3, 4, 5, 6, 7, 8, 9, 10, 11] rfl
        have hD9 := hD.sub (ws' := (wX11 Y a M_g M_kept M_saved M_before M_isSaved M_changes M_isWithin M_code M_input M_length M_fault M_failed M_signs M_signMany M_column M_loads M_many M_sums M_groups w102 w103 M_toldMany)) [0, 1, 2, 3, 4, 5, 6, 7, 8, 9, 10, 11] (by decide) rfl
        exact W.zret (v := r101) (ty := .boolean) hx hb hr (gbo_n h01) (fun t ht hW => ⟨⟨r101, (), rfl, rfl, by rw [ht]; exact hP9, va_K.moved hW.alike hK, hD9⟩, hS.F ht⟩) hS.2.2 dX11_commandHere_131
    · have hf := wk_f hf q10
      refine lv_aload_n hx hb dX11_commandHere_93 rfl (lv_at hl 1 rfl) ?_
      refine lv_iconst (v := 3) hx hb dX11_commandHere_94 (by decide) ?_
      refine va_ldcS (q := g 2 11) hx hb hown (wk_T.wrd hT 3 (by decide)) dX11_commandHere_95 ?_
      obtain ⟨r106, w107, w108, hr109, hf⟩ := wkb3_s hf
      refine wk_eviT (As := [.int 3, .ref (g 2 11)]) (rest := []) (wc := (wX11 Y a M_g M_kept M_saved M_before M_isSaved M_changes M_isWithin M_code M_input M_length M_fault M_failed M_signs M_signMany M_column M_loads M_many M_sums M_groups w7 M_told M_toldMany)) (w1 := (wX11 Y a M_g M_kept M_saved M_before M_isSaved M_changes M_isWithin M_code M_input M_length M_fault M_failed M_signs M_signMany M_column M_loads M_many M_sums M_groups w107 w108 M_toldMany)) (wr := []) ⟨hx, hb, hml, hown, hts⟩ (c_X11_isWord l dC dI Y g a M_g M_kept M_saved M_before M_isSaved M_changes M_isWithin M_code M_input M_length M_fault M_failed M_signs M_signMany M_column M_loads M_many M_sums M_groups w7 M_told M_toldMany 3 11 H.size r106 w107 w108 hr109) (cwV 2 hts gX11_commandHere_X11_isWord rfl rfl rfl (by decide +kernel) ⟨Nat.le_of_ble_eq_true rfl, Nat.le_of_ble_eq_true rfl⟩) hK hP hD hS hA hT [0, 1, 2, 3, 4, 5, 6, 7, 8, 9, 10, 11] [] rfl rfl (by decide) (by decide) (by decide) (va_recv hK hP (ci := 11) (q0 := 0) rfl rfl) rfl hl.1 rfl (Nat.le_of_ble_eq_true rfl) dX11_commandHere_97 ⟨Nat.le_of_ble_eq_true rfl, Nat.le_of_ble_eq_true rfl⟩ (fun H locs hP hD hS => ?_)
      have hP : va_P (dC, dI) vwCl [(a 0, .inr (11, [.ref (a 1), .ref (a 2), .ref (a 3), .ref (a 4), .int M_isSaved, .int M_changes, .int M_isWithin, .int M_code, .ref (a 5), .int M_length, .int M_fault, .int M_failed, .ref (a 6), .int M_signMany, .ref (a 7), .ref (a 8), .int M_many, .ref (a 9), .ref (a 10), .int w107, .ref (a 11), .int M_toldMany])), (a 1, .inl (Y 0, 238, .inl M_g)), (a 2, .inl (Y 0, 1904, .inl M_kept)), (a 3, .inl (Y 0, 238, .inl M_saved)), (a 4, .inl (Y 0, 238, .inl M_before)), (a 5, .inl (Y 0, 60, .inl M_input)), (a 6, .inl (Y 2, 100, .inl M_signs)), (a 7, .inl (Y 0, 6, .inl M_column)), (a 8, .inl (Y 0, 6, .inl M_loads)), (a 9, .inl (Y 0, 2048, .inl M_sums)), (a 10, .inl (Y 0, 2048, .inl M_groups)), (a 11, .inl (Y 0, 155, .inl w108))] H := hP
      have hD : va_D A [(a 0, .inr (11, [.ref (a 1), .ref (a 2), .ref (a 3), .ref (a 4), .int M_isSaved, .int M_changes, .int M_isWithin, .int M_code, .ref (a 5), .int M_length, .int M_fault, .int M_failed, .ref (a 6), .int M_signMany, .ref (a 7), .ref (a 8), .int M_many, .ref (a 9), .ref (a 10), .int w107, .ref (a 11), .int M_toldMany])), (a 1, .inl (Y 0, 238, .inl M_g)), (a 2, .inl (Y 0, 1904, .inl M_kept)), (a 3, .inl (Y 0, 238, .inl M_saved)), (a 4, .inl (Y 0, 238, .inl M_before)), (a 5, .inl (Y 0, 60, .inl M_input)), (a 6, .inl (Y 2, 100, .inl M_signs)), (a 7, .inl (Y 0, 6, .inl M_column)), (a 8, .inl (Y 0, 6, .inl M_loads)), (a 9, .inl (Y 0, 2048, .inl M_sums)), (a 10, .inl (Y 0, 2048, .inl M_groups)), (a 11, .inl (Y 0, 155, .inl w108))] := hD
      refine lv_if_eq (tgt := 115) hx hb dX11_commandHere_100 (by decide) (fun q111 => ?_) (fun q111 => ?_)
      · have hf := wk_t hf q111
        refine lv_iconst (v := 0) hx hb dX11_commandHere_115 (by decide) ?_
        obtain ⟨e0, e1, e2⟩ := wke3 hf
        subst e0
        subst e1
        subst e2
        have hP9 := hP.sub (ws' := (wX11 Y a M_g M_kept M_saved M_before M_isSaved M_changes M_isWithin M_code M_input M_length M_fault M_failed M_signs M_signMany M_column M_loads M_many M_sums M_groups w107 w108 M_toldMany)) [0, 1, 2, 3, 4, 5, 6, 7, 8, 9, 10, 11] rfl
        have hD9 := hD.sub (ws' := (wX11 Y a M_g M_kept M_saved M_before M_isSaved M_changes M_isWithin M_code M_input M_length M_fault M_failed M_signs M_signMany M_column M_loads M_many M_sums M_groups w107 w108 M_toldMany)) [0, 1, 2, 3, 4, 5, 6, 7, 8, 9, 10, 11] (by decide) rfl
        exact W.zret (v := 0) (ty := .boolean) hx hb hr rfl (fun t ht hW => ⟨⟨0, (), rfl, rfl, by rw [ht]; exact hP9, va_K.moved hW.alike hK, hD9⟩, hS.F ht⟩) hS.2.2 dX11_commandHere_116
      · have hf := wk_f hf q111
        refine lv_aload_n hx hb dX11_commandHere_103 rfl (lv_at hl 1 rfl) ?_
        refine lv_iload_n hx hb dX11_commandHere_104 rfl (lv_at hl 0 rfl) ?_
        obtain ⟨r112, w113, w114, hr115, hf⟩ := wkb3_s hf
        refine wk_evi (As := [.int ((5 * M_toldMany) + 1)]) (rest := []) (wc := (wX11 Y a M_g M_kept M_saved M_before M_isSaved M_changes M_isWithin M_code M_input M_length M_fault M_failed M_signs M_signMany M_column M_loads M_many M_sums M_groups w107 w108 M_toldMany)) (w1 := (wX11 Y a M_g M_kept M_saved M_before M_isSaved M_changes M_isWithin M_code M_input M_length M_fault M_failed M_signs M_signMany M_column M_loads M_many M_sums M_groups w113 w114 M_toldMany)) (wr := []) ⟨hx, hb, hml, hown, hts⟩ (c_X11_digits l dC dI Y a M_g M_kept M_saved M_before M_isSaved M_changes M_isWithin M_code M_input M_length M_fault M_failed M_signs M_signMany M_column M_loads M_many M_sums M_groups w107 w108 M_toldMany ((5 * M_toldMany) + 1) H.size r112 w113 w114 hr115) (cwV 1 hts gX11_commandHere_X11_digits rfl rfl rfl (by decide +kernel) ⟨Nat.le_of_ble_eq_true rfl, Nat.le_of_ble_eq_true rfl⟩) hK hP hD hS hA [0, 1, 2, 3, 4, 5, 6, 7, 8, 9, 10, 11] [] rfl rfl (by decide) (by decide) (by decide) (va_recv hK hP (ci := 11) (q0 := 0) rfl rfl) rfl hl.1 rfl (Nat.le_of_ble_eq_true rfl) dX11_commandHere_105 ⟨Nat.le_of_ble_eq_true rfl, Nat.le_of_ble_eq_true rfl⟩ (fun H locs hP hD hS => ?_)
        have hP : va_P (dC, dI) vwCl [(a 0, .inr (11, [.ref (a 1), .ref (a 2), .ref (a 3), .ref (a 4), .int M_isSaved, .int M_changes, .int M_isWithin, .int M_code, .ref (a 5), .int M_length, .int M_fault, .int M_failed, .ref (a 6), .int M_signMany, .ref (a 7), .ref (a 8), .int M_many, .ref (a 9), .ref (a 10), .int w113, .ref (a 11), .int M_toldMany])), (a 1, .inl (Y 0, 238, .inl M_g)), (a 2, .inl (Y 0, 1904, .inl M_kept)), (a 3, .inl (Y 0, 238, .inl M_saved)), (a 4, .inl (Y 0, 238, .inl M_before)), (a 5, .inl (Y 0, 60, .inl M_input)), (a 6, .inl (Y 2, 100, .inl M_signs)), (a 7, .inl (Y 0, 6, .inl M_column)), (a 8, .inl (Y 0, 6, .inl M_loads)), (a 9, .inl (Y 0, 2048, .inl M_sums)), (a 10, .inl (Y 0, 2048, .inl M_groups)), (a 11, .inl (Y 0, 155, .inl w114))] H := hP
        have hD : va_D A [(a 0, .inr (11, [.ref (a 1), .ref (a 2), .ref (a 3), .ref (a 4), .int M_isSaved, .int M_changes, .int M_isWithin, .int M_code, .ref (a 5), .int M_length, .int M_fault, .int M_failed, .ref (a 6), .int M_signMany, .ref (a 7), .ref (a 8), .int M_many, .ref (a 9), .ref (a 10), .int w113, .ref (a 11), .int M_toldMany])), (a 1, .inl (Y 0, 238, .inl M_g)), (a 2, .inl (Y 0, 1904, .inl M_kept)), (a 3, .inl (Y 0, 238, .inl M_saved)), (a 4, .inl (Y 0, 238, .inl M_before)), (a 5, .inl (Y 0, 60, .inl M_input)), (a 6, .inl (Y 2, 100, .inl M_signs)), (a 7, .inl (Y 0, 6, .inl M_column)), (a 8, .inl (Y 0, 6, .inl M_loads)), (a 9, .inl (Y 0, 2048, .inl M_sums)), (a 10, .inl (Y 0, 2048, .inl M_groups)), (a 11, .inl (Y 0, 155, .inl w114))] := hD
        refine lv_if_eq (tgt := 115) hx hb dX11_commandHere_108 (by decide) (fun q117 => ?_) (fun q117 => ?_)
        · have hf := wk_t hf q117
          refine lv_iconst (v := 0) hx hb dX11_commandHere_115 (by decide) ?_
          obtain ⟨e0, e1, e2⟩ := wke3 hf
          subst e0
          subst e1
          subst e2
          have hP9 := hP.sub (ws' := (wX11 Y a M_g M_kept M_saved M_before M_isSaved M_changes M_isWithin M_code M_input M_length M_fault M_failed M_signs M_signMany M_column M_loads M_many M_sums M_groups w113 w114 M_toldMany)) [0, 1, 2, 3, 4, 5, 6, 7, 8, 9, 10, 11] rfl
          have hD9 := hD.sub (ws' := (wX11 Y a M_g M_kept M_saved M_before M_isSaved M_changes M_isWithin M_code M_input M_length M_fault M_failed M_signs M_signMany M_column M_loads M_many M_sums M_groups w113 w114 M_toldMany)) [0, 1, 2, 3, 4, 5, 6, 7, 8, 9, 10, 11] (by decide) rfl
          exact W.zret (v := 0) (ty := .boolean) hx hb hr rfl (fun t ht hW => ⟨⟨0, (), rfl, rfl, by rw [ht]; exact hP9, va_K.moved hW.alike hK, hD9⟩, hS.F ht⟩) hS.2.2 dX11_commandHere_116
        · have hf := wk_f hf q117
          refine lv_iconst (v := 1) hx hb dX11_commandHere_111 (by decide) ?_
          refine lv_goto (tgt := 116) hx hb dX11_commandHere_112 (by decide) ?_
          obtain ⟨e0, e1, e2⟩ := wke3 hf
          subst e0
          subst e1
          subst e2
          have hP9 := hP.sub (ws' := (wX11 Y a M_g M_kept M_saved M_before M_isSaved M_changes M_isWithin M_code M_input M_length M_fault M_failed M_signs M_signMany M_column M_loads M_many M_sums M_groups w113 w114 M_toldMany)) [0, 1, 2, 3, 4, 5, 6, 7, 8, 9, 10, 11] rfl
          have hD9 := hD.sub (ws' := (wX11 Y a M_g M_kept M_saved M_before M_isSaved M_changes M_isWithin M_code M_input M_length M_fault M_failed M_signs M_signMany M_column M_loads M_many M_sums M_groups w113 w114 M_toldMany)) [0, 1, 2, 3, 4, 5, 6, 7, 8, 9, 10, 11] (by decide) rfl
          exact W.zret (v := 1) (ty := .boolean) hx hb hr rfl (fun t ht hW => ⟨⟨1, (), rfl, rfl, by rw [ht]; exact hP9, va_K.moved hW.alike hK, hD9⟩, hS.F ht⟩) hS.2.2 dX11_commandHere_116
  · have hf := wk_f hf q5
    refine lv_aload_n hx hb dX11_commandHere_18 rfl (lv_at hl 1 rfl) ?_
    refine lv_iconst (v := 0) hx hb dX11_commandHere_19 (by decide) ?_
    refine va_ldcS (q := g 2 10) hx hb hown (wk_T.wrd hT 2 (by decide)) dX11_commandHere_20 ?_
    obtain ⟨r118, w119, w120, hr121, hf⟩ := wkb3_s hf
    refine wk_eviT (As := [.int 0, .ref (g 2 10)]) (rest := []) (wc := (wX11 Y a M_g M_kept M_saved M_before M_isSaved M_changes M_isWithin M_code M_input M_length M_fault M_failed M_signs M_signMany M_column M_loads M_many M_sums M_groups w2 M_told M_toldMany)) (w1 := (wX11 Y a M_g M_kept M_saved M_before M_isSaved M_changes M_isWithin M_code M_input M_length M_fault M_failed M_signs M_signMany M_column M_loads M_many M_sums M_groups w119 w120 M_toldMany)) (wr := []) ⟨hx, hb, hml, hown, hts⟩ (c_X11_isWord l dC dI Y g a M_g M_kept M_saved M_before M_isSaved M_changes M_isWithin M_code M_input M_length M_fault M_failed M_signs M_signMany M_column M_loads M_many M_sums M_groups w2 M_told M_toldMany 0 10 H.size r118 w119 w120 hr121) (cwV 2 hts gX11_commandHere_X11_isWord rfl rfl rfl (by decide +kernel) ⟨Nat.le_of_ble_eq_true rfl, Nat.le_of_ble_eq_true rfl⟩) hK hP hD hS hA hT [0, 1, 2, 3, 4, 5, 6, 7, 8, 9, 10, 11] [] rfl rfl (by decide) (by decide) (by decide) (va_recv hK hP (ci := 11) (q0 := 0) rfl rfl) rfl hl.1 rfl (Nat.le_of_ble_eq_true rfl) dX11_commandHere_22 ⟨Nat.le_of_ble_eq_true rfl, Nat.le_of_ble_eq_true rfl⟩ (fun H locs hP hD hS => ?_)
    have hP : va_P (dC, dI) vwCl [(a 0, .inr (11, [.ref (a 1), .ref (a 2), .ref (a 3), .ref (a 4), .int M_isSaved, .int M_changes, .int M_isWithin, .int M_code, .ref (a 5), .int M_length, .int M_fault, .int M_failed, .ref (a 6), .int M_signMany, .ref (a 7), .ref (a 8), .int M_many, .ref (a 9), .ref (a 10), .int w119, .ref (a 11), .int M_toldMany])), (a 1, .inl (Y 0, 238, .inl M_g)), (a 2, .inl (Y 0, 1904, .inl M_kept)), (a 3, .inl (Y 0, 238, .inl M_saved)), (a 4, .inl (Y 0, 238, .inl M_before)), (a 5, .inl (Y 0, 60, .inl M_input)), (a 6, .inl (Y 2, 100, .inl M_signs)), (a 7, .inl (Y 0, 6, .inl M_column)), (a 8, .inl (Y 0, 6, .inl M_loads)), (a 9, .inl (Y 0, 2048, .inl M_sums)), (a 10, .inl (Y 0, 2048, .inl M_groups)), (a 11, .inl (Y 0, 155, .inl w120))] H := hP
    have hD : va_D A [(a 0, .inr (11, [.ref (a 1), .ref (a 2), .ref (a 3), .ref (a 4), .int M_isSaved, .int M_changes, .int M_isWithin, .int M_code, .ref (a 5), .int M_length, .int M_fault, .int M_failed, .ref (a 6), .int M_signMany, .ref (a 7), .ref (a 8), .int M_many, .ref (a 9), .ref (a 10), .int w119, .ref (a 11), .int M_toldMany])), (a 1, .inl (Y 0, 238, .inl M_g)), (a 2, .inl (Y 0, 1904, .inl M_kept)), (a 3, .inl (Y 0, 238, .inl M_saved)), (a 4, .inl (Y 0, 238, .inl M_before)), (a 5, .inl (Y 0, 60, .inl M_input)), (a 6, .inl (Y 2, 100, .inl M_signs)), (a 7, .inl (Y 0, 6, .inl M_column)), (a 8, .inl (Y 0, 6, .inl M_loads)), (a 9, .inl (Y 0, 2048, .inl M_sums)), (a 10, .inl (Y 0, 2048, .inl M_groups)), (a 11, .inl (Y 0, 155, .inl w120))] := hD
    refine lv_if_eq (tgt := 82) hx hb dX11_commandHere_25 (by decide) (fun q123 => ?_) (fun q123 => ?_)
    · have hf := wk_t hf q123
      refine lv_iconst (v := 0) hx hb dX11_commandHere_82 (by decide) ?_
      obtain ⟨e0, e1, e2⟩ := wke3 hf
      subst e0
      subst e1
      subst e2
      have hP9 := hP.sub (ws' := (wX11 Y a M_g M_kept M_saved M_before M_isSaved M_changes M_isWithin M_code M_input M_length M_fault M_failed M_signs M_signMany M_column M_loads M_many M_sums M_groups w119 w120 M_toldMany)) [0, 1, 2, 3, 4, 5, 6, 7, 8, 9, 10, 11] rfl
      have hD9 := hD.sub (ws' := (wX11 Y a M_g M_kept M_saved M_before M_isSaved M_changes M_isWithin M_code M_input M_length M_fault M_failed M_signs M_signMany M_column M_loads M_many M_sums M_groups w119 w120 M_toldMany)) [0, 1, 2, 3, 4, 5, 6, 7, 8, 9, 10, 11] (by decide) rfl
      exact W.zret (v := 0) (ty := .boolean) hx hb hr rfl (fun t ht hW => ⟨⟨0, (), rfl, rfl, by rw [ht]; exact hP9, va_K.moved hW.alike hK, hD9⟩, hS.F ht⟩) hS.2.2 dX11_commandHere_83
    · have hf := wk_f hf q123
      refine lv_aload_n hx hb dX11_commandHere_28 rfl (lv_at hl 1 rfl) ?_
      refine lv_bipush (v := 32) hx hb dX11_commandHere_29 (by decide) ?_
      refine lv_iload_n hx hb dX11_commandHere_31 rfl (lv_at hl 0 rfl) ?_
      refine lv_iconst (v := 4) hx hb dX11_commandHere_32 (by decide) ?_
      obtain ⟨r124, w125, w126, hr127, hf⟩ := wkb3_s hf
      refine wk_evi (As := [.int 32, .int ((5 * M_toldMany) + 1), .int 4]) (rest := []) (wc := (wX11 Y a M_g M_kept M_saved M_before M_isSaved M_changes M_isWithin M_code M_input M_length M_fault M_failed M_signs M_signMany M_column M_loads M_many M_sums M_groups w119 w120 M_toldMany)) (w1 := (wX11 Y a M_g M_kept M_saved M_before M_isSaved M_changes M_isWithin M_code M_input M_length M_fault M_failed M_signs M_signMany M_column M_loads M_many M_sums M_groups w125 w126 M_toldMany)) (wr := []) ⟨hx, hb, hml, hown, hts⟩ (c_X11_figures l dC dI Y a M_g M_kept M_saved M_before M_isSaved M_changes M_isWithin M_code M_input M_length M_fault M_failed M_signs M_signMany M_column M_loads M_many M_sums M_groups w119 w120 M_toldMany 32 ((5 * M_toldMany) + 1) 4 H.size r124 w125 w126 hr127) (cwV 3 hts gX11_commandHere_X11_figures rfl rfl rfl (by decide +kernel) ⟨Nat.le_of_ble_eq_true rfl, Nat.le_of_ble_eq_true rfl⟩) hK hP hD hS hA [0, 1, 2, 3, 4, 5, 6, 7, 8, 9, 10, 11] [] rfl rfl (by decide) (by decide) (by decide) (va_recv hK hP (ci := 11) (q0 := 0) rfl rfl) rfl hl.1 rfl (Nat.le_of_ble_eq_true rfl) dX11_commandHere_33 ⟨Nat.le_of_ble_eq_true rfl, Nat.le_of_ble_eq_true rfl⟩ (fun H locs hP hD hS => ?_)
      have hP : va_P (dC, dI) vwCl [(a 0, .inr (11, [.ref (a 1), .ref (a 2), .ref (a 3), .ref (a 4), .int M_isSaved, .int M_changes, .int M_isWithin, .int M_code, .ref (a 5), .int M_length, .int M_fault, .int M_failed, .ref (a 6), .int M_signMany, .ref (a 7), .ref (a 8), .int M_many, .ref (a 9), .ref (a 10), .int w125, .ref (a 11), .int M_toldMany])), (a 1, .inl (Y 0, 238, .inl M_g)), (a 2, .inl (Y 0, 1904, .inl M_kept)), (a 3, .inl (Y 0, 238, .inl M_saved)), (a 4, .inl (Y 0, 238, .inl M_before)), (a 5, .inl (Y 0, 60, .inl M_input)), (a 6, .inl (Y 2, 100, .inl M_signs)), (a 7, .inl (Y 0, 6, .inl M_column)), (a 8, .inl (Y 0, 6, .inl M_loads)), (a 9, .inl (Y 0, 2048, .inl M_sums)), (a 10, .inl (Y 0, 2048, .inl M_groups)), (a 11, .inl (Y 0, 155, .inl w126))] H := hP
      have hD : va_D A [(a 0, .inr (11, [.ref (a 1), .ref (a 2), .ref (a 3), .ref (a 4), .int M_isSaved, .int M_changes, .int M_isWithin, .int M_code, .ref (a 5), .int M_length, .int M_fault, .int M_failed, .ref (a 6), .int M_signMany, .ref (a 7), .ref (a 8), .int M_many, .ref (a 9), .ref (a 10), .int w125, .ref (a 11), .int M_toldMany])), (a 1, .inl (Y 0, 238, .inl M_g)), (a 2, .inl (Y 0, 1904, .inl M_kept)), (a 3, .inl (Y 0, 238, .inl M_saved)), (a 4, .inl (Y 0, 238, .inl M_before)), (a 5, .inl (Y 0, 60, .inl M_input)), (a 6, .inl (Y 2, 100, .inl M_signs)), (a 7, .inl (Y 0, 6, .inl M_column)), (a 8, .inl (Y 0, 6, .inl M_loads)), (a 9, .inl (Y 0, 2048, .inl M_sums)), (a 10, .inl (Y 0, 2048, .inl M_groups)), (a 11, .inl (Y 0, 155, .inl w126))] := hD
      refine lv_if_eq (tgt := 82) hx hb dX11_commandHere_36 (by decide) (fun q129 => ?_) (fun q129 => ?_)
      · have hf := wk_t hf q129
        refine lv_iconst (v := 0) hx hb dX11_commandHere_82 (by decide) ?_
        obtain ⟨e0, e1, e2⟩ := wke3 hf
        subst e0
        subst e1
        subst e2
        have hP9 := hP.sub (ws' := (wX11 Y a M_g M_kept M_saved M_before M_isSaved M_changes M_isWithin M_code M_input M_length M_fault M_failed M_signs M_signMany M_column M_loads M_many M_sums M_groups w125 w126 M_toldMany)) [0, 1, 2, 3, 4, 5, 6, 7, 8, 9, 10, 11] rfl
        have hD9 := hD.sub (ws' := (wX11 Y a M_g M_kept M_saved M_before M_isSaved M_changes M_isWithin M_code M_input M_length M_fault M_failed M_signs M_signMany M_column M_loads M_many M_sums M_groups w125 w126 M_toldMany)) [0, 1, 2, 3, 4, 5, 6, 7, 8, 9, 10, 11] (by decide) rfl
        exact W.zret (v := 0) (ty := .boolean) hx hb hr rfl (fun t ht hW => ⟨⟨0, (), rfl, rfl, by rw [ht]; exact hP9, va_K.moved hW.alike hK, hD9⟩, hS.F ht⟩) hS.2.2 dX11_commandHere_83
      · have hf := wk_f hf q129
        refine lv_aload_n hx hb dX11_commandHere_39 rfl (lv_at hl 1 rfl) ?_
        refine lv_bipush (v := 32) hx hb dX11_commandHere_40 (by decide) ?_
        refine lv_iload_n hx hb dX11_commandHere_42 rfl (lv_at hl 0 rfl) ?_
        refine lv_iconst (v := 1) hx hb dX11_commandHere_43 (by decide) ?_
        refine lv_iadd hx hb dX11_commandHere_44 ?_
        refine lv_iconst (v := 4) hx hb dX11_commandHere_45 (by decide) ?_
        obtain ⟨r130, w131, w132, hr133, hf⟩ := wkb3_s hf
        refine wk_evi (As := [.int 32, .int (((5 * M_toldMany) + 1) + 1), .int 4]) (rest := []) (wc := (wX11 Y a M_g M_kept M_saved M_before M_isSaved M_changes M_isWithin M_code M_input M_length M_fault M_failed M_signs M_signMany M_column M_loads M_many M_sums M_groups w125 w126 M_toldMany)) (w1 := (wX11 Y a M_g M_kept M_saved M_before M_isSaved M_changes M_isWithin M_code M_input M_length M_fault M_failed M_signs M_signMany M_column M_loads M_many M_sums M_groups w131 w132 M_toldMany)) (wr := []) ⟨hx, hb, hml, hown, hts⟩ (c_X11_figures l dC dI Y a M_g M_kept M_saved M_before M_isSaved M_changes M_isWithin M_code M_input M_length M_fault M_failed M_signs M_signMany M_column M_loads M_many M_sums M_groups w125 w126 M_toldMany 32 (((5 * M_toldMany) + 1) + 1) 4 H.size r130 w131 w132 hr133) (cwV 3 hts gX11_commandHere_X11_figures rfl rfl rfl (by decide +kernel) ⟨Nat.le_of_ble_eq_true rfl, Nat.le_of_ble_eq_true rfl⟩) hK hP hD hS hA [0, 1, 2, 3, 4, 5, 6, 7, 8, 9, 10, 11] [] rfl rfl (by decide) (by decide) (by decide) (va_recv hK hP (ci := 11) (q0 := 0) rfl rfl) rfl hl.1 rfl (Nat.le_of_ble_eq_true rfl) dX11_commandHere_46 ⟨Nat.le_of_ble_eq_true rfl, Nat.le_of_ble_eq_true rfl⟩ (fun H locs hP hD hS => ?_)
        have hP : va_P (dC, dI) vwCl [(a 0, .inr (11, [.ref (a 1), .ref (a 2), .ref (a 3), .ref (a 4), .int M_isSaved, .int M_changes, .int M_isWithin, .int M_code, .ref (a 5), .int M_length, .int M_fault, .int M_failed, .ref (a 6), .int M_signMany, .ref (a 7), .ref (a 8), .int M_many, .ref (a 9), .ref (a 10), .int w131, .ref (a 11), .int M_toldMany])), (a 1, .inl (Y 0, 238, .inl M_g)), (a 2, .inl (Y 0, 1904, .inl M_kept)), (a 3, .inl (Y 0, 238, .inl M_saved)), (a 4, .inl (Y 0, 238, .inl M_before)), (a 5, .inl (Y 0, 60, .inl M_input)), (a 6, .inl (Y 2, 100, .inl M_signs)), (a 7, .inl (Y 0, 6, .inl M_column)), (a 8, .inl (Y 0, 6, .inl M_loads)), (a 9, .inl (Y 0, 2048, .inl M_sums)), (a 10, .inl (Y 0, 2048, .inl M_groups)), (a 11, .inl (Y 0, 155, .inl w132))] H := hP
        have hD : va_D A [(a 0, .inr (11, [.ref (a 1), .ref (a 2), .ref (a 3), .ref (a 4), .int M_isSaved, .int M_changes, .int M_isWithin, .int M_code, .ref (a 5), .int M_length, .int M_fault, .int M_failed, .ref (a 6), .int M_signMany, .ref (a 7), .ref (a 8), .int M_many, .ref (a 9), .ref (a 10), .int w131, .ref (a 11), .int M_toldMany])), (a 1, .inl (Y 0, 238, .inl M_g)), (a 2, .inl (Y 0, 1904, .inl M_kept)), (a 3, .inl (Y 0, 238, .inl M_saved)), (a 4, .inl (Y 0, 238, .inl M_before)), (a 5, .inl (Y 0, 60, .inl M_input)), (a 6, .inl (Y 2, 100, .inl M_signs)), (a 7, .inl (Y 0, 6, .inl M_column)), (a 8, .inl (Y 0, 6, .inl M_loads)), (a 9, .inl (Y 0, 2048, .inl M_sums)), (a 10, .inl (Y 0, 2048, .inl M_groups)), (a 11, .inl (Y 0, 155, .inl w132))] := hD
        refine lv_if_eq (tgt := 82) hx hb dX11_commandHere_49 (by decide) (fun q135 => ?_) (fun q135 => ?_)
        · have hf := wk_t hf q135
          refine lv_iconst (v := 0) hx hb dX11_commandHere_82 (by decide) ?_
          obtain ⟨e0, e1, e2⟩ := wke3 hf
          subst e0
          subst e1
          subst e2
          have hP9 := hP.sub (ws' := (wX11 Y a M_g M_kept M_saved M_before M_isSaved M_changes M_isWithin M_code M_input M_length M_fault M_failed M_signs M_signMany M_column M_loads M_many M_sums M_groups w131 w132 M_toldMany)) [0, 1, 2, 3, 4, 5, 6, 7, 8, 9, 10, 11] rfl
          have hD9 := hD.sub (ws' := (wX11 Y a M_g M_kept M_saved M_before M_isSaved M_changes M_isWithin M_code M_input M_length M_fault M_failed M_signs M_signMany M_column M_loads M_many M_sums M_groups w131 w132 M_toldMany)) [0, 1, 2, 3, 4, 5, 6, 7, 8, 9, 10, 11] (by decide) rfl
          exact W.zret (v := 0) (ty := .boolean) hx hb hr rfl (fun t ht hW => ⟨⟨0, (), rfl, rfl, by rw [ht]; exact hP9, va_K.moved hW.alike hK, hD9⟩, hS.F ht⟩) hS.2.2 dX11_commandHere_83
        · have hf := wk_f hf q135
          refine lv_aload_n hx hb dX11_commandHere_52 rfl (lv_at hl 1 rfl) ?_
          refine lv_bipush (v := 32) hx hb dX11_commandHere_53 (by decide) ?_
          refine lv_iload_n hx hb dX11_commandHere_55 rfl (lv_at hl 0 rfl) ?_
          refine lv_iconst (v := 2) hx hb dX11_commandHere_56 (by decide) ?_
          refine lv_iadd hx hb dX11_commandHere_57 ?_
          refine lv_iconst (v := 4) hx hb dX11_commandHere_58 (by decide) ?_
          obtain ⟨r136, w137, w138, hr139, hf⟩ := wkb3_s hf
          refine wk_evi (As := [.int 32, .int (((5 * M_toldMany) + 1) + 2), .int 4]) (rest := []) (wc := (wX11 Y a M_g M_kept M_saved M_before M_isSaved M_changes M_isWithin M_code M_input M_length M_fault M_failed M_signs M_signMany M_column M_loads M_many M_sums M_groups w131 w132 M_toldMany)) (w1 := (wX11 Y a M_g M_kept M_saved M_before M_isSaved M_changes M_isWithin M_code M_input M_length M_fault M_failed M_signs M_signMany M_column M_loads M_many M_sums M_groups w137 w138 M_toldMany)) (wr := []) ⟨hx, hb, hml, hown, hts⟩ (c_X11_figures l dC dI Y a M_g M_kept M_saved M_before M_isSaved M_changes M_isWithin M_code M_input M_length M_fault M_failed M_signs M_signMany M_column M_loads M_many M_sums M_groups w131 w132 M_toldMany 32 (((5 * M_toldMany) + 1) + 2) 4 H.size r136 w137 w138 hr139) (cwV 3 hts gX11_commandHere_X11_figures rfl rfl rfl (by decide +kernel) ⟨Nat.le_of_ble_eq_true rfl, Nat.le_of_ble_eq_true rfl⟩) hK hP hD hS hA [0, 1, 2, 3, 4, 5, 6, 7, 8, 9, 10, 11] [] rfl rfl (by decide) (by decide) (by decide) (va_recv hK hP (ci := 11) (q0 := 0) rfl rfl) rfl hl.1 rfl (Nat.le_of_ble_eq_true rfl) dX11_commandHere_59 ⟨Nat.le_of_ble_eq_true rfl, Nat.le_of_ble_eq_true rfl⟩ (fun H locs hP hD hS => ?_)
          have hP : va_P (dC, dI) vwCl [(a 0, .inr (11, [.ref (a 1), .ref (a 2), .ref (a 3), .ref (a 4), .int M_isSaved, .int M_changes, .int M_isWithin, .int M_code, .ref (a 5), .int M_length, .int M_fault, .int M_failed, .ref (a 6), .int M_signMany, .ref (a 7), .ref (a 8), .int M_many, .ref (a 9), .ref (a 10), .int w137, .ref (a 11), .int M_toldMany])), (a 1, .inl (Y 0, 238, .inl M_g)), (a 2, .inl (Y 0, 1904, .inl M_kept)), (a 3, .inl (Y 0, 238, .inl M_saved)), (a 4, .inl (Y 0, 238, .inl M_before)), (a 5, .inl (Y 0, 60, .inl M_input)), (a 6, .inl (Y 2, 100, .inl M_signs)), (a 7, .inl (Y 0, 6, .inl M_column)), (a 8, .inl (Y 0, 6, .inl M_loads)), (a 9, .inl (Y 0, 2048, .inl M_sums)), (a 10, .inl (Y 0, 2048, .inl M_groups)), (a 11, .inl (Y 0, 155, .inl w138))] H := hP
          have hD : va_D A [(a 0, .inr (11, [.ref (a 1), .ref (a 2), .ref (a 3), .ref (a 4), .int M_isSaved, .int M_changes, .int M_isWithin, .int M_code, .ref (a 5), .int M_length, .int M_fault, .int M_failed, .ref (a 6), .int M_signMany, .ref (a 7), .ref (a 8), .int M_many, .ref (a 9), .ref (a 10), .int w137, .ref (a 11), .int M_toldMany])), (a 1, .inl (Y 0, 238, .inl M_g)), (a 2, .inl (Y 0, 1904, .inl M_kept)), (a 3, .inl (Y 0, 238, .inl M_saved)), (a 4, .inl (Y 0, 238, .inl M_before)), (a 5, .inl (Y 0, 60, .inl M_input)), (a 6, .inl (Y 2, 100, .inl M_signs)), (a 7, .inl (Y 0, 6, .inl M_column)), (a 8, .inl (Y 0, 6, .inl M_loads)), (a 9, .inl (Y 0, 2048, .inl M_sums)), (a 10, .inl (Y 0, 2048, .inl M_groups)), (a 11, .inl (Y 0, 155, .inl w138))] := hD
          refine lv_if_eq (tgt := 82) hx hb dX11_commandHere_62 (by decide) (fun q141 => ?_) (fun q141 => ?_)
          · have hf := wk_t hf q141
            refine lv_iconst (v := 0) hx hb dX11_commandHere_82 (by decide) ?_
            obtain ⟨e0, e1, e2⟩ := wke3 hf
            subst e0
            subst e1
            subst e2
            have hP9 := hP.sub (ws' := (wX11 Y a M_g M_kept M_saved M_before M_isSaved M_changes M_isWithin M_code M_input M_length M_fault M_failed M_signs M_signMany M_column M_loads M_many M_sums M_groups w137 w138 M_toldMany)) [0, 1, 2, 3, 4, 5, 6, 7, 8, 9, 10, 11] rfl
            have hD9 := hD.sub (ws' := (wX11 Y a M_g M_kept M_saved M_before M_isSaved M_changes M_isWithin M_code M_input M_length M_fault M_failed M_signs M_signMany M_column M_loads M_many M_sums M_groups w137 w138 M_toldMany)) [0, 1, 2, 3, 4, 5, 6, 7, 8, 9, 10, 11] (by decide) rfl
            exact W.zret (v := 0) (ty := .boolean) hx hb hr rfl (fun t ht hW => ⟨⟨0, (), rfl, rfl, by rw [ht]; exact hP9, va_K.moved hW.alike hK, hD9⟩, hS.F ht⟩) hS.2.2 dX11_commandHere_83
          · have hf := wk_f hf q141
            refine lv_aload_n hx hb dX11_commandHere_65 rfl (lv_at hl 1 rfl) ?_
            refine lv_bipush (v := 32) hx hb dX11_commandHere_66 (by decide) ?_
            refine lv_iload_n hx hb dX11_commandHere_68 rfl (lv_at hl 0 rfl) ?_
            refine lv_iconst (v := 3) hx hb dX11_commandHere_69 (by decide) ?_
            refine lv_iadd hx hb dX11_commandHere_70 ?_
            refine lv_iconst (v := 4) hx hb dX11_commandHere_71 (by decide) ?_
            obtain ⟨r142, w143, w144, hr145, hf⟩ := wkb3_s hf
            refine wk_evi (As := [.int 32, .int (((5 * M_toldMany) + 1) + 3), .int 4]) (rest := []) (wc := (wX11 Y a M_g M_kept M_saved M_before M_isSaved M_changes M_isWithin M_code M_input M_length M_fault M_failed M_signs M_signMany M_column M_loads M_many M_sums M_groups w137 w138 M_toldMany)) (w1 := (wX11 Y a M_g M_kept M_saved M_before M_isSaved M_changes M_isWithin M_code M_input M_length M_fault M_failed M_signs M_signMany M_column M_loads M_many M_sums M_groups w143 w144 M_toldMany)) (wr := []) ⟨hx, hb, hml, hown, hts⟩ (c_X11_figures l dC dI Y a M_g M_kept M_saved M_before M_isSaved M_changes M_isWithin M_code M_input M_length M_fault M_failed M_signs M_signMany M_column M_loads M_many M_sums M_groups w137 w138 M_toldMany 32 (((5 * M_toldMany) + 1) + 3) 4 H.size r142 w143 w144 hr145) (cwV 3 hts gX11_commandHere_X11_figures rfl rfl rfl (by decide +kernel) ⟨Nat.le_of_ble_eq_true rfl, Nat.le_of_ble_eq_true rfl⟩) hK hP hD hS hA [0, 1, 2, 3, 4, 5, 6, 7, 8, 9, 10, 11] [] rfl rfl (by decide) (by decide) (by decide) (va_recv hK hP (ci := 11) (q0 := 0) rfl rfl) rfl hl.1 rfl (Nat.le_of_ble_eq_true rfl) dX11_commandHere_72 ⟨Nat.le_of_ble_eq_true rfl, Nat.le_of_ble_eq_true rfl⟩ (fun H locs hP hD hS => ?_)
            have hP : va_P (dC, dI) vwCl [(a 0, .inr (11, [.ref (a 1), .ref (a 2), .ref (a 3), .ref (a 4), .int M_isSaved, .int M_changes, .int M_isWithin, .int M_code, .ref (a 5), .int M_length, .int M_fault, .int M_failed, .ref (a 6), .int M_signMany, .ref (a 7), .ref (a 8), .int M_many, .ref (a 9), .ref (a 10), .int w143, .ref (a 11), .int M_toldMany])), (a 1, .inl (Y 0, 238, .inl M_g)), (a 2, .inl (Y 0, 1904, .inl M_kept)), (a 3, .inl (Y 0, 238, .inl M_saved)), (a 4, .inl (Y 0, 238, .inl M_before)), (a 5, .inl (Y 0, 60, .inl M_input)), (a 6, .inl (Y 2, 100, .inl M_signs)), (a 7, .inl (Y 0, 6, .inl M_column)), (a 8, .inl (Y 0, 6, .inl M_loads)), (a 9, .inl (Y 0, 2048, .inl M_sums)), (a 10, .inl (Y 0, 2048, .inl M_groups)), (a 11, .inl (Y 0, 155, .inl w144))] H := hP
            have hD : va_D A [(a 0, .inr (11, [.ref (a 1), .ref (a 2), .ref (a 3), .ref (a 4), .int M_isSaved, .int M_changes, .int M_isWithin, .int M_code, .ref (a 5), .int M_length, .int M_fault, .int M_failed, .ref (a 6), .int M_signMany, .ref (a 7), .ref (a 8), .int M_many, .ref (a 9), .ref (a 10), .int w143, .ref (a 11), .int M_toldMany])), (a 1, .inl (Y 0, 238, .inl M_g)), (a 2, .inl (Y 0, 1904, .inl M_kept)), (a 3, .inl (Y 0, 238, .inl M_saved)), (a 4, .inl (Y 0, 238, .inl M_before)), (a 5, .inl (Y 0, 60, .inl M_input)), (a 6, .inl (Y 2, 100, .inl M_signs)), (a 7, .inl (Y 0, 6, .inl M_column)), (a 8, .inl (Y 0, 6, .inl M_loads)), (a 9, .inl (Y 0, 2048, .inl M_sums)), (a 10, .inl (Y 0, 2048, .inl M_groups)), (a 11, .inl (Y 0, 155, .inl w144))] := hD
            refine lv_if_eq (tgt := 82) hx hb dX11_commandHere_75 (by decide) (fun q147 => ?_) (fun q147 => ?_)
            · have hf := wk_t hf q147
              refine lv_iconst (v := 0) hx hb dX11_commandHere_82 (by decide) ?_
              obtain ⟨e0, e1, e2⟩ := wke3 hf
              subst e0
              subst e1
              subst e2
              have hP9 := hP.sub (ws' := (wX11 Y a M_g M_kept M_saved M_before M_isSaved M_changes M_isWithin M_code M_input M_length M_fault M_failed M_signs M_signMany M_column M_loads M_many M_sums M_groups w143 w144 M_toldMany)) [0, 1, 2, 3, 4, 5, 6, 7, 8, 9, 10, 11] rfl
              have hD9 := hD.sub (ws' := (wX11 Y a M_g M_kept M_saved M_before M_isSaved M_changes M_isWithin M_code M_input M_length M_fault M_failed M_signs M_signMany M_column M_loads M_many M_sums M_groups w143 w144 M_toldMany)) [0, 1, 2, 3, 4, 5, 6, 7, 8, 9, 10, 11] (by decide) rfl
              exact W.zret (v := 0) (ty := .boolean) hx hb hr rfl (fun t ht hW => ⟨⟨0, (), rfl, rfl, by rw [ht]; exact hP9, va_K.moved hW.alike hK, hD9⟩, hS.F ht⟩) hS.2.2 dX11_commandHere_83
            · have hf := wk_f hf q147
              refine lv_iconst (v := 1) hx hb dX11_commandHere_78 (by decide) ?_
              refine lv_goto (tgt := 83) hx hb dX11_commandHere_79 (by decide) ?_
              obtain ⟨e0, e1, e2⟩ := wke3 hf
              subst e0
              subst e1
              subst e2
              have hP9 := hP.sub (ws' := (wX11 Y a M_g M_kept M_saved M_before M_isSaved M_changes M_isWithin M_code M_input M_length M_fault M_failed M_signs M_signMany M_column M_loads M_many M_sums M_groups w143 w144 M_toldMany)) [0, 1, 2, 3, 4, 5, 6, 7, 8, 9, 10, 11] rfl
              have hD9 := hD.sub (ws' := (wX11 Y a M_g M_kept M_saved M_before M_isSaved M_changes M_isWithin M_code M_input M_length M_fault M_failed M_signs M_signMany M_column M_loads M_many M_sums M_groups w143 w144 M_toldMany)) [0, 1, 2, 3, 4, 5, 6, 7, 8, 9, 10, 11] (by decide) rfl
              exact W.zret (v := 1) (ty := .boolean) hx hb hr rfl (fun t ht hW => ⟨⟨1, (), rfl, rfl, by rw [ht]; exact hP9, va_K.moved hW.alike hK, hD9⟩, hS.F ht⟩) hS.2.2 dX11_commandHere_83
theorem lk_X11_isScript_RX11_201 : Cond.fieldLink RX11 201 "CircusLedgerModel" "length" "I" ∈ wsX11_isScript := by decide +kernel
theorem lk_X11_isScript_RX11_204 : Cond.fieldLink RX11 204 "CircusLedgerModel" "at" "I" ∈ wsX11_isScript := by decide +kernel
theorem lk_X11_isScript_RX11_210 : Cond.fieldLink RX11 210 "CircusLedgerModel" "toldMany" "I" ∈ wsX11_isScript := by decide +kernel
theorem in_X11_isScript_X11 : ∀ w ∈ u_ws RX11 TX11 22, w ∈ wsX11_isScript := by decide +kernel
def f_X11_isScript_L10 (M_input : Nat → Int32) (M_length : Int32) : Nat → Int32 → (Nat → Int32) → Int32 → Option (Int32 × Int32 × (Nat → Int32) × Int32)
  | 0, _, _, _ => none
  | nn + 1, M_at, M_told, M_toldMany =>
    wkb3 (f_X11_commandHere M_input M_length M_at M_told M_toldMany) (fun r1 w2 w3 =>
    if r1 = 0 then
      (some (0, w2, w3, M_toldMany))
    else
      (wkl ((M_toldMany + 1)) (fun v7 =>
      wkb2 (f_X11_skips M_input M_length w2 59) (fun r8 w9 =>
      if r8 = 0 then
        (if w9 = M_length then
          (some (1, w9, w3, v7))
        else
          (some (0, w9, w3, v7)))
      else
        (f_X11_isScript_L10 M_input M_length nn w9 w3 v7)))))
def f_X11_isScript (M_input : Nat → Int32) (M_length : Int32) (M_at : Int32) (M_told : Nat → Int32) (M_toldMany : Int32) : Option (Int32 × Int32 × (Nat → Int32) × Int32) :=
  f_X11_isScript_L10 M_input M_length FU 0 M_told 0
set_option maxHeartbeats 4000000 in
set_option maxRecDepth 100000 in
theorem wl_X11_isScript_L10 {p : Program} {l : Launch} {e : Env} {s : State} {m : MethodId} {args : Array Value} {below : List Frame} {meth : Method} {c : Code} {dC : Nat → ClassId} {dI : Nat → Nat → Nat} {Y : Nat → ClassId} {a : Nat → Nat} {g : Nat → Nat → Nat} {M_g : Nat → Int32} {M_kept : Nat → Int32} {M_saved : Nat → Int32} {M_before : Nat → Int32} {M_isSaved : Int32} {M_changes : Int32} {M_isWithin : Int32} {M_code : Int32} {M_input : Nat → Int32} {M_length : Int32} {M_fault : Int32} {M_failed : Int32} {M_signs : Nat → Int32} {M_signMany : Int32} {M_column : Nat → Int32} {M_loads : Nat → Int32} {M_many : Int32} {M_sums : Nat → Int32} {M_groups : Nat → Int32}  {r : Int32} {zM_at : Int32} {zM_told : Nat → Int32} {zM_toldMany : Int32}  (C0 : wk_C p s m args meth c cX11_isScript 1 (some .boolean) wsX11_isScript RX11) {A : Nat → Prop} (hK : va_K (dC, dI) vwCl (vTy Y) s) (hA : ∀ q, s.heap.size ≤ q → A q) (hT : wk_T g A s s.heap) : ∀ (nn : Nat)   (M_at : Int32) (M_told : Nat → Int32) (M_toldMany : Int32), f_X11_isScript_L10 M_input M_length nn M_at M_told M_toldMany = some (r, zM_at, zM_told, zM_toldMany) → ∀ (H : Heap) (locs : List Loc), va_P (dC, dI) vwCl (wX11 Y a M_g M_kept M_saved M_before M_isSaved M_changes M_isWithin M_code M_input M_length M_fault M_failed M_signs M_signMany M_column M_loads M_many M_sums M_groups M_at M_told M_toldMany) H → va_D A (wX11 Y a M_g M_kept M_saved M_before M_isSaved M_changes M_isWithin M_code M_input M_length M_fault M_failed M_signs M_signMany M_column M_loads M_many M_sums M_groups M_at M_told M_toldMany) → va_S A s.heap H locs → ∀ (ls : Array Slot), lv_has ls 1 [(0, .ref (a 0))] → W p l e (headSpec wsX11_isScript ({ frames := 7, cells := 0, slots := 0, locals := 150 } : Room)).room s m args below meth c H locs 0 0 (MQ below (va_Qi (fun r2 (_ : Unit) => r2 = r) (fun _ t => wk_X (dC, dI) Y (wX11 Y a M_g M_kept M_saved M_before M_isSaved M_changes M_isWithin M_code M_input M_length M_fault M_failed M_signs M_signMany M_column M_loads M_many M_sums M_groups zM_at zM_told zM_toldMany) A t) A) args s 0 0 A) (F0 m 10 ls []) := by
  have C0 := C0
  obtain ⟨hx, hb, hml, hr, hlocks, hown, hts⟩ := id C0
  intro nn
  induction nn with
  | zero =>
    intro M_at M_told M_toldMany hf
    rw [f_X11_isScript_L10] at hf
    cases hf
  | succ nn ih =>
    intro M_at M_told M_toldMany hf H locs hP hD hS ls hl
    rw [f_X11_isScript_L10] at hf
    have hP : va_P (dC, dI) vwCl [(a 0, .inr (11, [.ref (a 1), .ref (a 2), .ref (a 3), .ref (a 4), .int M_isSaved, .int M_changes, .int M_isWithin, .int M_code, .ref (a 5), .int M_length, .int M_fault, .int M_failed, .ref (a 6), .int M_signMany, .ref (a 7), .ref (a 8), .int M_many, .ref (a 9), .ref (a 10), .int M_at, .ref (a 11), .int M_toldMany])), (a 1, .inl (Y 0, 238, .inl M_g)), (a 2, .inl (Y 0, 1904, .inl M_kept)), (a 3, .inl (Y 0, 238, .inl M_saved)), (a 4, .inl (Y 0, 238, .inl M_before)), (a 5, .inl (Y 0, 60, .inl M_input)), (a 6, .inl (Y 2, 100, .inl M_signs)), (a 7, .inl (Y 0, 6, .inl M_column)), (a 8, .inl (Y 0, 6, .inl M_loads)), (a 9, .inl (Y 0, 2048, .inl M_sums)), (a 10, .inl (Y 0, 2048, .inl M_groups)), (a 11, .inl (Y 0, 155, .inl M_told))] H := hP
    have hD : va_D A [(a 0, .inr (11, [.ref (a 1), .ref (a 2), .ref (a 3), .ref (a 4), .int M_isSaved, .int M_changes, .int M_isWithin, .int M_code, .ref (a 5), .int M_length, .int M_fault, .int M_failed, .ref (a 6), .int M_signMany, .ref (a 7), .ref (a 8), .int M_many, .ref (a 9), .ref (a 10), .int M_at, .ref (a 11), .int M_toldMany])), (a 1, .inl (Y 0, 238, .inl M_g)), (a 2, .inl (Y 0, 1904, .inl M_kept)), (a 3, .inl (Y 0, 238, .inl M_saved)), (a 4, .inl (Y 0, 238, .inl M_before)), (a 5, .inl (Y 0, 60, .inl M_input)), (a 6, .inl (Y 2, 100, .inl M_signs)), (a 7, .inl (Y 0, 6, .inl M_column)), (a 8, .inl (Y 0, 6, .inl M_loads)), (a 9, .inl (Y 0, 2048, .inl M_sums)), (a 10, .inl (Y 0, 2048, .inl M_groups)), (a 11, .inl (Y 0, 155, .inl M_told))] := hD
    refine lv_aload_n hx hb dX11_isScript_10 rfl (lv_at hl 0 rfl) ?_
    obtain ⟨r1, w2, w3, hr4, hf⟩ := wkb3_s hf
    refine wk_eviT (As := []) (rest := []) (wc := (wX11 Y a M_g M_kept M_saved M_before M_isSaved M_changes M_isWithin M_code M_input M_length M_fault M_failed M_signs M_signMany M_column M_loads M_many M_sums M_groups M_at M_told M_toldMany)) (w1 := (wX11 Y a M_g M_kept M_saved M_before M_isSaved M_changes M_isWithin M_code M_input M_length M_fault M_failed M_signs M_signMany M_column M_loads M_many M_sums M_groups w2 w3 M_toldMany)) (wr := []) ⟨hx, hb, hml, hown, hts⟩ (c_X11_commandHere l dC dI Y g a M_g M_kept M_saved M_before M_isSaved M_changes M_isWithin M_code M_input M_length M_fault M_failed M_signs M_signMany M_column M_loads M_many M_sums M_groups M_at M_told M_toldMany H.size r1 w2 w3 hr4) (cwV 0 hts gX11_isScript_X11_commandHere rfl rfl rfl (by decide +kernel) ⟨Nat.le_of_ble_eq_true rfl, Nat.le_of_ble_eq_true rfl⟩) hK hP hD hS hA hT [0, 1, 2, 3, 4, 5, 6, 7, 8, 9, 10, 11] [] rfl rfl (by decide) (by decide) (by decide) (va_recv hK hP (ci := 11) (q0 := 0) rfl rfl) rfl hl.1 rfl (Nat.le_of_ble_eq_true rfl) dX11_isScript_11 ⟨Nat.le_of_ble_eq_true rfl, Nat.le_of_ble_eq_true rfl⟩ (fun H locs hP hD hS => ?_)
    have hP : va_P (dC, dI) vwCl [(a 0, .inr (11, [.ref (a 1), .ref (a 2), .ref (a 3), .ref (a 4), .int M_isSaved, .int M_changes, .int M_isWithin, .int M_code, .ref (a 5), .int M_length, .int M_fault, .int M_failed, .ref (a 6), .int M_signMany, .ref (a 7), .ref (a 8), .int M_many, .ref (a 9), .ref (a 10), .int w2, .ref (a 11), .int M_toldMany])), (a 1, .inl (Y 0, 238, .inl M_g)), (a 2, .inl (Y 0, 1904, .inl M_kept)), (a 3, .inl (Y 0, 238, .inl M_saved)), (a 4, .inl (Y 0, 238, .inl M_before)), (a 5, .inl (Y 0, 60, .inl M_input)), (a 6, .inl (Y 2, 100, .inl M_signs)), (a 7, .inl (Y 0, 6, .inl M_column)), (a 8, .inl (Y 0, 6, .inl M_loads)), (a 9, .inl (Y 0, 2048, .inl M_sums)), (a 10, .inl (Y 0, 2048, .inl M_groups)), (a 11, .inl (Y 0, 155, .inl w3))] H := hP
    have hD : va_D A [(a 0, .inr (11, [.ref (a 1), .ref (a 2), .ref (a 3), .ref (a 4), .int M_isSaved, .int M_changes, .int M_isWithin, .int M_code, .ref (a 5), .int M_length, .int M_fault, .int M_failed, .ref (a 6), .int M_signMany, .ref (a 7), .ref (a 8), .int M_many, .ref (a 9), .ref (a 10), .int w2, .ref (a 11), .int M_toldMany])), (a 1, .inl (Y 0, 238, .inl M_g)), (a 2, .inl (Y 0, 1904, .inl M_kept)), (a 3, .inl (Y 0, 238, .inl M_saved)), (a 4, .inl (Y 0, 238, .inl M_before)), (a 5, .inl (Y 0, 60, .inl M_input)), (a 6, .inl (Y 2, 100, .inl M_signs)), (a 7, .inl (Y 0, 6, .inl M_column)), (a 8, .inl (Y 0, 6, .inl M_loads)), (a 9, .inl (Y 0, 2048, .inl M_sums)), (a 10, .inl (Y 0, 2048, .inl M_groups)), (a 11, .inl (Y 0, 155, .inl w3))] := hD
    refine lv_if_ne (tgt := 19) hx hb dX11_isScript_14 (by decide) (fun q6 => ?_) (fun q6 => ?_)
    · have hf := wk_f hf q6
      refine lv_aload_n hx hb dX11_isScript_19 rfl (lv_at hl 0 rfl) ?_
      refine lv_dup hx hb dX11_isScript_20 rfl ?_
      refine va_get (D := (dC, dI)) (ci := 11) (v := .int M_toldMany) (C := RX11) (T := TX11) (N := 22) hx hb hts in_X11_isScript_X11 hown hK hP 0 rfl rfl 21 (by decide) (hts _ lk_X11_isScript_RX11_210) (fun _ h9 => h9) rfl dX11_isScript_21 ?_
      refine lv_iconst (v := 1) hx hb dX11_isScript_24 (by decide) ?_
      refine lv_iadd hx hb dX11_isScript_25 ?_
      refine lv_topi (fun v7 ev7 => ?_)
      have hf := wkl_s hf ev7
      refine va_put (D := (dC, dI)) (ci := 11) (v := .int v7) (ty := .int) (C := RX11) (T := TX11) (N := 22) hx hb hts in_X11_isScript_X11 tyX11 tyX11_ok nmX11 hown hK hP hD hS 0 rfl rfl 21 (by decide) (hts _ lk_X11_isScript_RX11_210) (fun _ h9 => h9) rfl (by decide +kernel) rfl rfl (Nat.le_of_ble_eq_true rfl) dX11_isScript_26 (fun H locs hP hD hS => ?_)
      have hP : va_P (dC, dI) vwCl [(a 0, .inr (11, [.ref (a 1), .ref (a 2), .ref (a 3), .ref (a 4), .int M_isSaved, .int M_changes, .int M_isWithin, .int M_code, .ref (a 5), .int M_length, .int M_fault, .int M_failed, .ref (a 6), .int M_signMany, .ref (a 7), .ref (a 8), .int M_many, .ref (a 9), .ref (a 10), .int w2, .ref (a 11), .int v7])), (a 1, .inl (Y 0, 238, .inl M_g)), (a 2, .inl (Y 0, 1904, .inl M_kept)), (a 3, .inl (Y 0, 238, .inl M_saved)), (a 4, .inl (Y 0, 238, .inl M_before)), (a 5, .inl (Y 0, 60, .inl M_input)), (a 6, .inl (Y 2, 100, .inl M_signs)), (a 7, .inl (Y 0, 6, .inl M_column)), (a 8, .inl (Y 0, 6, .inl M_loads)), (a 9, .inl (Y 0, 2048, .inl M_sums)), (a 10, .inl (Y 0, 2048, .inl M_groups)), (a 11, .inl (Y 0, 155, .inl w3))] H := hP
      have hD : va_D A [(a 0, .inr (11, [.ref (a 1), .ref (a 2), .ref (a 3), .ref (a 4), .int M_isSaved, .int M_changes, .int M_isWithin, .int M_code, .ref (a 5), .int M_length, .int M_fault, .int M_failed, .ref (a 6), .int M_signMany, .ref (a 7), .ref (a 8), .int M_many, .ref (a 9), .ref (a 10), .int w2, .ref (a 11), .int v7])), (a 1, .inl (Y 0, 238, .inl M_g)), (a 2, .inl (Y 0, 1904, .inl M_kept)), (a 3, .inl (Y 0, 238, .inl M_saved)), (a 4, .inl (Y 0, 238, .inl M_before)), (a 5, .inl (Y 0, 60, .inl M_input)), (a 6, .inl (Y 2, 100, .inl M_signs)), (a 7, .inl (Y 0, 6, .inl M_column)), (a 8, .inl (Y 0, 6, .inl M_loads)), (a 9, .inl (Y 0, 2048, .inl M_sums)), (a 10, .inl (Y 0, 2048, .inl M_groups)), (a 11, .inl (Y 0, 155, .inl w3))] := hD
      refine lv_aload_n hx hb dX11_isScript_29 rfl (lv_at hl 0 rfl) ?_
      refine lv_bipush (v := 59) hx hb dX11_isScript_30 (by decide) ?_
      obtain ⟨r8, w9, hr10, hf⟩ := wkb2_s hf
      refine wk_evi (As := [.int 59]) (rest := []) (wc := (wX11 Y a M_g M_kept M_saved M_before M_isSaved M_changes M_isWithin M_code M_input M_length M_fault M_failed M_signs M_signMany M_column M_loads M_many M_sums M_groups w2 w3 v7)) (w1 := (wX11 Y a M_g M_kept M_saved M_before M_isSaved M_changes M_isWithin M_code M_input M_length M_fault M_failed M_signs M_signMany M_column M_loads M_many M_sums M_groups w9 w3 v7)) (wr := []) ⟨hx, hb, hml, hown, hts⟩ (c_X11_skips l dC dI Y a M_g M_kept M_saved M_before M_isSaved M_changes M_isWithin M_code M_input M_length M_fault M_failed M_signs M_signMany M_column M_loads M_many M_sums M_groups w2 w3 v7 59 H.size r8 w9 hr10) (cwV 1 hts gX11_isScript_X11_skips rfl rfl rfl (by decide +kernel) ⟨Nat.le_of_ble_eq_true rfl, Nat.le_of_ble_eq_true rfl⟩) hK hP hD hS hA [0, 1, 2, 3, 4, 5, 6, 7, 8, 9, 10, 11] [] rfl rfl (by decide) (by decide) (by decide) (va_recv hK hP (ci := 11) (q0 := 0) rfl rfl) rfl hl.1 rfl (Nat.le_of_ble_eq_true rfl) dX11_isScript_32 ⟨Nat.le_of_ble_eq_true rfl, Nat.le_of_ble_eq_true rfl⟩ (fun H locs hP hD hS => ?_)
      have hP : va_P (dC, dI) vwCl [(a 0, .inr (11, [.ref (a 1), .ref (a 2), .ref (a 3), .ref (a 4), .int M_isSaved, .int M_changes, .int M_isWithin, .int M_code, .ref (a 5), .int M_length, .int M_fault, .int M_failed, .ref (a 6), .int M_signMany, .ref (a 7), .ref (a 8), .int M_many, .ref (a 9), .ref (a 10), .int w9, .ref (a 11), .int v7])), (a 1, .inl (Y 0, 238, .inl M_g)), (a 2, .inl (Y 0, 1904, .inl M_kept)), (a 3, .inl (Y 0, 238, .inl M_saved)), (a 4, .inl (Y 0, 238, .inl M_before)), (a 5, .inl (Y 0, 60, .inl M_input)), (a 6, .inl (Y 2, 100, .inl M_signs)), (a 7, .inl (Y 0, 6, .inl M_column)), (a 8, .inl (Y 0, 6, .inl M_loads)), (a 9, .inl (Y 0, 2048, .inl M_sums)), (a 10, .inl (Y 0, 2048, .inl M_groups)), (a 11, .inl (Y 0, 155, .inl w3))] H := hP
      have hD : va_D A [(a 0, .inr (11, [.ref (a 1), .ref (a 2), .ref (a 3), .ref (a 4), .int M_isSaved, .int M_changes, .int M_isWithin, .int M_code, .ref (a 5), .int M_length, .int M_fault, .int M_failed, .ref (a 6), .int M_signMany, .ref (a 7), .ref (a 8), .int M_many, .ref (a 9), .ref (a 10), .int w9, .ref (a 11), .int v7])), (a 1, .inl (Y 0, 238, .inl M_g)), (a 2, .inl (Y 0, 1904, .inl M_kept)), (a 3, .inl (Y 0, 238, .inl M_saved)), (a 4, .inl (Y 0, 238, .inl M_before)), (a 5, .inl (Y 0, 60, .inl M_input)), (a 6, .inl (Y 2, 100, .inl M_signs)), (a 7, .inl (Y 0, 6, .inl M_column)), (a 8, .inl (Y 0, 6, .inl M_loads)), (a 9, .inl (Y 0, 2048, .inl M_sums)), (a 10, .inl (Y 0, 2048, .inl M_groups)), (a 11, .inl (Y 0, 155, .inl w3))] := hD
      refine lv_if_ne (tgt := 10) hx hb dX11_isScript_35 (by decide) (fun q12 => ?_) (fun q12 => ?_)
      · have hf := wk_f hf q12
        exact ih w9 w3 v7 hf H locs hP hD hS ls (lv_sub hl [0] rfl)
      · have hf := wk_t hf q12
        refine lv_aload_n hx hb dX11_isScript_38 rfl (lv_at hl 0 rfl) ?_
        refine va_get (D := (dC, dI)) (ci := 11) (v := .int w9) (C := RX11) (T := TX11) (N := 22) hx hb hts in_X11_isScript_X11 hown hK hP 0 rfl rfl 19 (by decide) (hts _ lk_X11_isScript_RX11_204) (fun _ h9 => h9) rfl dX11_isScript_39 ?_
        refine lv_aload_n hx hb dX11_isScript_42 rfl (lv_at hl 0 rfl) ?_
        refine va_get (D := (dC, dI)) (ci := 11) (v := .int M_length) (C := RX11) (T := TX11) (N := 22) hx hb hts in_X11_isScript_X11 hown hK hP 0 rfl rfl 9 (by decide) (hts _ lk_X11_isScript_RX11_201) (fun _ h9 => h9) rfl dX11_isScript_43 ?_
        refine lv_icmp_ne (tgt := 53) hx hb dX11_isScript_46 (by decide) (fun q13 => ?_) (fun q13 => ?_)
        · have hf := wk_f hf q13
          refine lv_iconst (v := 0) hx hb dX11_isScript_53 (by decide) ?_
          obtain ⟨e0, e1, e2, e3⟩ := wke4 hf
          subst e0
          subst e1
          subst e2
          subst e3
          have hP9 := hP.sub (ws' := (wX11 Y a M_g M_kept M_saved M_before M_isSaved M_changes M_isWithin M_code M_input M_length M_fault M_failed M_signs M_signMany M_column M_loads M_many M_sums M_groups w9 w3 v7)) [0, 1, 2, 3, 4, 5, 6, 7, 8, 9, 10, 11] rfl
          have hD9 := hD.sub (ws' := (wX11 Y a M_g M_kept M_saved M_before M_isSaved M_changes M_isWithin M_code M_input M_length M_fault M_failed M_signs M_signMany M_column M_loads M_many M_sums M_groups w9 w3 v7)) [0, 1, 2, 3, 4, 5, 6, 7, 8, 9, 10, 11] (by decide) rfl
          exact W.zret (v := 0) (ty := .boolean) hx hb hr rfl (fun t ht hW => ⟨⟨0, (), rfl, rfl, by rw [ht]; exact hP9, va_K.moved hW.alike hK, hD9⟩, hS.F ht⟩) hS.2.2 dX11_isScript_54
        · have hf := wk_t hf q13
          refine lv_iconst (v := 1) hx hb dX11_isScript_49 (by decide) ?_
          refine lv_goto (tgt := 54) hx hb dX11_isScript_50 (by decide) ?_
          obtain ⟨e0, e1, e2, e3⟩ := wke4 hf
          subst e0
          subst e1
          subst e2
          subst e3
          have hP9 := hP.sub (ws' := (wX11 Y a M_g M_kept M_saved M_before M_isSaved M_changes M_isWithin M_code M_input M_length M_fault M_failed M_signs M_signMany M_column M_loads M_many M_sums M_groups w9 w3 v7)) [0, 1, 2, 3, 4, 5, 6, 7, 8, 9, 10, 11] rfl
          have hD9 := hD.sub (ws' := (wX11 Y a M_g M_kept M_saved M_before M_isSaved M_changes M_isWithin M_code M_input M_length M_fault M_failed M_signs M_signMany M_column M_loads M_many M_sums M_groups w9 w3 v7)) [0, 1, 2, 3, 4, 5, 6, 7, 8, 9, 10, 11] (by decide) rfl
          exact W.zret (v := 1) (ty := .boolean) hx hb hr rfl (fun t ht hW => ⟨⟨1, (), rfl, rfl, by rw [ht]; exact hP9, va_K.moved hW.alike hK, hD9⟩, hS.F ht⟩) hS.2.2 dX11_isScript_54
    · have hf := wk_t hf q6
      refine lv_iconst (v := 0) hx hb dX11_isScript_17 (by decide) ?_
      obtain ⟨e0, e1, e2, e3⟩ := wke4 hf
      subst e0
      subst e1
      subst e2
      subst e3
      have hP9 := hP.sub (ws' := (wX11 Y a M_g M_kept M_saved M_before M_isSaved M_changes M_isWithin M_code M_input M_length M_fault M_failed M_signs M_signMany M_column M_loads M_many M_sums M_groups w2 w3 M_toldMany)) [0, 1, 2, 3, 4, 5, 6, 7, 8, 9, 10, 11] rfl
      have hD9 := hD.sub (ws' := (wX11 Y a M_g M_kept M_saved M_before M_isSaved M_changes M_isWithin M_code M_input M_length M_fault M_failed M_signs M_signMany M_column M_loads M_many M_sums M_groups w2 w3 M_toldMany)) [0, 1, 2, 3, 4, 5, 6, 7, 8, 9, 10, 11] (by decide) rfl
      exact W.zret (v := 0) (ty := .boolean) hx hb hr rfl (fun t ht hW => ⟨⟨0, (), rfl, rfl, by rw [ht]; exact hP9, va_K.moved hW.alike hK, hD9⟩, hS.F ht⟩) hS.2.2 dX11_isScript_18
set_option maxHeartbeats 4000000 in
set_option maxRecDepth 100000 in
theorem c_X11_isScript (l : Launch) (dC : Nat → ClassId) (dI : Nat → Nat → Nat) (Y : Nat → ClassId) (g : Nat → Nat → Nat) (a : Nat → Nat) (M_g : Nat → Int32) (M_kept : Nat → Int32) (M_saved : Nat → Int32) (M_before : Nat → Int32) (M_isSaved : Int32) (M_changes : Int32) (M_isWithin : Int32) (M_code : Int32) (M_input : Nat → Int32) (M_length : Int32) (M_fault : Int32) (M_failed : Int32) (M_signs : Nat → Int32) (M_signMany : Int32) (M_column : Nat → Int32) (M_loads : Nat → Int32) (M_many : Int32) (M_sums : Nat → Int32) (M_groups : Nat → Int32) (M_at : Int32) (M_told : Nat → Int32) (M_toldMany : Int32)  (sz : Nat) (r : Int32) (zM_at : Int32) (zM_told : Nat → Int32) (zM_toldMany : Int32) (hf : f_X11_isScript M_input M_length M_at M_told M_toldMany = some (r, zM_at, zM_told, zM_toldMany)) : Met l yX11_isScript wsX11_isScript ({ frames := 7, cells := 0, slots := 0, locals := 150 } : Room) (va_Pc [.ref (a 0)] (wk_ET (dC, dI) Y g (wX11 Y a M_g M_kept M_saved M_before M_isSaved M_changes M_isWithin M_code M_input M_length M_fault M_failed M_signs M_signMany M_column M_loads M_many M_sums M_groups M_at M_told M_toldMany) sz)) (va_Qi (fun r2 (_ : Unit) => r2 = r) (fun _ t => wk_X (dC, dI) Y (wX11 Y a M_g M_kept M_saved M_before M_isSaved M_changes M_isWithin M_code M_input M_length M_fault M_failed M_signs M_signMany M_column M_loads M_many M_sums M_groups zM_at zM_told zM_toldMany) (va_A (wX11 Y a M_g M_kept M_saved M_before M_isSaved M_changes M_isWithin M_code M_input M_length M_fault M_failed M_signs M_signMany M_column M_loads M_many M_sums M_groups M_at M_told M_toldMany) sz) t) (va_A (wX11 Y a M_g M_kept M_saved M_before M_isSaved M_changes M_isWithin M_code M_input M_length M_fault M_failed M_signs M_signMany M_column M_loads M_many M_sums M_groups M_at M_told M_toldMany) sz)) 0 0 (va_A (wX11 Y a M_g M_kept M_saved M_before M_isSaved M_changes M_isWithin M_code M_input M_length M_fault M_failed M_signs M_signMany M_column M_loads M_many M_sums M_groups M_at M_told M_toldMany) sz) := by
  refine Met.ofW (cc := cX11_isScript) (maxL := 1) (ret := (some .boolean)) (by decide) rfl ?_
  intro p e s m args below meth c s₁ B hml hv
  obtain ⟨rfl, ⟨hsz, hP, hK, hD0⟩, hT⟩ := hv
  have hx := B.exec
  have hb := B.bytes
  have hr := B.returns
  have hts := atoms_spec (ws := wsX11_isScript) B.pre
  have hown : s.vm.findClass RX11 = some m.cls := findClass_of_methodNamed B.named
  have hlocks := B.notSynchronized
  have C0 : wk_C p s m _ meth c cX11_isScript 1 (some .boolean) wsX11_isScript RX11 := ⟨hx, hb, hml, hr, hlocks, hown, hts⟩
  subst hsz
  have hD := hD0.self (sz := s.heap.size)
  generalize hAe : va_A (wX11 Y a M_g M_kept M_saved M_before M_isSaved M_changes M_isWithin M_code M_input M_length M_fault M_failed M_signs M_signMany M_column M_loads M_many M_sums M_groups M_at M_told M_toldMany) s.heap.size = A at hD hT ⊢
  have hA : ∀ q : Nat, s.heap.size ≤ q → A q := fun q h => by rw [← hAe]; exact Or.inr h
  have hS : va_S A s.heap s.heap [] := va_S.rf
  obtain ⟨H, hHe⟩ : ∃ H, H = s.heap := ⟨_, rfl⟩
  have hS : va_S A s.heap H [] := by rw [hHe]; exact hS
  have hP : va_P (dC, dI) vwCl [(a 0, .inr (11, [.ref (a 1), .ref (a 2), .ref (a 3), .ref (a 4), .int M_isSaved, .int M_changes, .int M_isWithin, .int M_code, .ref (a 5), .int M_length, .int M_fault, .int M_failed, .ref (a 6), .int M_signMany, .ref (a 7), .ref (a 8), .int M_many, .ref (a 9), .ref (a 10), .int M_at, .ref (a 11), .int M_toldMany])), (a 1, .inl (Y 0, 238, .inl M_g)), (a 2, .inl (Y 0, 1904, .inl M_kept)), (a 3, .inl (Y 0, 238, .inl M_saved)), (a 4, .inl (Y 0, 238, .inl M_before)), (a 5, .inl (Y 0, 60, .inl M_input)), (a 6, .inl (Y 2, 100, .inl M_signs)), (a 7, .inl (Y 0, 6, .inl M_column)), (a 8, .inl (Y 0, 6, .inl M_loads)), (a 9, .inl (Y 0, 2048, .inl M_sums)), (a 10, .inl (Y 0, 2048, .inl M_groups)), (a 11, .inl (Y 0, 155, .inl M_told))] H := by rw [hHe]; exact hP
  have hD : va_D A [(a 0, .inr (11, [.ref (a 1), .ref (a 2), .ref (a 3), .ref (a 4), .int M_isSaved, .int M_changes, .int M_isWithin, .int M_code, .ref (a 5), .int M_length, .int M_fault, .int M_failed, .ref (a 6), .int M_signMany, .ref (a 7), .ref (a 8), .int M_many, .ref (a 9), .ref (a 10), .int M_at, .ref (a 11), .int M_toldMany])), (a 1, .inl (Y 0, 238, .inl M_g)), (a 2, .inl (Y 0, 1904, .inl M_kept)), (a 3, .inl (Y 0, 238, .inl M_saved)), (a 4, .inl (Y 0, 238, .inl M_before)), (a 5, .inl (Y 0, 60, .inl M_input)), (a 6, .inl (Y 2, 100, .inl M_signs)), (a 7, .inl (Y 0, 6, .inl M_column)), (a 8, .inl (Y 0, 6, .inl M_loads)), (a 9, .inl (Y 0, 2048, .inl M_sums)), (a 10, .inl (Y 0, 2048, .inl M_groups)), (a 11, .inl (Y 0, 155, .inl M_told))] := hD
  obtain ⟨locs, hlo⟩ : ∃ locs : List Loc, locs = [] := ⟨_, rfl⟩
  have hS : va_S A s.heap H locs := by rw [hlo]; exact hS
  have hl := lv_entry ([.ref (a 0)]) (n := 1) (Nat.le_of_ble_eq_true rfl)
  rw [lg_entry_eq]
  generalize (lg_sl ([.ref (a 0)]) ++ List.replicate (1 - (lg_sl ([.ref (a 0)])).length) Slot.unset).toArray = ls at hl ⊢
  have hl : lv_has ls 1 [(0, .ref (a 0))] := hl
  refine wk_start hHe hlo ?_
  rw [f_X11_isScript] at hf
  refine lv_aload_n hx hb dX11_isScript_0 rfl (lv_at hl 0 rfl) ?_
  refine lv_iconst (v := 0) hx hb dX11_isScript_1 (by decide) ?_
  refine va_put (D := (dC, dI)) (ci := 11) (v := .int 0) (ty := .int) (C := RX11) (T := TX11) (N := 22) hx hb hts in_X11_isScript_X11 tyX11 tyX11_ok nmX11 hown hK hP hD hS 0 rfl rfl 19 (by decide) (hts _ lk_X11_isScript_RX11_204) (fun _ h9 => h9) rfl (by decide +kernel) rfl rfl (Nat.le_of_ble_eq_true rfl) dX11_isScript_2 (fun H locs hP hD hS => ?_)
  have hP : va_P (dC, dI) vwCl [(a 0, .inr (11, [.ref (a 1), .ref (a 2), .ref (a 3), .ref (a 4), .int M_isSaved, .int M_changes, .int M_isWithin, .int M_code, .ref (a 5), .int M_length, .int M_fault, .int M_failed, .ref (a 6), .int M_signMany, .ref (a 7), .ref (a 8), .int M_many, .ref (a 9), .ref (a 10), .int 0, .ref (a 11), .int M_toldMany])), (a 1, .inl (Y 0, 238, .inl M_g)), (a 2, .inl (Y 0, 1904, .inl M_kept)), (a 3, .inl (Y 0, 238, .inl M_saved)), (a 4, .inl (Y 0, 238, .inl M_before)), (a 5, .inl (Y 0, 60, .inl M_input)), (a 6, .inl (Y 2, 100, .inl M_signs)), (a 7, .inl (Y 0, 6, .inl M_column)), (a 8, .inl (Y 0, 6, .inl M_loads)), (a 9, .inl (Y 0, 2048, .inl M_sums)), (a 10, .inl (Y 0, 2048, .inl M_groups)), (a 11, .inl (Y 0, 155, .inl M_told))] H := hP
  have hD : va_D A [(a 0, .inr (11, [.ref (a 1), .ref (a 2), .ref (a 3), .ref (a 4), .int M_isSaved, .int M_changes, .int M_isWithin, .int M_code, .ref (a 5), .int M_length, .int M_fault, .int M_failed, .ref (a 6), .int M_signMany, .ref (a 7), .ref (a 8), .int M_many, .ref (a 9), .ref (a 10), .int 0, .ref (a 11), .int M_toldMany])), (a 1, .inl (Y 0, 238, .inl M_g)), (a 2, .inl (Y 0, 1904, .inl M_kept)), (a 3, .inl (Y 0, 238, .inl M_saved)), (a 4, .inl (Y 0, 238, .inl M_before)), (a 5, .inl (Y 0, 60, .inl M_input)), (a 6, .inl (Y 2, 100, .inl M_signs)), (a 7, .inl (Y 0, 6, .inl M_column)), (a 8, .inl (Y 0, 6, .inl M_loads)), (a 9, .inl (Y 0, 2048, .inl M_sums)), (a 10, .inl (Y 0, 2048, .inl M_groups)), (a 11, .inl (Y 0, 155, .inl M_told))] := hD
  refine lv_aload_n hx hb dX11_isScript_5 rfl (lv_at hl 0 rfl) ?_
  refine lv_iconst (v := 0) hx hb dX11_isScript_6 (by decide) ?_
  refine va_put (D := (dC, dI)) (ci := 11) (v := .int 0) (ty := .int) (C := RX11) (T := TX11) (N := 22) hx hb hts in_X11_isScript_X11 tyX11 tyX11_ok nmX11 hown hK hP hD hS 0 rfl rfl 21 (by decide) (hts _ lk_X11_isScript_RX11_210) (fun _ h9 => h9) rfl (by decide +kernel) rfl rfl (Nat.le_of_ble_eq_true rfl) dX11_isScript_7 (fun H locs hP hD hS => ?_)
  have hP : va_P (dC, dI) vwCl [(a 0, .inr (11, [.ref (a 1), .ref (a 2), .ref (a 3), .ref (a 4), .int M_isSaved, .int M_changes, .int M_isWithin, .int M_code, .ref (a 5), .int M_length, .int M_fault, .int M_failed, .ref (a 6), .int M_signMany, .ref (a 7), .ref (a 8), .int M_many, .ref (a 9), .ref (a 10), .int 0, .ref (a 11), .int 0])), (a 1, .inl (Y 0, 238, .inl M_g)), (a 2, .inl (Y 0, 1904, .inl M_kept)), (a 3, .inl (Y 0, 238, .inl M_saved)), (a 4, .inl (Y 0, 238, .inl M_before)), (a 5, .inl (Y 0, 60, .inl M_input)), (a 6, .inl (Y 2, 100, .inl M_signs)), (a 7, .inl (Y 0, 6, .inl M_column)), (a 8, .inl (Y 0, 6, .inl M_loads)), (a 9, .inl (Y 0, 2048, .inl M_sums)), (a 10, .inl (Y 0, 2048, .inl M_groups)), (a 11, .inl (Y 0, 155, .inl M_told))] H := hP
  have hD : va_D A [(a 0, .inr (11, [.ref (a 1), .ref (a 2), .ref (a 3), .ref (a 4), .int M_isSaved, .int M_changes, .int M_isWithin, .int M_code, .ref (a 5), .int M_length, .int M_fault, .int M_failed, .ref (a 6), .int M_signMany, .ref (a 7), .ref (a 8), .int M_many, .ref (a 9), .ref (a 10), .int 0, .ref (a 11), .int 0])), (a 1, .inl (Y 0, 238, .inl M_g)), (a 2, .inl (Y 0, 1904, .inl M_kept)), (a 3, .inl (Y 0, 238, .inl M_saved)), (a 4, .inl (Y 0, 238, .inl M_before)), (a 5, .inl (Y 0, 60, .inl M_input)), (a 6, .inl (Y 2, 100, .inl M_signs)), (a 7, .inl (Y 0, 6, .inl M_column)), (a 8, .inl (Y 0, 6, .inl M_loads)), (a 9, .inl (Y 0, 2048, .inl M_sums)), (a 10, .inl (Y 0, 2048, .inl M_groups)), (a 11, .inl (Y 0, 155, .inl M_told))] := hD
  exact wl_X11_isScript_L10 C0 hK hA hT FU 0 M_told 0 hf H locs hP hD hS ls (lv_sub hl [0] rfl)
theorem lk_X11_runScript_RX11_7 : Cond.fieldLink RX11 7 "CircusLedgerModel" "g" "[I" ∈ wsX11_runScript := by decide +kernel
theorem lk_X11_runScript_RX11_19 : Cond.fieldLink RX11 19 "CircusLedgerModel" "before" "[I" ∈ wsX11_runScript := by decide +kernel
theorem lk_X11_runScript_RX11_25 : Cond.fieldLink RX11 25 "CircusLedgerModel" "fault" "I" ∈ wsX11_runScript := by decide +kernel
theorem lk_X11_runScript_RX11_29 : Cond.fieldLink RX11 29 "CircusLedgerModel" "failed" "I" ∈ wsX11_runScript := by decide +kernel
theorem lk_X11_runScript_RX11_51 : Cond.fieldLink RX11 51 "CircusLedgerModel" "code" "I" ∈ wsX11_runScript := by decide +kernel
theorem lk_X11_runScript_RX11_54 : Cond.fieldLink RX11 54 "CircusLedgerModel" "isWithin" "Z" ∈ wsX11_runScript := by decide +kernel
theorem lk_X11_runScript_RX11_201 : Cond.fieldLink RX11 201 "CircusLedgerModel" "length" "I" ∈ wsX11_runScript := by decide +kernel
theorem lk_X11_runScript_RX11_204 : Cond.fieldLink RX11 204 "CircusLedgerModel" "at" "I" ∈ wsX11_runScript := by decide +kernel
theorem lk_X11_runScript_RX11_210 : Cond.fieldLink RX11 210 "CircusLedgerModel" "toldMany" "I" ∈ wsX11_runScript := by decide +kernel
theorem in_X11_runScript_X11 : ∀ w ∈ u_ws RX11 TX11 22, w ∈ wsX11_runScript := by decide +kernel
def f_X11_runScript_L98 (M_input : Nat → Int32) (x2 : Int32) (x3 : Int32) (M_g : (Nat → Int32)) (M_kept : (Nat → Int32)) (M_before : (Nat → Int32)) (M_changes : Int32) (M_isWithin : Int32) (M_code : Int32) (M_length : Int32) (M_fault : Int32) (M_failed : Int32) (M_column : (Nat → Int32)) (M_loads : (Nat → Int32)) (M_many : Int32) (M_at : Int32) (M_told : (Nat → Int32)) (M_toldMany : Int32) : Option (Int32 × (Nat → Int32) × (Nat → Int32) × (Nat → Int32) × Int32 × Int32 × Int32 × Int32 × Int32 × Int32 × (Nat → Int32) × (Nat → Int32) × Int32 × Int32 × (Nat → Int32) × Int32) :=
    if M_code ≤ 0 then
      (wkb3 (f_X11_keeps_before M_kept M_before M_changes 0 M_code) (fun w2 w3 w4 =>
      some (M_toldMany, M_g, w2, M_before, w3, 0, w4, M_length, M_fault, M_failed, M_column, M_loads, M_many, M_at, M_told, M_toldMany)))
    else
      (wkb1 (f_X11_copies_238_238 M_before M_g 0 0) (fun w7 =>
      if x3 ≤ 0 then
        (some (x3, w7, M_kept, M_before, M_changes, 0, 2, M_length, M_fault, x2, M_column, M_loads, M_many, M_at, M_told, M_toldMany))
      else
        (some (0, w7, M_kept, M_before, M_changes, 0, 2, M_length, M_fault, x2, M_column, M_loads, M_many, M_at, M_told, M_toldMany))))
def f_X11_runScript_L62 (M_input : Nat → Int32) : Nat → Int32 → Int32 → (Nat → Int32) → (Nat → Int32) → (Nat → Int32) → Int32 → Int32 → Int32 → Int32 → Int32 → Int32 → (Nat → Int32) → (Nat → Int32) → Int32 → Int32 → (Nat → Int32) → Int32 → Option (Int32 × (Nat → Int32) × (Nat → Int32) × (Nat → Int32) × Int32 × Int32 × Int32 × Int32 × Int32 × Int32 × (Nat → Int32) × (Nat → Int32) × Int32 × Int32 × (Nat → Int32) × Int32)
  | 0, _, _, _, _, _, _, _, _, _, _, _, _, _, _, _, _, _ => none
  | nn + 1, x2, x3, M_g, M_kept, M_before, M_changes, M_isWithin, M_code, M_length, M_fault, M_failed, M_column, M_loads, M_many, M_at, M_told, M_toldMany =>
    if M_toldMany ≤ x2 then
      (f_X11_runScript_L98 M_input x2 x3 M_g M_kept M_before M_changes M_isWithin M_code M_length M_fault M_failed M_column M_loads M_many M_at M_told M_toldMany)
    else
      (if M_code = 0 then
        (wkb8 (f_X11_carries M_g M_kept M_changes M_isWithin M_code M_column M_loads M_many M_told (5 * x2)) (fun r3 w4 w5 w6 w7 w8 w9 w10 =>
        if w7 = 0 then
          (f_X11_runScript_L62 M_input nn (x2 + 1) r3 w4 w5 M_before w6 M_isWithin w7 M_length M_fault M_failed w8 w9 w10 M_at M_told M_toldMany)
        else
          (f_X11_runScript_L62 M_input nn x2 r3 w4 w5 M_before w6 M_isWithin w7 M_length M_fault M_failed w8 w9 w10 M_at M_told M_toldMany)))
      else
        (f_X11_runScript_L98 M_input x2 x3 M_g M_kept M_before M_changes M_isWithin M_code M_length M_fault M_failed M_column M_loads M_many M_at M_told M_toldMany))
def f_X11_runScript_L32 (M_input : Nat → Int32) (y0 : Int32) (M_g : (Nat → Int32)) (M_kept : (Nat → Int32)) (M_before : (Nat → Int32)) (M_changes : Int32) (M_isWithin : Int32) (M_code : Int32) (M_length : Int32) (M_fault : Int32) (M_failed : Int32) (M_column : (Nat → Int32)) (M_loads : (Nat → Int32)) (M_many : Int32) (M_at : Int32) (M_told : (Nat → Int32)) (M_toldMany : Int32) : Option (Int32 × (Nat → Int32) × (Nat → Int32) × (Nat → Int32) × Int32 × Int32 × Int32 × Int32 × Int32 × Int32 × (Nat → Int32) × (Nat → Int32) × Int32 × Int32 × (Nat → Int32) × Int32) :=
    wkb2 (f_X11_fails M_code y0) (fun r1 w2 =>
    if r1 = 0 then
      (wkb1 (f_X11_copies_238_238 M_g M_before 0 0) (fun w6 =>
      f_X11_runScript_L62 M_input FU 0 0 M_g M_kept w6 M_changes 1 w2 M_length M_fault M_failed M_column M_loads M_many M_at M_told M_toldMany))
    else
      (some (0, M_g, M_kept, M_before, M_changes, M_isWithin, w2, M_length, M_fault, M_failed, M_column, M_loads, M_many, M_at, M_told, M_toldMany)))
def f_X11_runScript_L17 (M_input : Nat → Int32) (x1 : Int32) (M_g : (Nat → Int32)) (M_kept : (Nat → Int32)) (M_before : (Nat → Int32)) (M_changes : Int32) (M_isWithin : Int32) (M_code : Int32) (M_length : Int32) (M_fault : Int32) (M_failed : Int32) (M_column : (Nat → Int32)) (M_loads : (Nat → Int32)) (M_many : Int32) (M_at : Int32) (M_told : (Nat → Int32)) (M_toldMany : Int32) : Option (Int32 × (Nat → Int32) × (Nat → Int32) × (Nat → Int32) × Int32 × Int32 × Int32 × Int32 × Int32 × Int32 × (Nat → Int32) × (Nat → Int32) × Int32 × Int32 × (Nat → Int32) × Int32) :=
    if x1 = 0 then
      (f_X11_runScript_L32 M_input 1 M_g M_kept M_before M_changes M_isWithin M_code 0 M_fault M_failed M_column M_loads M_many M_at M_told M_toldMany)
    else
      (f_X11_runScript_L32 M_input 0 M_g M_kept M_before M_changes M_isWithin M_code 0 M_fault M_failed M_column M_loads M_many M_at M_told M_toldMany)
def f_X11_runScript (M_g : Nat → Int32) (M_kept : Nat → Int32) (M_before : Nat → Int32) (M_changes : Int32) (M_isWithin : Int32) (M_code : Int32) (M_input : Nat → Int32) (M_length : Int32) (M_fault : Int32) (M_failed : Int32) (M_column : Nat → Int32) (M_loads : Nat → Int32) (M_many : Int32) (M_at : Int32) (M_told : Nat → Int32) (M_toldMany : Int32) : Option (Int32 × (Nat → Int32) × (Nat → Int32) × (Nat → Int32) × Int32 × Int32 × Int32 × Int32 × Int32 × Int32 × (Nat → Int32) × (Nat → Int32) × Int32 × Int32 × (Nat → Int32) × Int32) :=
  wkb4 (f_X11_isScript M_input M_length M_at M_told M_toldMany) (fun r1 w2 w3 w4 =>
  if r1 = 0 then
    (f_X11_runScript_L17 M_input r1 M_g M_kept M_before M_changes M_isWithin M_code M_length w2 M_failed M_column M_loads M_many w2 w3 w4)
  else
    (f_X11_runScript_L17 M_input r1 M_g M_kept M_before M_changes M_isWithin M_code M_length M_fault M_failed M_column M_loads M_many w2 w3 w4))
set_option maxHeartbeats 4000000 in
set_option maxRecDepth 100000 in
theorem wl_X11_runScript_L98 {p : Program} {l : Launch} {e : Env} {s : State} {m : MethodId} {args : Array Value} {below : List Frame} {meth : Method} {c : Code} {dC : Nat → ClassId} {dI : Nat → Nat → Nat} {Y : Nat → ClassId} {a : Nat → Nat} {g : Nat → Nat → Nat} {M_saved : Nat → Int32} {M_isSaved : Int32} {M_input : Nat → Int32} {M_signs : Nat → Int32} {M_signMany : Int32} {M_sums : Nat → Int32} {M_groups : Nat → Int32}  {r : Int32} {zM_g : Nat → Int32} {zM_kept : Nat → Int32} {zM_before : Nat → Int32} {zM_changes : Int32} {zM_isWithin : Int32} {zM_code : Int32} {zM_length : Int32} {zM_fault : Int32} {zM_failed : Int32} {zM_column : Nat → Int32} {zM_loads : Nat → Int32} {zM_many : Int32} {zM_at : Int32} {zM_told : Nat → Int32} {zM_toldMany : Int32}  (C0 : wk_C p s m args meth c cX11_runScript 4 (some .int) wsX11_runScript RX11) {A : Nat → Prop} (hK : va_K (dC, dI) vwCl (vTy Y) s) (hA : ∀ q, s.heap.size ≤ q → A q) (hT : wk_T g A s s.heap) : ∀ (x2 : Int32) (x3 : Int32)  (M_g : Nat → Int32) (M_kept : Nat → Int32) (M_before : Nat → Int32) (M_changes : Int32) (M_isWithin : Int32) (M_code : Int32) (M_length : Int32) (M_fault : Int32) (M_failed : Int32) (M_column : Nat → Int32) (M_loads : Nat → Int32) (M_many : Int32) (M_at : Int32) (M_told : Nat → Int32) (M_toldMany : Int32), f_X11_runScript_L98 M_input x2 x3 M_g M_kept M_before M_changes M_isWithin M_code M_length M_fault M_failed M_column M_loads M_many M_at M_told M_toldMany = some (r, zM_g, zM_kept, zM_before, zM_changes, zM_isWithin, zM_code, zM_length, zM_fault, zM_failed, zM_column, zM_loads, zM_many, zM_at, zM_told, zM_toldMany) → ∀ (H : Heap) (locs : List Loc), va_P (dC, dI) vwCl (wX11 Y a M_g M_kept M_saved M_before M_isSaved M_changes M_isWithin M_code M_input M_length M_fault M_failed M_signs M_signMany M_column M_loads M_many M_sums M_groups M_at M_told M_toldMany) H → va_D A (wX11 Y a M_g M_kept M_saved M_before M_isSaved M_changes M_isWithin M_code M_input M_length M_fault M_failed M_signs M_signMany M_column M_loads M_many M_sums M_groups M_at M_told M_toldMany) → va_S A s.heap H locs → ∀ (ls : Array Slot), lv_has ls 4 [(0, .ref (a 0)), (2, .int x2), (3, .int x3)] → W p l e (headSpec wsX11_runScript ({ frames := 8, cells := 0, slots := 0, locals := 170 } : Room)).room s m args below meth c H locs 0 0 (MQ below (va_Qi (fun r2 (_ : Unit) => r2 = r) (fun _ t => wk_X (dC, dI) Y (wX11 Y a zM_g zM_kept M_saved zM_before M_isSaved zM_changes zM_isWithin zM_code M_input zM_length zM_fault zM_failed M_signs M_signMany zM_column zM_loads zM_many M_sums M_groups zM_at zM_told zM_toldMany) A t) A) args s 0 0 A) (F0 m 98 ls []) := by
  obtain ⟨hx, hb, hml, hr, hlocks, hown, hts⟩ := id C0
  intro x2 x3 M_g M_kept M_before M_changes M_isWithin M_code M_length M_fault M_failed M_column M_loads M_many M_at M_told M_toldMany hf H locs hP hD hS ls hl
  rw [f_X11_runScript_L98] at hf
  have hP : va_P (dC, dI) vwCl [(a 0, .inr (11, [.ref (a 1), .ref (a 2), .ref (a 3), .ref (a 4), .int M_isSaved, .int M_changes, .int M_isWithin, .int M_code, .ref (a 5), .int M_length, .int M_fault, .int M_failed, .ref (a 6), .int M_signMany, .ref (a 7), .ref (a 8), .int M_many, .ref (a 9), .ref (a 10), .int M_at, .ref (a 11), .int M_toldMany])), (a 1, .inl (Y 0, 238, .inl M_g)), (a 2, .inl (Y 0, 1904, .inl M_kept)), (a 3, .inl (Y 0, 238, .inl M_saved)), (a 4, .inl (Y 0, 238, .inl M_before)), (a 5, .inl (Y 0, 60, .inl M_input)), (a 6, .inl (Y 2, 100, .inl M_signs)), (a 7, .inl (Y 0, 6, .inl M_column)), (a 8, .inl (Y 0, 6, .inl M_loads)), (a 9, .inl (Y 0, 2048, .inl M_sums)), (a 10, .inl (Y 0, 2048, .inl M_groups)), (a 11, .inl (Y 0, 155, .inl M_told))] H := hP
  have hD : va_D A [(a 0, .inr (11, [.ref (a 1), .ref (a 2), .ref (a 3), .ref (a 4), .int M_isSaved, .int M_changes, .int M_isWithin, .int M_code, .ref (a 5), .int M_length, .int M_fault, .int M_failed, .ref (a 6), .int M_signMany, .ref (a 7), .ref (a 8), .int M_many, .ref (a 9), .ref (a 10), .int M_at, .ref (a 11), .int M_toldMany])), (a 1, .inl (Y 0, 238, .inl M_g)), (a 2, .inl (Y 0, 1904, .inl M_kept)), (a 3, .inl (Y 0, 238, .inl M_saved)), (a 4, .inl (Y 0, 238, .inl M_before)), (a 5, .inl (Y 0, 60, .inl M_input)), (a 6, .inl (Y 2, 100, .inl M_signs)), (a 7, .inl (Y 0, 6, .inl M_column)), (a 8, .inl (Y 0, 6, .inl M_loads)), (a 9, .inl (Y 0, 2048, .inl M_sums)), (a 10, .inl (Y 0, 2048, .inl M_groups)), (a 11, .inl (Y 0, 155, .inl M_told))] := hD
  refine lv_aload_n hx hb dX11_runScript_98 rfl (lv_at hl 0 rfl) ?_
  refine lv_iconst (v := 0) hx hb dX11_runScript_99 (by decide) ?_
  refine va_put (D := (dC, dI)) (ci := 11) (v := .int 0) (ty := .boolean) (C := RX11) (T := TX11) (N := 22) hx hb hts in_X11_runScript_X11 tyX11 tyX11_ok nmX11 hown hK hP hD hS 0 rfl rfl 6 (by decide) (hts _ lk_X11_runScript_RX11_54) (fun _ h9 => h9) rfl (by decide +kernel) rfl rfl (Nat.le_of_ble_eq_true rfl) dX11_runScript_100 (fun H locs hP hD hS => ?_)
  have hP : va_P (dC, dI) vwCl [(a 0, .inr (11, [.ref (a 1), .ref (a 2), .ref (a 3), .ref (a 4), .int M_isSaved, .int M_changes, .int 0, .int M_code, .ref (a 5), .int M_length, .int M_fault, .int M_failed, .ref (a 6), .int M_signMany, .ref (a 7), .ref (a 8), .int M_many, .ref (a 9), .ref (a 10), .int M_at, .ref (a 11), .int M_toldMany])), (a 1, .inl (Y 0, 238, .inl M_g)), (a 2, .inl (Y 0, 1904, .inl M_kept)), (a 3, .inl (Y 0, 238, .inl M_saved)), (a 4, .inl (Y 0, 238, .inl M_before)), (a 5, .inl (Y 0, 60, .inl M_input)), (a 6, .inl (Y 2, 100, .inl M_signs)), (a 7, .inl (Y 0, 6, .inl M_column)), (a 8, .inl (Y 0, 6, .inl M_loads)), (a 9, .inl (Y 0, 2048, .inl M_sums)), (a 10, .inl (Y 0, 2048, .inl M_groups)), (a 11, .inl (Y 0, 155, .inl M_told))] H := hP
  have hD : va_D A [(a 0, .inr (11, [.ref (a 1), .ref (a 2), .ref (a 3), .ref (a 4), .int M_isSaved, .int M_changes, .int 0, .int M_code, .ref (a 5), .int M_length, .int M_fault, .int M_failed, .ref (a 6), .int M_signMany, .ref (a 7), .ref (a 8), .int M_many, .ref (a 9), .ref (a 10), .int M_at, .ref (a 11), .int M_toldMany])), (a 1, .inl (Y 0, 238, .inl M_g)), (a 2, .inl (Y 0, 1904, .inl M_kept)), (a 3, .inl (Y 0, 238, .inl M_saved)), (a 4, .inl (Y 0, 238, .inl M_before)), (a 5, .inl (Y 0, 60, .inl M_input)), (a 6, .inl (Y 2, 100, .inl M_signs)), (a 7, .inl (Y 0, 6, .inl M_column)), (a 8, .inl (Y 0, 6, .inl M_loads)), (a 9, .inl (Y 0, 2048, .inl M_sums)), (a 10, .inl (Y 0, 2048, .inl M_groups)), (a 11, .inl (Y 0, 155, .inl M_told))] := hD
  refine lv_aload_n hx hb dX11_runScript_103 rfl (lv_at hl 0 rfl) ?_
  refine va_get (D := (dC, dI)) (ci := 11) (v := .int M_code) (C := RX11) (T := TX11) (N := 22) hx hb hts in_X11_runScript_X11 hown hK hP 0 rfl rfl 7 (by decide) (hts _ lk_X11_runScript_RX11_51) (fun _ h9 => h9) rfl dX11_runScript_104 ?_
  refine lv_if_le (tgt := 143) hx hb dX11_runScript_107 (by decide) (fun q1 => ?_) (fun q1 => ?_)
  · have hf := wk_t hf q1
    refine lv_aload_n hx hb dX11_runScript_143 rfl (lv_at hl 0 rfl) ?_
    refine lv_aload_n hx hb dX11_runScript_144 rfl (lv_at hl 0 rfl) ?_
    refine va_get (D := (dC, dI)) (ci := 11) (v := .ref (a 4)) (C := RX11) (T := TX11) (N := 22) hx hb hts in_X11_runScript_X11 hown hK hP 0 rfl rfl 3 (by decide) (hts _ lk_X11_runScript_RX11_19) (fun _ h9 => h9) rfl dX11_runScript_145 ?_
    obtain ⟨w2, w3, w4, hr5, hf⟩ := wkb3_s hf
    refine wk_evv (As := [.ref (a 4)]) (rest := []) (wc := (wX11 Y a M_g M_kept M_saved M_before M_isSaved M_changes 0 M_code M_input M_length M_fault M_failed M_signs M_signMany M_column M_loads M_many M_sums M_groups M_at M_told M_toldMany)) (w1 := (wX11 Y a M_g w2 M_saved M_before M_isSaved w3 0 w4 M_input M_length M_fault M_failed M_signs M_signMany M_column M_loads M_many M_sums M_groups M_at M_told M_toldMany)) (wr := []) ⟨hx, hb, hml, hown, hts⟩ (c_X11_keeps_before l dC dI Y a M_g M_kept M_saved M_before M_isSaved M_changes 0 M_code M_input M_length M_fault M_failed M_signs M_signMany M_column M_loads M_many M_sums M_groups M_at M_told M_toldMany H.size w2 w3 w4 hr5) (cwV 1 hts gX11_runScript_X11_keeps rfl rfl rfl (by decide +kernel) ⟨Nat.le_of_ble_eq_true rfl, Nat.le_of_ble_eq_true rfl⟩) hK hP hD hS hA [0, 1, 2, 3, 4, 5, 6, 7, 8, 9, 10, 11] [] rfl rfl (by decide) (by decide) (by decide) (va_recv hK hP (ci := 11) (q0 := 0) rfl rfl) rfl hl.1 rfl (Nat.le_of_ble_eq_true rfl) dX11_runScript_148 ⟨Nat.le_of_ble_eq_true rfl, Nat.le_of_ble_eq_true rfl⟩ (fun H locs hP hD hS => ?_)
    have hP : va_P (dC, dI) vwCl [(a 0, .inr (11, [.ref (a 1), .ref (a 2), .ref (a 3), .ref (a 4), .int M_isSaved, .int w3, .int 0, .int w4, .ref (a 5), .int M_length, .int M_fault, .int M_failed, .ref (a 6), .int M_signMany, .ref (a 7), .ref (a 8), .int M_many, .ref (a 9), .ref (a 10), .int M_at, .ref (a 11), .int M_toldMany])), (a 1, .inl (Y 0, 238, .inl M_g)), (a 2, .inl (Y 0, 1904, .inl w2)), (a 3, .inl (Y 0, 238, .inl M_saved)), (a 4, .inl (Y 0, 238, .inl M_before)), (a 5, .inl (Y 0, 60, .inl M_input)), (a 6, .inl (Y 2, 100, .inl M_signs)), (a 7, .inl (Y 0, 6, .inl M_column)), (a 8, .inl (Y 0, 6, .inl M_loads)), (a 9, .inl (Y 0, 2048, .inl M_sums)), (a 10, .inl (Y 0, 2048, .inl M_groups)), (a 11, .inl (Y 0, 155, .inl M_told))] H := hP
    have hD : va_D A [(a 0, .inr (11, [.ref (a 1), .ref (a 2), .ref (a 3), .ref (a 4), .int M_isSaved, .int w3, .int 0, .int w4, .ref (a 5), .int M_length, .int M_fault, .int M_failed, .ref (a 6), .int M_signMany, .ref (a 7), .ref (a 8), .int M_many, .ref (a 9), .ref (a 10), .int M_at, .ref (a 11), .int M_toldMany])), (a 1, .inl (Y 0, 238, .inl M_g)), (a 2, .inl (Y 0, 1904, .inl w2)), (a 3, .inl (Y 0, 238, .inl M_saved)), (a 4, .inl (Y 0, 238, .inl M_before)), (a 5, .inl (Y 0, 60, .inl M_input)), (a 6, .inl (Y 2, 100, .inl M_signs)), (a 7, .inl (Y 0, 6, .inl M_column)), (a 8, .inl (Y 0, 6, .inl M_loads)), (a 9, .inl (Y 0, 2048, .inl M_sums)), (a 10, .inl (Y 0, 2048, .inl M_groups)), (a 11, .inl (Y 0, 155, .inl M_told))] := hD
    refine lv_aload_n hx hb dX11_runScript_151 rfl (lv_at hl 0 rfl) ?_
    refine va_get (D := (dC, dI)) (ci := 11) (v := .int M_toldMany) (C := RX11) (T := TX11) (N := 22) hx hb hts in_X11_runScript_X11 hown hK hP 0 rfl rfl 21 (by decide) (hts _ lk_X11_runScript_RX11_210) (fun _ h9 => h9) rfl dX11_runScript_152 ?_
    obtain ⟨e0, e1, e2, e3, e4, e5, e6, e7, e8, e9, e10, e11, e12, e13, e14, e15⟩ := wke16 hf
    subst e0
    subst e1
    subst e2
    subst e3
    subst e4
    subst e5
    subst e6
    subst e7
    subst e8
    subst e9
    subst e10
    subst e11
    subst e12
    subst e13
    subst e14
    subst e15
    have hP9 := hP.sub (ws' := (wX11 Y a M_g w2 M_saved M_before M_isSaved w3 0 w4 M_input M_length M_fault M_failed M_signs M_signMany M_column M_loads M_many M_sums M_groups M_at M_told M_toldMany)) [0, 1, 2, 3, 4, 5, 6, 7, 8, 9, 10, 11] rfl
    have hD9 := hD.sub (ws' := (wX11 Y a M_g w2 M_saved M_before M_isSaved w3 0 w4 M_input M_length M_fault M_failed M_signs M_signMany M_column M_loads M_many M_sums M_groups M_at M_told M_toldMany)) [0, 1, 2, 3, 4, 5, 6, 7, 8, 9, 10, 11] (by decide) rfl
    exact W.iret (v := M_toldMany) hx hb hr (fun t ht hW => ⟨⟨M_toldMany, (), rfl, rfl, by rw [ht]; exact hP9, va_K.moved hW.alike hK, hD9⟩, hS.F ht⟩) hS.2.2 dX11_runScript_155
  · have hf := wk_f hf q1
    refine lv_aload_n hx hb dX11_runScript_110 rfl (lv_at hl 0 rfl) ?_
    refine va_get (D := (dC, dI)) (ci := 11) (v := .ref (a 4)) (C := RX11) (T := TX11) (N := 22) hx hb hts in_X11_runScript_X11 hown hK hP 0 rfl rfl 3 (by decide) (hts _ lk_X11_runScript_RX11_19) (fun _ h9 => h9) rfl dX11_runScript_111 ?_
    refine lv_iconst (v := 0) hx hb dX11_runScript_114 (by decide) ?_
    refine lv_aload_n hx hb dX11_runScript_115 rfl (lv_at hl 0 rfl) ?_
    refine va_get (D := (dC, dI)) (ci := 11) (v := .ref (a 1)) (C := RX11) (T := TX11) (N := 22) hx hb hts in_X11_runScript_X11 hown hK hP 0 rfl rfl 0 (by decide) (hts _ lk_X11_runScript_RX11_7) (fun _ h9 => h9) rfl dX11_runScript_116 ?_
    refine lv_iconst (v := 0) hx hb dX11_runScript_119 (by decide) ?_
    obtain ⟨w7, hr8, hf⟩ := wkb1_s hf
    refine wk_esv (As := [.ref (a 4), .int 0, .ref (a 1), .int 0]) (rest := []) (wc := ([(a 4, .inl (Y 0, 238, .inl M_before))] ++ [(a 1, .inl (Y 0, 238, .inl M_g))])) (w1 := ([(a 4, .inl (Y 0, 238, .inl M_before))] ++ [(a 1, .inl (Y 0, 238, .inl w7))])) (wr := [(a 0, .inr (11, [.ref (a 1), .ref (a 2), .ref (a 3), .ref (a 4), .int M_isSaved, .int M_changes, .int 0, .int M_code, .ref (a 5), .int M_length, .int M_fault, .int M_failed, .ref (a 6), .int M_signMany, .ref (a 7), .ref (a 8), .int M_many, .ref (a 9), .ref (a 10), .int M_at, .ref (a 11), .int M_toldMany])), (a 2, .inl (Y 0, 1904, .inl M_kept)), (a 3, .inl (Y 0, 238, .inl M_saved)), (a 5, .inl (Y 0, 60, .inl M_input)), (a 6, .inl (Y 2, 100, .inl M_signs)), (a 7, .inl (Y 0, 6, .inl M_column)), (a 8, .inl (Y 0, 6, .inl M_loads)), (a 9, .inl (Y 0, 2048, .inl M_sums)), (a 10, .inl (Y 0, 2048, .inl M_groups)), (a 11, .inl (Y 0, 155, .inl M_told))]) ⟨hx, hb, hml, hown, hts⟩ (c_X11_copies_238_238 l dC dI Y (fun _ => a 4) (fun _ => a 1) M_before M_g 0 0 H.size w7 hr8) (va_cwS 4 hts gX11_runScript_X11_copies rfl rfl rfl (by decide +kernel) ⟨Nat.le_of_ble_eq_true rfl, Nat.le_of_ble_eq_true rfl⟩) hK hP hD hS hA [4, 1] [0, 2, 3, 5, 6, 7, 8, 9, 10, 11] rfl rfl (by decide) (by decide) (by decide) rfl hl.1 rfl (Nat.le_of_ble_eq_true rfl) dX11_runScript_120 ⟨Nat.le_of_ble_eq_true rfl, Nat.le_of_ble_eq_true rfl⟩ (fun H locs hP hD hS => ?_)
    have hP : va_P (dC, dI) vwCl [(a 0, .inr (11, [.ref (a 1), .ref (a 2), .ref (a 3), .ref (a 4), .int M_isSaved, .int M_changes, .int 0, .int M_code, .ref (a 5), .int M_length, .int M_fault, .int M_failed, .ref (a 6), .int M_signMany, .ref (a 7), .ref (a 8), .int M_many, .ref (a 9), .ref (a 10), .int M_at, .ref (a 11), .int M_toldMany])), (a 2, .inl (Y 0, 1904, .inl M_kept)), (a 3, .inl (Y 0, 238, .inl M_saved)), (a 5, .inl (Y 0, 60, .inl M_input)), (a 6, .inl (Y 2, 100, .inl M_signs)), (a 7, .inl (Y 0, 6, .inl M_column)), (a 8, .inl (Y 0, 6, .inl M_loads)), (a 9, .inl (Y 0, 2048, .inl M_sums)), (a 10, .inl (Y 0, 2048, .inl M_groups)), (a 11, .inl (Y 0, 155, .inl M_told)), (a 4, .inl (Y 0, 238, .inl M_before)), (a 1, .inl (Y 0, 238, .inl w7))] H := hP
    have hD : va_D A [(a 0, .inr (11, [.ref (a 1), .ref (a 2), .ref (a 3), .ref (a 4), .int M_isSaved, .int M_changes, .int 0, .int M_code, .ref (a 5), .int M_length, .int M_fault, .int M_failed, .ref (a 6), .int M_signMany, .ref (a 7), .ref (a 8), .int M_many, .ref (a 9), .ref (a 10), .int M_at, .ref (a 11), .int M_toldMany])), (a 2, .inl (Y 0, 1904, .inl M_kept)), (a 3, .inl (Y 0, 238, .inl M_saved)), (a 5, .inl (Y 0, 60, .inl M_input)), (a 6, .inl (Y 2, 100, .inl M_signs)), (a 7, .inl (Y 0, 6, .inl M_column)), (a 8, .inl (Y 0, 6, .inl M_loads)), (a 9, .inl (Y 0, 2048, .inl M_sums)), (a 10, .inl (Y 0, 2048, .inl M_groups)), (a 11, .inl (Y 0, 155, .inl M_told)), (a 4, .inl (Y 0, 238, .inl M_before)), (a 1, .inl (Y 0, 238, .inl w7))] := hD
    refine lv_aload_n hx hb dX11_runScript_123 rfl (lv_at hl 0 rfl) ?_
    refine lv_iload_n hx hb dX11_runScript_124 rfl (lv_at hl 1 rfl) ?_
    refine va_put (D := (dC, dI)) (ci := 11) (v := .int x2) (ty := .int) (C := RX11) (T := TX11) (N := 22) hx hb hts in_X11_runScript_X11 tyX11 tyX11_ok nmX11 hown hK hP hD hS 0 rfl rfl 11 (by decide) (hts _ lk_X11_runScript_RX11_29) (fun _ h9 => h9) rfl (by decide +kernel) rfl rfl (Nat.le_of_ble_eq_true rfl) dX11_runScript_125 (fun H locs hP hD hS => ?_)
    have hP : va_P (dC, dI) vwCl [(a 0, .inr (11, [.ref (a 1), .ref (a 2), .ref (a 3), .ref (a 4), .int M_isSaved, .int M_changes, .int 0, .int M_code, .ref (a 5), .int M_length, .int M_fault, .int x2, .ref (a 6), .int M_signMany, .ref (a 7), .ref (a 8), .int M_many, .ref (a 9), .ref (a 10), .int M_at, .ref (a 11), .int M_toldMany])), (a 2, .inl (Y 0, 1904, .inl M_kept)), (a 3, .inl (Y 0, 238, .inl M_saved)), (a 5, .inl (Y 0, 60, .inl M_input)), (a 6, .inl (Y 2, 100, .inl M_signs)), (a 7, .inl (Y 0, 6, .inl M_column)), (a 8, .inl (Y 0, 6, .inl M_loads)), (a 9, .inl (Y 0, 2048, .inl M_sums)), (a 10, .inl (Y 0, 2048, .inl M_groups)), (a 11, .inl (Y 0, 155, .inl M_told)), (a 4, .inl (Y 0, 238, .inl M_before)), (a 1, .inl (Y 0, 238, .inl w7))] H := hP
    have hD : va_D A [(a 0, .inr (11, [.ref (a 1), .ref (a 2), .ref (a 3), .ref (a 4), .int M_isSaved, .int M_changes, .int 0, .int M_code, .ref (a 5), .int M_length, .int M_fault, .int x2, .ref (a 6), .int M_signMany, .ref (a 7), .ref (a 8), .int M_many, .ref (a 9), .ref (a 10), .int M_at, .ref (a 11), .int M_toldMany])), (a 2, .inl (Y 0, 1904, .inl M_kept)), (a 3, .inl (Y 0, 238, .inl M_saved)), (a 5, .inl (Y 0, 60, .inl M_input)), (a 6, .inl (Y 2, 100, .inl M_signs)), (a 7, .inl (Y 0, 6, .inl M_column)), (a 8, .inl (Y 0, 6, .inl M_loads)), (a 9, .inl (Y 0, 2048, .inl M_sums)), (a 10, .inl (Y 0, 2048, .inl M_groups)), (a 11, .inl (Y 0, 155, .inl M_told)), (a 4, .inl (Y 0, 238, .inl M_before)), (a 1, .inl (Y 0, 238, .inl w7))] := hD
    refine lv_aload_n hx hb dX11_runScript_128 rfl (lv_at hl 0 rfl) ?_
    refine lv_iconst (v := 2) hx hb dX11_runScript_129 (by decide) ?_
    refine va_put (D := (dC, dI)) (ci := 11) (v := .int 2) (ty := .int) (C := RX11) (T := TX11) (N := 22) hx hb hts in_X11_runScript_X11 tyX11 tyX11_ok nmX11 hown hK hP hD hS 0 rfl rfl 7 (by decide) (hts _ lk_X11_runScript_RX11_51) (fun _ h9 => h9) rfl (by decide +kernel) rfl rfl (Nat.le_of_ble_eq_true rfl) dX11_runScript_130 (fun H locs hP hD hS => ?_)
    have hP : va_P (dC, dI) vwCl [(a 0, .inr (11, [.ref (a 1), .ref (a 2), .ref (a 3), .ref (a 4), .int M_isSaved, .int M_changes, .int 0, .int 2, .ref (a 5), .int M_length, .int M_fault, .int x2, .ref (a 6), .int M_signMany, .ref (a 7), .ref (a 8), .int M_many, .ref (a 9), .ref (a 10), .int M_at, .ref (a 11), .int M_toldMany])), (a 2, .inl (Y 0, 1904, .inl M_kept)), (a 3, .inl (Y 0, 238, .inl M_saved)), (a 5, .inl (Y 0, 60, .inl M_input)), (a 6, .inl (Y 2, 100, .inl M_signs)), (a 7, .inl (Y 0, 6, .inl M_column)), (a 8, .inl (Y 0, 6, .inl M_loads)), (a 9, .inl (Y 0, 2048, .inl M_sums)), (a 10, .inl (Y 0, 2048, .inl M_groups)), (a 11, .inl (Y 0, 155, .inl M_told)), (a 4, .inl (Y 0, 238, .inl M_before)), (a 1, .inl (Y 0, 238, .inl w7))] H := hP
    have hD : va_D A [(a 0, .inr (11, [.ref (a 1), .ref (a 2), .ref (a 3), .ref (a 4), .int M_isSaved, .int M_changes, .int 0, .int 2, .ref (a 5), .int M_length, .int M_fault, .int x2, .ref (a 6), .int M_signMany, .ref (a 7), .ref (a 8), .int M_many, .ref (a 9), .ref (a 10), .int M_at, .ref (a 11), .int M_toldMany])), (a 2, .inl (Y 0, 1904, .inl M_kept)), (a 3, .inl (Y 0, 238, .inl M_saved)), (a 5, .inl (Y 0, 60, .inl M_input)), (a 6, .inl (Y 2, 100, .inl M_signs)), (a 7, .inl (Y 0, 6, .inl M_column)), (a 8, .inl (Y 0, 6, .inl M_loads)), (a 9, .inl (Y 0, 2048, .inl M_sums)), (a 10, .inl (Y 0, 2048, .inl M_groups)), (a 11, .inl (Y 0, 155, .inl M_told)), (a 4, .inl (Y 0, 238, .inl M_before)), (a 1, .inl (Y 0, 238, .inl w7))] := hD
    refine lv_iload_n hx hb dX11_runScript_133 rfl (lv_at hl 2 rfl) ?_
    refine lv_if_le (tgt := 141) hx hb dX11_runScript_134 (by decide) (fun q10 => ?_) (fun q10 => ?_)
    · have hf := wk_t hf q10
      refine lv_iload_n hx hb dX11_runScript_141 rfl (lv_at hl 2 rfl) ?_
      obtain ⟨e0, e1, e2, e3, e4, e5, e6, e7, e8, e9, e10, e11, e12, e13, e14, e15⟩ := wke16 hf
      subst e0
      subst e1
      subst e2
      subst e3
      subst e4
      subst e5
      subst e6
      subst e7
      subst e8
      subst e9
      subst e10
      subst e11
      subst e12
      subst e13
      subst e14
      subst e15
      have hP9 := hP.sub (ws' := (wX11 Y a w7 M_kept M_saved M_before M_isSaved M_changes 0 2 M_input M_length M_fault x2 M_signs M_signMany M_column M_loads M_many M_sums M_groups M_at M_told M_toldMany)) [0, 11, 1, 2, 10, 3, 4, 5, 6, 7, 8, 9] rfl
      have hD9 := hD.sub (ws' := (wX11 Y a w7 M_kept M_saved M_before M_isSaved M_changes 0 2 M_input M_length M_fault x2 M_signs M_signMany M_column M_loads M_many M_sums M_groups M_at M_told M_toldMany)) [0, 11, 1, 2, 10, 3, 4, 5, 6, 7, 8, 9] (by decide) rfl
      exact W.iret (v := x3) hx hb hr (fun t ht hW => ⟨⟨x3, (), rfl, rfl, by rw [ht]; exact hP9, va_K.moved hW.alike hK, hD9⟩, hS.F ht⟩) hS.2.2 dX11_runScript_142
    · have hf := wk_f hf q10
      refine lv_iconst (v := 0) hx hb dX11_runScript_137 (by decide) ?_
      refine lv_goto (tgt := 142) hx hb dX11_runScript_138 (by decide) ?_
      obtain ⟨e0, e1, e2, e3, e4, e5, e6, e7, e8, e9, e10, e11, e12, e13, e14, e15⟩ := wke16 hf
      subst e0
      subst e1
      subst e2
      subst e3
      subst e4
      subst e5
      subst e6
      subst e7
      subst e8
      subst e9
      subst e10
      subst e11
      subst e12
      subst e13
      subst e14
      subst e15
      have hP9 := hP.sub (ws' := (wX11 Y a w7 M_kept M_saved M_before M_isSaved M_changes 0 2 M_input M_length M_fault x2 M_signs M_signMany M_column M_loads M_many M_sums M_groups M_at M_told M_toldMany)) [0, 11, 1, 2, 10, 3, 4, 5, 6, 7, 8, 9] rfl
      have hD9 := hD.sub (ws' := (wX11 Y a w7 M_kept M_saved M_before M_isSaved M_changes 0 2 M_input M_length M_fault x2 M_signs M_signMany M_column M_loads M_many M_sums M_groups M_at M_told M_toldMany)) [0, 11, 1, 2, 10, 3, 4, 5, 6, 7, 8, 9] (by decide) rfl
      exact W.iret (v := 0) hx hb hr (fun t ht hW => ⟨⟨0, (), rfl, rfl, by rw [ht]; exact hP9, va_K.moved hW.alike hK, hD9⟩, hS.F ht⟩) hS.2.2 dX11_runScript_142
set_option maxHeartbeats 4000000 in
set_option maxRecDepth 100000 in
theorem wl_X11_runScript_L62 {p : Program} {l : Launch} {e : Env} {s : State} {m : MethodId} {args : Array Value} {below : List Frame} {meth : Method} {c : Code} {dC : Nat → ClassId} {dI : Nat → Nat → Nat} {Y : Nat → ClassId} {a : Nat → Nat} {g : Nat → Nat → Nat} {M_saved : Nat → Int32} {M_isSaved : Int32} {M_input : Nat → Int32} {M_signs : Nat → Int32} {M_signMany : Int32} {M_sums : Nat → Int32} {M_groups : Nat → Int32}  {r : Int32} {zM_g : Nat → Int32} {zM_kept : Nat → Int32} {zM_before : Nat → Int32} {zM_changes : Int32} {zM_isWithin : Int32} {zM_code : Int32} {zM_length : Int32} {zM_fault : Int32} {zM_failed : Int32} {zM_column : Nat → Int32} {zM_loads : Nat → Int32} {zM_many : Int32} {zM_at : Int32} {zM_told : Nat → Int32} {zM_toldMany : Int32}  (C0 : wk_C p s m args meth c cX11_runScript 4 (some .int) wsX11_runScript RX11) {A : Nat → Prop} (hK : va_K (dC, dI) vwCl (vTy Y) s) (hA : ∀ q, s.heap.size ≤ q → A q) (hT : wk_T g A s s.heap) : ∀ (nn : Nat) (x2 : Int32) (x3 : Int32)  (M_g : Nat → Int32) (M_kept : Nat → Int32) (M_before : Nat → Int32) (M_changes : Int32) (M_isWithin : Int32) (M_code : Int32) (M_length : Int32) (M_fault : Int32) (M_failed : Int32) (M_column : Nat → Int32) (M_loads : Nat → Int32) (M_many : Int32) (M_at : Int32) (M_told : Nat → Int32) (M_toldMany : Int32), f_X11_runScript_L62 M_input nn x2 x3 M_g M_kept M_before M_changes M_isWithin M_code M_length M_fault M_failed M_column M_loads M_many M_at M_told M_toldMany = some (r, zM_g, zM_kept, zM_before, zM_changes, zM_isWithin, zM_code, zM_length, zM_fault, zM_failed, zM_column, zM_loads, zM_many, zM_at, zM_told, zM_toldMany) → ∀ (H : Heap) (locs : List Loc), va_P (dC, dI) vwCl (wX11 Y a M_g M_kept M_saved M_before M_isSaved M_changes M_isWithin M_code M_input M_length M_fault M_failed M_signs M_signMany M_column M_loads M_many M_sums M_groups M_at M_told M_toldMany) H → va_D A (wX11 Y a M_g M_kept M_saved M_before M_isSaved M_changes M_isWithin M_code M_input M_length M_fault M_failed M_signs M_signMany M_column M_loads M_many M_sums M_groups M_at M_told M_toldMany) → va_S A s.heap H locs → ∀ (ls : Array Slot), lv_has ls 4 [(0, .ref (a 0)), (2, .int x2), (3, .int x3)] → W p l e (headSpec wsX11_runScript ({ frames := 8, cells := 0, slots := 0, locals := 170 } : Room)).room s m args below meth c H locs 0 0 (MQ below (va_Qi (fun r2 (_ : Unit) => r2 = r) (fun _ t => wk_X (dC, dI) Y (wX11 Y a zM_g zM_kept M_saved zM_before M_isSaved zM_changes zM_isWithin zM_code M_input zM_length zM_fault zM_failed M_signs M_signMany zM_column zM_loads zM_many M_sums M_groups zM_at zM_told zM_toldMany) A t) A) args s 0 0 A) (F0 m 62 ls []) := by
  have C0 := C0
  obtain ⟨hx, hb, hml, hr, hlocks, hown, hts⟩ := id C0
  intro nn
  induction nn with
  | zero =>
    intro x2 x3 M_g M_kept M_before M_changes M_isWithin M_code M_length M_fault M_failed M_column M_loads M_many M_at M_told M_toldMany hf
    rw [f_X11_runScript_L62] at hf
    cases hf
  | succ nn ih =>
    intro x2 x3 M_g M_kept M_before M_changes M_isWithin M_code M_length M_fault M_failed M_column M_loads M_many M_at M_told M_toldMany hf H locs hP hD hS ls hl
    rw [f_X11_runScript_L62] at hf
    have hP : va_P (dC, dI) vwCl [(a 0, .inr (11, [.ref (a 1), .ref (a 2), .ref (a 3), .ref (a 4), .int M_isSaved, .int M_changes, .int M_isWithin, .int M_code, .ref (a 5), .int M_length, .int M_fault, .int M_failed, .ref (a 6), .int M_signMany, .ref (a 7), .ref (a 8), .int M_many, .ref (a 9), .ref (a 10), .int M_at, .ref (a 11), .int M_toldMany])), (a 1, .inl (Y 0, 238, .inl M_g)), (a 2, .inl (Y 0, 1904, .inl M_kept)), (a 3, .inl (Y 0, 238, .inl M_saved)), (a 4, .inl (Y 0, 238, .inl M_before)), (a 5, .inl (Y 0, 60, .inl M_input)), (a 6, .inl (Y 2, 100, .inl M_signs)), (a 7, .inl (Y 0, 6, .inl M_column)), (a 8, .inl (Y 0, 6, .inl M_loads)), (a 9, .inl (Y 0, 2048, .inl M_sums)), (a 10, .inl (Y 0, 2048, .inl M_groups)), (a 11, .inl (Y 0, 155, .inl M_told))] H := hP
    have hD : va_D A [(a 0, .inr (11, [.ref (a 1), .ref (a 2), .ref (a 3), .ref (a 4), .int M_isSaved, .int M_changes, .int M_isWithin, .int M_code, .ref (a 5), .int M_length, .int M_fault, .int M_failed, .ref (a 6), .int M_signMany, .ref (a 7), .ref (a 8), .int M_many, .ref (a 9), .ref (a 10), .int M_at, .ref (a 11), .int M_toldMany])), (a 1, .inl (Y 0, 238, .inl M_g)), (a 2, .inl (Y 0, 1904, .inl M_kept)), (a 3, .inl (Y 0, 238, .inl M_saved)), (a 4, .inl (Y 0, 238, .inl M_before)), (a 5, .inl (Y 0, 60, .inl M_input)), (a 6, .inl (Y 2, 100, .inl M_signs)), (a 7, .inl (Y 0, 6, .inl M_column)), (a 8, .inl (Y 0, 6, .inl M_loads)), (a 9, .inl (Y 0, 2048, .inl M_sums)), (a 10, .inl (Y 0, 2048, .inl M_groups)), (a 11, .inl (Y 0, 155, .inl M_told))] := hD
    refine lv_iload_n hx hb dX11_runScript_62 rfl (lv_at hl 1 rfl) ?_
    refine lv_aload_n hx hb dX11_runScript_63 rfl (lv_at hl 0 rfl) ?_
    refine va_get (D := (dC, dI)) (ci := 11) (v := .int M_toldMany) (C := RX11) (T := TX11) (N := 22) hx hb hts in_X11_runScript_X11 hown hK hP 0 rfl rfl 21 (by decide) (hts _ lk_X11_runScript_RX11_210) (fun _ h9 => h9) rfl dX11_runScript_64 ?_
    refine lv_icmp_ge (tgt := 98) hx hb dX11_runScript_67 (by decide) (fun q1 => ?_) (fun q1 => ?_)
    · have hf := wk_t hf q1
      exact wl_X11_runScript_L98 C0 hK hA hT x2 x3 M_g M_kept M_before M_changes M_isWithin M_code M_length M_fault M_failed M_column M_loads M_many M_at M_told M_toldMany hf H locs hP hD hS ls (lv_sub hl [0, 1, 2] rfl)
    · have hf := wk_f hf q1
      refine lv_aload_n hx hb dX11_runScript_70 rfl (lv_at hl 0 rfl) ?_
      refine va_get (D := (dC, dI)) (ci := 11) (v := .int M_code) (C := RX11) (T := TX11) (N := 22) hx hb hts in_X11_runScript_X11 hown hK hP 0 rfl rfl 7 (by decide) (hts _ lk_X11_runScript_RX11_51) (fun _ h9 => h9) rfl dX11_runScript_71 ?_
      refine lv_if_ne (tgt := 98) hx hb dX11_runScript_74 (by decide) (fun q2 => ?_) (fun q2 => ?_)
      · have hf := wk_f hf q2
        exact wl_X11_runScript_L98 C0 hK hA hT x2 x3 M_g M_kept M_before M_changes M_isWithin M_code M_length M_fault M_failed M_column M_loads M_many M_at M_told M_toldMany hf H locs hP hD hS ls (lv_sub hl [0, 1, 2] rfl)
      · have hf := wk_t hf q2
        refine lv_aload_n hx hb dX11_runScript_77 rfl (lv_at hl 0 rfl) ?_
        refine lv_iconst (v := 5) hx hb dX11_runScript_78 (by decide) ?_
        refine lv_iload_n hx hb dX11_runScript_79 rfl (lv_at hl 1 rfl) ?_
        refine lv_imul hx hb dX11_runScript_80 ?_
        obtain ⟨r3, w4, w5, w6, w7, w8, w9, w10, hr11, hf⟩ := wkb8_s hf
        refine wk_evi (As := [.int (5 * x2)]) (rest := []) (wc := (wX11 Y a M_g M_kept M_saved M_before M_isSaved M_changes M_isWithin M_code M_input M_length M_fault M_failed M_signs M_signMany M_column M_loads M_many M_sums M_groups M_at M_told M_toldMany)) (w1 := (wX11 Y a w4 w5 M_saved M_before M_isSaved w6 M_isWithin w7 M_input M_length M_fault M_failed M_signs M_signMany w8 w9 w10 M_sums M_groups M_at M_told M_toldMany)) (wr := []) ⟨hx, hb, hml, hown, hts⟩ (c_X11_carries l dC dI Y a M_g M_kept M_saved M_before M_isSaved M_changes M_isWithin M_code M_input M_length M_fault M_failed M_signs M_signMany M_column M_loads M_many M_sums M_groups M_at M_told M_toldMany (5 * x2) H.size r3 w4 w5 w6 w7 w8 w9 w10 hr11) (cwV 1 hts gX11_runScript_X11_carries rfl rfl rfl (by decide +kernel) ⟨Nat.le_of_ble_eq_true rfl, Nat.le_of_ble_eq_true rfl⟩) hK hP hD hS hA [0, 1, 2, 3, 4, 5, 6, 7, 8, 9, 10, 11] [] rfl rfl (by decide) (by decide) (by decide) (va_recv hK hP (ci := 11) (q0 := 0) rfl rfl) rfl hl.1 rfl (Nat.le_of_ble_eq_true rfl) dX11_runScript_81 ⟨Nat.le_of_ble_eq_true rfl, Nat.le_of_ble_eq_true rfl⟩ (fun H locs hP hD hS => ?_)
        have hP : va_P (dC, dI) vwCl [(a 0, .inr (11, [.ref (a 1), .ref (a 2), .ref (a 3), .ref (a 4), .int M_isSaved, .int w6, .int M_isWithin, .int w7, .ref (a 5), .int M_length, .int M_fault, .int M_failed, .ref (a 6), .int M_signMany, .ref (a 7), .ref (a 8), .int w10, .ref (a 9), .ref (a 10), .int M_at, .ref (a 11), .int M_toldMany])), (a 1, .inl (Y 0, 238, .inl w4)), (a 2, .inl (Y 0, 1904, .inl w5)), (a 3, .inl (Y 0, 238, .inl M_saved)), (a 4, .inl (Y 0, 238, .inl M_before)), (a 5, .inl (Y 0, 60, .inl M_input)), (a 6, .inl (Y 2, 100, .inl M_signs)), (a 7, .inl (Y 0, 6, .inl w8)), (a 8, .inl (Y 0, 6, .inl w9)), (a 9, .inl (Y 0, 2048, .inl M_sums)), (a 10, .inl (Y 0, 2048, .inl M_groups)), (a 11, .inl (Y 0, 155, .inl M_told))] H := hP
        have hD : va_D A [(a 0, .inr (11, [.ref (a 1), .ref (a 2), .ref (a 3), .ref (a 4), .int M_isSaved, .int w6, .int M_isWithin, .int w7, .ref (a 5), .int M_length, .int M_fault, .int M_failed, .ref (a 6), .int M_signMany, .ref (a 7), .ref (a 8), .int w10, .ref (a 9), .ref (a 10), .int M_at, .ref (a 11), .int M_toldMany])), (a 1, .inl (Y 0, 238, .inl w4)), (a 2, .inl (Y 0, 1904, .inl w5)), (a 3, .inl (Y 0, 238, .inl M_saved)), (a 4, .inl (Y 0, 238, .inl M_before)), (a 5, .inl (Y 0, 60, .inl M_input)), (a 6, .inl (Y 2, 100, .inl M_signs)), (a 7, .inl (Y 0, 6, .inl w8)), (a 8, .inl (Y 0, 6, .inl w9)), (a 9, .inl (Y 0, 2048, .inl M_sums)), (a 10, .inl (Y 0, 2048, .inl M_groups)), (a 11, .inl (Y 0, 155, .inl M_told))] := hD
        refine lv_istore_n (lv' := [(3, .int r3), (0, .ref (a 0)), (2, .int x2)]) hx hb dX11_runScript_84 rfl hl (by decide) rfl (fun ls hl => ?_)
        refine lv_aload_n hx hb dX11_runScript_85 rfl (lv_at hl 1 rfl) ?_
        refine va_get (D := (dC, dI)) (ci := 11) (v := .int w7) (C := RX11) (T := TX11) (N := 22) hx hb hts in_X11_runScript_X11 hown hK hP 0 rfl rfl 7 (by decide) (hts _ lk_X11_runScript_RX11_51) (fun _ h9 => h9) rfl dX11_runScript_86 ?_
        refine lv_if_ne (tgt := 62) hx hb dX11_runScript_89 (by decide) (fun q13 => ?_) (fun q13 => ?_)
        · have hf := wk_f hf q13
          exact ih x2 r3 w4 w5 M_before w6 M_isWithin w7 M_length M_fault M_failed w8 w9 w10 M_at M_told M_toldMany hf H locs hP hD hS ls (lv_sub hl [1, 2, 0] rfl)
        · have hf := wk_t hf q13
          refine lv_iinc (v := (x2 + 1)) (lv' := [(2, .int (x2 + 1)), (3, .int r3), (0, .ref (a 0))]) hx hb dX11_runScript_92 hl (k := 2) rfl rfl (by decide) rfl (fun ls hl => ?_)
          refine lv_goto (tgt := 62) hx hb dX11_runScript_95 (by decide) ?_
          exact ih (x2 + 1) r3 w4 w5 M_before w6 M_isWithin w7 M_length M_fault M_failed w8 w9 w10 M_at M_told M_toldMany hf H locs hP hD hS ls (lv_sub hl [2, 0, 1] rfl)
set_option maxHeartbeats 4000000 in
set_option maxRecDepth 100000 in
theorem wl_X11_runScript_L32 {p : Program} {l : Launch} {e : Env} {s : State} {m : MethodId} {args : Array Value} {below : List Frame} {meth : Method} {c : Code} {dC : Nat → ClassId} {dI : Nat → Nat → Nat} {Y : Nat → ClassId} {a : Nat → Nat} {g : Nat → Nat → Nat} {M_saved : Nat → Int32} {M_isSaved : Int32} {M_input : Nat → Int32} {M_signs : Nat → Int32} {M_signMany : Int32} {M_sums : Nat → Int32} {M_groups : Nat → Int32}  {r : Int32} {zM_g : Nat → Int32} {zM_kept : Nat → Int32} {zM_before : Nat → Int32} {zM_changes : Int32} {zM_isWithin : Int32} {zM_code : Int32} {zM_length : Int32} {zM_fault : Int32} {zM_failed : Int32} {zM_column : Nat → Int32} {zM_loads : Nat → Int32} {zM_many : Int32} {zM_at : Int32} {zM_told : Nat → Int32} {zM_toldMany : Int32}  (C0 : wk_C p s m args meth c cX11_runScript 4 (some .int) wsX11_runScript RX11) {A : Nat → Prop} (hK : va_K (dC, dI) vwCl (vTy Y) s) (hA : ∀ q, s.heap.size ≤ q → A q) (hT : wk_T g A s s.heap) : ∀  (y0 : Int32) (M_g : Nat → Int32) (M_kept : Nat → Int32) (M_before : Nat → Int32) (M_changes : Int32) (M_isWithin : Int32) (M_code : Int32) (M_length : Int32) (M_fault : Int32) (M_failed : Int32) (M_column : Nat → Int32) (M_loads : Nat → Int32) (M_many : Int32) (M_at : Int32) (M_told : Nat → Int32) (M_toldMany : Int32), f_X11_runScript_L32 M_input y0 M_g M_kept M_before M_changes M_isWithin M_code M_length M_fault M_failed M_column M_loads M_many M_at M_told M_toldMany = some (r, zM_g, zM_kept, zM_before, zM_changes, zM_isWithin, zM_code, zM_length, zM_fault, zM_failed, zM_column, zM_loads, zM_many, zM_at, zM_told, zM_toldMany) → ∀ (H : Heap) (locs : List Loc), va_P (dC, dI) vwCl (wX11 Y a M_g M_kept M_saved M_before M_isSaved M_changes M_isWithin M_code M_input M_length M_fault M_failed M_signs M_signMany M_column M_loads M_many M_sums M_groups M_at M_told M_toldMany) H → va_D A (wX11 Y a M_g M_kept M_saved M_before M_isSaved M_changes M_isWithin M_code M_input M_length M_fault M_failed M_signs M_signMany M_column M_loads M_many M_sums M_groups M_at M_told M_toldMany) → va_S A s.heap H locs → ∀ (ls : Array Slot), lv_has ls 4 [(0, .ref (a 0))] → W p l e (headSpec wsX11_runScript ({ frames := 8, cells := 0, slots := 0, locals := 170 } : Room)).room s m args below meth c H locs 0 0 (MQ below (va_Qi (fun r2 (_ : Unit) => r2 = r) (fun _ t => wk_X (dC, dI) Y (wX11 Y a zM_g zM_kept M_saved zM_before M_isSaved zM_changes zM_isWithin zM_code M_input zM_length zM_fault zM_failed M_signs M_signMany zM_column zM_loads zM_many M_sums M_groups zM_at zM_told zM_toldMany) A t) A) args s 0 0 A) (F0 m 32 ls [.int y0, .ref (a 0)]) := by
  obtain ⟨hx, hb, hml, hr, hlocks, hown, hts⟩ := id C0
  intro y0 M_g M_kept M_before M_changes M_isWithin M_code M_length M_fault M_failed M_column M_loads M_many M_at M_told M_toldMany hf H locs hP hD hS ls hl
  rw [f_X11_runScript_L32] at hf
  have hP : va_P (dC, dI) vwCl [(a 0, .inr (11, [.ref (a 1), .ref (a 2), .ref (a 3), .ref (a 4), .int M_isSaved, .int M_changes, .int M_isWithin, .int M_code, .ref (a 5), .int M_length, .int M_fault, .int M_failed, .ref (a 6), .int M_signMany, .ref (a 7), .ref (a 8), .int M_many, .ref (a 9), .ref (a 10), .int M_at, .ref (a 11), .int M_toldMany])), (a 1, .inl (Y 0, 238, .inl M_g)), (a 2, .inl (Y 0, 1904, .inl M_kept)), (a 3, .inl (Y 0, 238, .inl M_saved)), (a 4, .inl (Y 0, 238, .inl M_before)), (a 5, .inl (Y 0, 60, .inl M_input)), (a 6, .inl (Y 2, 100, .inl M_signs)), (a 7, .inl (Y 0, 6, .inl M_column)), (a 8, .inl (Y 0, 6, .inl M_loads)), (a 9, .inl (Y 0, 2048, .inl M_sums)), (a 10, .inl (Y 0, 2048, .inl M_groups)), (a 11, .inl (Y 0, 155, .inl M_told))] H := hP
  have hD : va_D A [(a 0, .inr (11, [.ref (a 1), .ref (a 2), .ref (a 3), .ref (a 4), .int M_isSaved, .int M_changes, .int M_isWithin, .int M_code, .ref (a 5), .int M_length, .int M_fault, .int M_failed, .ref (a 6), .int M_signMany, .ref (a 7), .ref (a 8), .int M_many, .ref (a 9), .ref (a 10), .int M_at, .ref (a 11), .int M_toldMany])), (a 1, .inl (Y 0, 238, .inl M_g)), (a 2, .inl (Y 0, 1904, .inl M_kept)), (a 3, .inl (Y 0, 238, .inl M_saved)), (a 4, .inl (Y 0, 238, .inl M_before)), (a 5, .inl (Y 0, 60, .inl M_input)), (a 6, .inl (Y 2, 100, .inl M_signs)), (a 7, .inl (Y 0, 6, .inl M_column)), (a 8, .inl (Y 0, 6, .inl M_loads)), (a 9, .inl (Y 0, 2048, .inl M_sums)), (a 10, .inl (Y 0, 2048, .inl M_groups)), (a 11, .inl (Y 0, 155, .inl M_told))] := hD
  obtain ⟨r1, w2, hr3, hf⟩ := wkb2_s hf
  refine wk_evi (As := [.int y0]) (rest := []) (wc := (wX11 Y a M_g M_kept M_saved M_before M_isSaved M_changes M_isWithin M_code M_input M_length M_fault M_failed M_signs M_signMany M_column M_loads M_many M_sums M_groups M_at M_told M_toldMany)) (w1 := (wX11 Y a M_g M_kept M_saved M_before M_isSaved M_changes M_isWithin w2 M_input M_length M_fault M_failed M_signs M_signMany M_column M_loads M_many M_sums M_groups M_at M_told M_toldMany)) (wr := []) ⟨hx, hb, hml, hown, hts⟩ (c_X11_fails l dC dI Y a M_g M_kept M_saved M_before M_isSaved M_changes M_isWithin M_code M_input M_length M_fault M_failed M_signs M_signMany M_column M_loads M_many M_sums M_groups M_at M_told M_toldMany y0 H.size r1 w2 hr3) (cwV 1 hts gX11_runScript_X11_fails rfl rfl rfl (by decide +kernel) ⟨Nat.le_of_ble_eq_true rfl, Nat.le_of_ble_eq_true rfl⟩) hK hP hD hS hA [0, 1, 2, 3, 4, 5, 6, 7, 8, 9, 10, 11] [] rfl rfl (by decide) (by decide) (by decide) (va_recv hK hP (ci := 11) (q0 := 0) rfl rfl) rfl hl.1 rfl (Nat.le_of_ble_eq_true rfl) dX11_runScript_32 ⟨Nat.le_of_ble_eq_true rfl, Nat.le_of_ble_eq_true rfl⟩ (fun H locs hP hD hS => ?_)
  have hP : va_P (dC, dI) vwCl [(a 0, .inr (11, [.ref (a 1), .ref (a 2), .ref (a 3), .ref (a 4), .int M_isSaved, .int M_changes, .int M_isWithin, .int w2, .ref (a 5), .int M_length, .int M_fault, .int M_failed, .ref (a 6), .int M_signMany, .ref (a 7), .ref (a 8), .int M_many, .ref (a 9), .ref (a 10), .int M_at, .ref (a 11), .int M_toldMany])), (a 1, .inl (Y 0, 238, .inl M_g)), (a 2, .inl (Y 0, 1904, .inl M_kept)), (a 3, .inl (Y 0, 238, .inl M_saved)), (a 4, .inl (Y 0, 238, .inl M_before)), (a 5, .inl (Y 0, 60, .inl M_input)), (a 6, .inl (Y 2, 100, .inl M_signs)), (a 7, .inl (Y 0, 6, .inl M_column)), (a 8, .inl (Y 0, 6, .inl M_loads)), (a 9, .inl (Y 0, 2048, .inl M_sums)), (a 10, .inl (Y 0, 2048, .inl M_groups)), (a 11, .inl (Y 0, 155, .inl M_told))] H := hP
  have hD : va_D A [(a 0, .inr (11, [.ref (a 1), .ref (a 2), .ref (a 3), .ref (a 4), .int M_isSaved, .int M_changes, .int M_isWithin, .int w2, .ref (a 5), .int M_length, .int M_fault, .int M_failed, .ref (a 6), .int M_signMany, .ref (a 7), .ref (a 8), .int M_many, .ref (a 9), .ref (a 10), .int M_at, .ref (a 11), .int M_toldMany])), (a 1, .inl (Y 0, 238, .inl M_g)), (a 2, .inl (Y 0, 1904, .inl M_kept)), (a 3, .inl (Y 0, 238, .inl M_saved)), (a 4, .inl (Y 0, 238, .inl M_before)), (a 5, .inl (Y 0, 60, .inl M_input)), (a 6, .inl (Y 2, 100, .inl M_signs)), (a 7, .inl (Y 0, 6, .inl M_column)), (a 8, .inl (Y 0, 6, .inl M_loads)), (a 9, .inl (Y 0, 2048, .inl M_sums)), (a 10, .inl (Y 0, 2048, .inl M_groups)), (a 11, .inl (Y 0, 155, .inl M_told))] := hD
  refine lv_if_eq (tgt := 40) hx hb dX11_runScript_35 (by decide) (fun q5 => ?_) (fun q5 => ?_)
  · have hf := wk_t hf q5
    refine lv_aload_n hx hb dX11_runScript_40 rfl (lv_at hl 0 rfl) ?_
    refine va_get (D := (dC, dI)) (ci := 11) (v := .ref (a 1)) (C := RX11) (T := TX11) (N := 22) hx hb hts in_X11_runScript_X11 hown hK hP 0 rfl rfl 0 (by decide) (hts _ lk_X11_runScript_RX11_7) (fun _ h9 => h9) rfl dX11_runScript_41 ?_
    refine lv_iconst (v := 0) hx hb dX11_runScript_44 (by decide) ?_
    refine lv_aload_n hx hb dX11_runScript_45 rfl (lv_at hl 0 rfl) ?_
    refine va_get (D := (dC, dI)) (ci := 11) (v := .ref (a 4)) (C := RX11) (T := TX11) (N := 22) hx hb hts in_X11_runScript_X11 hown hK hP 0 rfl rfl 3 (by decide) (hts _ lk_X11_runScript_RX11_19) (fun _ h9 => h9) rfl dX11_runScript_46 ?_
    refine lv_iconst (v := 0) hx hb dX11_runScript_49 (by decide) ?_
    obtain ⟨w6, hr7, hf⟩ := wkb1_s hf
    refine wk_esv (As := [.ref (a 1), .int 0, .ref (a 4), .int 0]) (rest := []) (wc := ([(a 1, .inl (Y 0, 238, .inl M_g))] ++ [(a 4, .inl (Y 0, 238, .inl M_before))])) (w1 := ([(a 1, .inl (Y 0, 238, .inl M_g))] ++ [(a 4, .inl (Y 0, 238, .inl w6))])) (wr := [(a 0, .inr (11, [.ref (a 1), .ref (a 2), .ref (a 3), .ref (a 4), .int M_isSaved, .int M_changes, .int M_isWithin, .int w2, .ref (a 5), .int M_length, .int M_fault, .int M_failed, .ref (a 6), .int M_signMany, .ref (a 7), .ref (a 8), .int M_many, .ref (a 9), .ref (a 10), .int M_at, .ref (a 11), .int M_toldMany])), (a 2, .inl (Y 0, 1904, .inl M_kept)), (a 3, .inl (Y 0, 238, .inl M_saved)), (a 5, .inl (Y 0, 60, .inl M_input)), (a 6, .inl (Y 2, 100, .inl M_signs)), (a 7, .inl (Y 0, 6, .inl M_column)), (a 8, .inl (Y 0, 6, .inl M_loads)), (a 9, .inl (Y 0, 2048, .inl M_sums)), (a 10, .inl (Y 0, 2048, .inl M_groups)), (a 11, .inl (Y 0, 155, .inl M_told))]) ⟨hx, hb, hml, hown, hts⟩ (c_X11_copies_238_238 l dC dI Y (fun _ => a 1) (fun _ => a 4) M_g M_before 0 0 H.size w6 hr7) (va_cwS 4 hts gX11_runScript_X11_copies rfl rfl rfl (by decide +kernel) ⟨Nat.le_of_ble_eq_true rfl, Nat.le_of_ble_eq_true rfl⟩) hK hP hD hS hA [1, 4] [0, 2, 3, 5, 6, 7, 8, 9, 10, 11] rfl rfl (by decide) (by decide) (by decide) rfl hl.1 rfl (Nat.le_of_ble_eq_true rfl) dX11_runScript_50 ⟨Nat.le_of_ble_eq_true rfl, Nat.le_of_ble_eq_true rfl⟩ (fun H locs hP hD hS => ?_)
    have hP : va_P (dC, dI) vwCl [(a 0, .inr (11, [.ref (a 1), .ref (a 2), .ref (a 3), .ref (a 4), .int M_isSaved, .int M_changes, .int M_isWithin, .int w2, .ref (a 5), .int M_length, .int M_fault, .int M_failed, .ref (a 6), .int M_signMany, .ref (a 7), .ref (a 8), .int M_many, .ref (a 9), .ref (a 10), .int M_at, .ref (a 11), .int M_toldMany])), (a 2, .inl (Y 0, 1904, .inl M_kept)), (a 3, .inl (Y 0, 238, .inl M_saved)), (a 5, .inl (Y 0, 60, .inl M_input)), (a 6, .inl (Y 2, 100, .inl M_signs)), (a 7, .inl (Y 0, 6, .inl M_column)), (a 8, .inl (Y 0, 6, .inl M_loads)), (a 9, .inl (Y 0, 2048, .inl M_sums)), (a 10, .inl (Y 0, 2048, .inl M_groups)), (a 11, .inl (Y 0, 155, .inl M_told)), (a 1, .inl (Y 0, 238, .inl M_g)), (a 4, .inl (Y 0, 238, .inl w6))] H := hP
    have hD : va_D A [(a 0, .inr (11, [.ref (a 1), .ref (a 2), .ref (a 3), .ref (a 4), .int M_isSaved, .int M_changes, .int M_isWithin, .int w2, .ref (a 5), .int M_length, .int M_fault, .int M_failed, .ref (a 6), .int M_signMany, .ref (a 7), .ref (a 8), .int M_many, .ref (a 9), .ref (a 10), .int M_at, .ref (a 11), .int M_toldMany])), (a 2, .inl (Y 0, 1904, .inl M_kept)), (a 3, .inl (Y 0, 238, .inl M_saved)), (a 5, .inl (Y 0, 60, .inl M_input)), (a 6, .inl (Y 2, 100, .inl M_signs)), (a 7, .inl (Y 0, 6, .inl M_column)), (a 8, .inl (Y 0, 6, .inl M_loads)), (a 9, .inl (Y 0, 2048, .inl M_sums)), (a 10, .inl (Y 0, 2048, .inl M_groups)), (a 11, .inl (Y 0, 155, .inl M_told)), (a 1, .inl (Y 0, 238, .inl M_g)), (a 4, .inl (Y 0, 238, .inl w6))] := hD
    refine lv_aload_n hx hb dX11_runScript_53 rfl (lv_at hl 0 rfl) ?_
    refine lv_iconst (v := 1) hx hb dX11_runScript_54 (by decide) ?_
    refine va_put (D := (dC, dI)) (ci := 11) (v := .int 1) (ty := .boolean) (C := RX11) (T := TX11) (N := 22) hx hb hts in_X11_runScript_X11 tyX11 tyX11_ok nmX11 hown hK hP hD hS 0 rfl rfl 6 (by decide) (hts _ lk_X11_runScript_RX11_54) (fun _ h9 => h9) rfl (by decide +kernel) rfl rfl (Nat.le_of_ble_eq_true rfl) dX11_runScript_55 (fun H locs hP hD hS => ?_)
    have hP : va_P (dC, dI) vwCl [(a 0, .inr (11, [.ref (a 1), .ref (a 2), .ref (a 3), .ref (a 4), .int M_isSaved, .int M_changes, .int 1, .int w2, .ref (a 5), .int M_length, .int M_fault, .int M_failed, .ref (a 6), .int M_signMany, .ref (a 7), .ref (a 8), .int M_many, .ref (a 9), .ref (a 10), .int M_at, .ref (a 11), .int M_toldMany])), (a 2, .inl (Y 0, 1904, .inl M_kept)), (a 3, .inl (Y 0, 238, .inl M_saved)), (a 5, .inl (Y 0, 60, .inl M_input)), (a 6, .inl (Y 2, 100, .inl M_signs)), (a 7, .inl (Y 0, 6, .inl M_column)), (a 8, .inl (Y 0, 6, .inl M_loads)), (a 9, .inl (Y 0, 2048, .inl M_sums)), (a 10, .inl (Y 0, 2048, .inl M_groups)), (a 11, .inl (Y 0, 155, .inl M_told)), (a 1, .inl (Y 0, 238, .inl M_g)), (a 4, .inl (Y 0, 238, .inl w6))] H := hP
    have hD : va_D A [(a 0, .inr (11, [.ref (a 1), .ref (a 2), .ref (a 3), .ref (a 4), .int M_isSaved, .int M_changes, .int 1, .int w2, .ref (a 5), .int M_length, .int M_fault, .int M_failed, .ref (a 6), .int M_signMany, .ref (a 7), .ref (a 8), .int M_many, .ref (a 9), .ref (a 10), .int M_at, .ref (a 11), .int M_toldMany])), (a 2, .inl (Y 0, 1904, .inl M_kept)), (a 3, .inl (Y 0, 238, .inl M_saved)), (a 5, .inl (Y 0, 60, .inl M_input)), (a 6, .inl (Y 2, 100, .inl M_signs)), (a 7, .inl (Y 0, 6, .inl M_column)), (a 8, .inl (Y 0, 6, .inl M_loads)), (a 9, .inl (Y 0, 2048, .inl M_sums)), (a 10, .inl (Y 0, 2048, .inl M_groups)), (a 11, .inl (Y 0, 155, .inl M_told)), (a 1, .inl (Y 0, 238, .inl M_g)), (a 4, .inl (Y 0, 238, .inl w6))] := hD
    refine lv_iconst (v := 0) hx hb dX11_runScript_58 (by decide) ?_
    refine lv_istore_n (lv' := [(2, .int 0), (0, .ref (a 0))]) hx hb dX11_runScript_59 rfl hl (by decide) rfl (fun ls hl => ?_)
    refine lv_iconst (v := 0) hx hb dX11_runScript_60 (by decide) ?_
    refine lv_istore_n (lv' := [(3, .int 0), (2, .int 0), (0, .ref (a 0))]) hx hb dX11_runScript_61 rfl hl (by decide) rfl (fun ls hl => ?_)
    have hP9 := hP.sub (ws' := (wX11 Y a M_g M_kept M_saved w6 M_isSaved M_changes 1 w2 M_input M_length M_fault M_failed M_signs M_signMany M_column M_loads M_many M_sums M_groups M_at M_told M_toldMany)) [0, 10, 1, 2, 11, 3, 4, 5, 6, 7, 8, 9] rfl
    have hD9 := hD.sub (ws' := (wX11 Y a M_g M_kept M_saved w6 M_isSaved M_changes 1 w2 M_input M_length M_fault M_failed M_signs M_signMany M_column M_loads M_many M_sums M_groups M_at M_told M_toldMany)) [0, 10, 1, 2, 11, 3, 4, 5, 6, 7, 8, 9] (by decide) rfl
    exact wl_X11_runScript_L62 C0 hK hA hT FU 0 0 M_g M_kept w6 M_changes 1 w2 M_length M_fault M_failed M_column M_loads M_many M_at M_told M_toldMany hf H locs hP9 hD9 hS ls (lv_sub hl [2, 1, 0] rfl)
  · have hf := wk_f hf q5
    refine lv_iconst (v := 0) hx hb dX11_runScript_38 (by decide) ?_
    obtain ⟨e0, e1, e2, e3, e4, e5, e6, e7, e8, e9, e10, e11, e12, e13, e14, e15⟩ := wke16 hf
    subst e0
    subst e1
    subst e2
    subst e3
    subst e4
    subst e5
    subst e6
    subst e7
    subst e8
    subst e9
    subst e10
    subst e11
    subst e12
    subst e13
    subst e14
    subst e15
    have hP9 := hP.sub (ws' := (wX11 Y a M_g M_kept M_saved M_before M_isSaved M_changes M_isWithin w2 M_input M_length M_fault M_failed M_signs M_signMany M_column M_loads M_many M_sums M_groups M_at M_told M_toldMany)) [0, 1, 2, 3, 4, 5, 6, 7, 8, 9, 10, 11] rfl
    have hD9 := hD.sub (ws' := (wX11 Y a M_g M_kept M_saved M_before M_isSaved M_changes M_isWithin w2 M_input M_length M_fault M_failed M_signs M_signMany M_column M_loads M_many M_sums M_groups M_at M_told M_toldMany)) [0, 1, 2, 3, 4, 5, 6, 7, 8, 9, 10, 11] (by decide) rfl
    exact W.iret (v := 0) hx hb hr (fun t ht hW => ⟨⟨0, (), rfl, rfl, by rw [ht]; exact hP9, va_K.moved hW.alike hK, hD9⟩, hS.F ht⟩) hS.2.2 dX11_runScript_39
set_option maxHeartbeats 4000000 in
set_option maxRecDepth 100000 in
theorem wl_X11_runScript_L17 {p : Program} {l : Launch} {e : Env} {s : State} {m : MethodId} {args : Array Value} {below : List Frame} {meth : Method} {c : Code} {dC : Nat → ClassId} {dI : Nat → Nat → Nat} {Y : Nat → ClassId} {a : Nat → Nat} {g : Nat → Nat → Nat} {M_saved : Nat → Int32} {M_isSaved : Int32} {M_input : Nat → Int32} {M_signs : Nat → Int32} {M_signMany : Int32} {M_sums : Nat → Int32} {M_groups : Nat → Int32}  {r : Int32} {zM_g : Nat → Int32} {zM_kept : Nat → Int32} {zM_before : Nat → Int32} {zM_changes : Int32} {zM_isWithin : Int32} {zM_code : Int32} {zM_length : Int32} {zM_fault : Int32} {zM_failed : Int32} {zM_column : Nat → Int32} {zM_loads : Nat → Int32} {zM_many : Int32} {zM_at : Int32} {zM_told : Nat → Int32} {zM_toldMany : Int32}  (C0 : wk_C p s m args meth c cX11_runScript 4 (some .int) wsX11_runScript RX11) {A : Nat → Prop} (hK : va_K (dC, dI) vwCl (vTy Y) s) (hA : ∀ q, s.heap.size ≤ q → A q) (hT : wk_T g A s s.heap) : ∀ (x1 : Int32)  (M_g : Nat → Int32) (M_kept : Nat → Int32) (M_before : Nat → Int32) (M_changes : Int32) (M_isWithin : Int32) (M_code : Int32) (M_length : Int32) (M_fault : Int32) (M_failed : Int32) (M_column : Nat → Int32) (M_loads : Nat → Int32) (M_many : Int32) (M_at : Int32) (M_told : Nat → Int32) (M_toldMany : Int32), f_X11_runScript_L17 M_input x1 M_g M_kept M_before M_changes M_isWithin M_code M_length M_fault M_failed M_column M_loads M_many M_at M_told M_toldMany = some (r, zM_g, zM_kept, zM_before, zM_changes, zM_isWithin, zM_code, zM_length, zM_fault, zM_failed, zM_column, zM_loads, zM_many, zM_at, zM_told, zM_toldMany) → ∀ (H : Heap) (locs : List Loc), va_P (dC, dI) vwCl (wX11 Y a M_g M_kept M_saved M_before M_isSaved M_changes M_isWithin M_code M_input M_length M_fault M_failed M_signs M_signMany M_column M_loads M_many M_sums M_groups M_at M_told M_toldMany) H → va_D A (wX11 Y a M_g M_kept M_saved M_before M_isSaved M_changes M_isWithin M_code M_input M_length M_fault M_failed M_signs M_signMany M_column M_loads M_many M_sums M_groups M_at M_told M_toldMany) → va_S A s.heap H locs → ∀ (ls : Array Slot), lv_has ls 4 [(0, .ref (a 0)), (1, .int x1)] → W p l e (headSpec wsX11_runScript ({ frames := 8, cells := 0, slots := 0, locals := 170 } : Room)).room s m args below meth c H locs 0 0 (MQ below (va_Qi (fun r2 (_ : Unit) => r2 = r) (fun _ t => wk_X (dC, dI) Y (wX11 Y a zM_g zM_kept M_saved zM_before M_isSaved zM_changes zM_isWithin zM_code M_input zM_length zM_fault zM_failed M_signs M_signMany zM_column zM_loads zM_many M_sums M_groups zM_at zM_told zM_toldMany) A t) A) args s 0 0 A) (F0 m 17 ls []) := by
  obtain ⟨hx, hb, hml, hr, hlocks, hown, hts⟩ := id C0
  intro x1 M_g M_kept M_before M_changes M_isWithin M_code M_length M_fault M_failed M_column M_loads M_many M_at M_told M_toldMany hf H locs hP hD hS ls hl
  rw [f_X11_runScript_L17] at hf
  have hP : va_P (dC, dI) vwCl [(a 0, .inr (11, [.ref (a 1), .ref (a 2), .ref (a 3), .ref (a 4), .int M_isSaved, .int M_changes, .int M_isWithin, .int M_code, .ref (a 5), .int M_length, .int M_fault, .int M_failed, .ref (a 6), .int M_signMany, .ref (a 7), .ref (a 8), .int M_many, .ref (a 9), .ref (a 10), .int M_at, .ref (a 11), .int M_toldMany])), (a 1, .inl (Y 0, 238, .inl M_g)), (a 2, .inl (Y 0, 1904, .inl M_kept)), (a 3, .inl (Y 0, 238, .inl M_saved)), (a 4, .inl (Y 0, 238, .inl M_before)), (a 5, .inl (Y 0, 60, .inl M_input)), (a 6, .inl (Y 2, 100, .inl M_signs)), (a 7, .inl (Y 0, 6, .inl M_column)), (a 8, .inl (Y 0, 6, .inl M_loads)), (a 9, .inl (Y 0, 2048, .inl M_sums)), (a 10, .inl (Y 0, 2048, .inl M_groups)), (a 11, .inl (Y 0, 155, .inl M_told))] H := hP
  have hD : va_D A [(a 0, .inr (11, [.ref (a 1), .ref (a 2), .ref (a 3), .ref (a 4), .int M_isSaved, .int M_changes, .int M_isWithin, .int M_code, .ref (a 5), .int M_length, .int M_fault, .int M_failed, .ref (a 6), .int M_signMany, .ref (a 7), .ref (a 8), .int M_many, .ref (a 9), .ref (a 10), .int M_at, .ref (a 11), .int M_toldMany])), (a 1, .inl (Y 0, 238, .inl M_g)), (a 2, .inl (Y 0, 1904, .inl M_kept)), (a 3, .inl (Y 0, 238, .inl M_saved)), (a 4, .inl (Y 0, 238, .inl M_before)), (a 5, .inl (Y 0, 60, .inl M_input)), (a 6, .inl (Y 2, 100, .inl M_signs)), (a 7, .inl (Y 0, 6, .inl M_column)), (a 8, .inl (Y 0, 6, .inl M_loads)), (a 9, .inl (Y 0, 2048, .inl M_sums)), (a 10, .inl (Y 0, 2048, .inl M_groups)), (a 11, .inl (Y 0, 155, .inl M_told))] := hD
  refine lv_aload_n hx hb dX11_runScript_17 rfl (lv_at hl 0 rfl) ?_
  refine lv_iconst (v := 0) hx hb dX11_runScript_18 (by decide) ?_
  refine va_put (D := (dC, dI)) (ci := 11) (v := .int 0) (ty := .int) (C := RX11) (T := TX11) (N := 22) hx hb hts in_X11_runScript_X11 tyX11 tyX11_ok nmX11 hown hK hP hD hS 0 rfl rfl 9 (by decide) (hts _ lk_X11_runScript_RX11_201) (fun _ h9 => h9) rfl (by decide +kernel) rfl rfl (Nat.le_of_ble_eq_true rfl) dX11_runScript_19 (fun H locs hP hD hS => ?_)
  have hP : va_P (dC, dI) vwCl [(a 0, .inr (11, [.ref (a 1), .ref (a 2), .ref (a 3), .ref (a 4), .int M_isSaved, .int M_changes, .int M_isWithin, .int M_code, .ref (a 5), .int 0, .int M_fault, .int M_failed, .ref (a 6), .int M_signMany, .ref (a 7), .ref (a 8), .int M_many, .ref (a 9), .ref (a 10), .int M_at, .ref (a 11), .int M_toldMany])), (a 1, .inl (Y 0, 238, .inl M_g)), (a 2, .inl (Y 0, 1904, .inl M_kept)), (a 3, .inl (Y 0, 238, .inl M_saved)), (a 4, .inl (Y 0, 238, .inl M_before)), (a 5, .inl (Y 0, 60, .inl M_input)), (a 6, .inl (Y 2, 100, .inl M_signs)), (a 7, .inl (Y 0, 6, .inl M_column)), (a 8, .inl (Y 0, 6, .inl M_loads)), (a 9, .inl (Y 0, 2048, .inl M_sums)), (a 10, .inl (Y 0, 2048, .inl M_groups)), (a 11, .inl (Y 0, 155, .inl M_told))] H := hP
  have hD : va_D A [(a 0, .inr (11, [.ref (a 1), .ref (a 2), .ref (a 3), .ref (a 4), .int M_isSaved, .int M_changes, .int M_isWithin, .int M_code, .ref (a 5), .int 0, .int M_fault, .int M_failed, .ref (a 6), .int M_signMany, .ref (a 7), .ref (a 8), .int M_many, .ref (a 9), .ref (a 10), .int M_at, .ref (a 11), .int M_toldMany])), (a 1, .inl (Y 0, 238, .inl M_g)), (a 2, .inl (Y 0, 1904, .inl M_kept)), (a 3, .inl (Y 0, 238, .inl M_saved)), (a 4, .inl (Y 0, 238, .inl M_before)), (a 5, .inl (Y 0, 60, .inl M_input)), (a 6, .inl (Y 2, 100, .inl M_signs)), (a 7, .inl (Y 0, 6, .inl M_column)), (a 8, .inl (Y 0, 6, .inl M_loads)), (a 9, .inl (Y 0, 2048, .inl M_sums)), (a 10, .inl (Y 0, 2048, .inl M_groups)), (a 11, .inl (Y 0, 155, .inl M_told))] := hD
  refine lv_aload_n hx hb dX11_runScript_22 rfl (lv_at hl 0 rfl) ?_
  refine lv_iload_n hx hb dX11_runScript_23 rfl (lv_at hl 1 rfl) ?_
  refine lv_if_eq (tgt := 31) hx hb dX11_runScript_24 (by decide) (fun q1 => ?_) (fun q1 => ?_)
  · have hf := wk_t hf q1
    refine lv_iconst (v := 1) hx hb dX11_runScript_31 (by decide) ?_
    exact wl_X11_runScript_L32 C0 hK hA hT 1 M_g M_kept M_before M_changes M_isWithin M_code 0 M_fault M_failed M_column M_loads M_many M_at M_told M_toldMany hf H locs hP hD hS ls (lv_sub hl [0] rfl)
  · have hf := wk_f hf q1
    refine lv_iconst (v := 0) hx hb dX11_runScript_27 (by decide) ?_
    refine lv_goto (tgt := 32) hx hb dX11_runScript_28 (by decide) ?_
    exact wl_X11_runScript_L32 C0 hK hA hT 0 M_g M_kept M_before M_changes M_isWithin M_code 0 M_fault M_failed M_column M_loads M_many M_at M_told M_toldMany hf H locs hP hD hS ls (lv_sub hl [0] rfl)
set_option maxHeartbeats 4000000 in
set_option maxRecDepth 100000 in
theorem c_X11_runScript (l : Launch) (dC : Nat → ClassId) (dI : Nat → Nat → Nat) (Y : Nat → ClassId) (g : Nat → Nat → Nat) (a : Nat → Nat) (M_g : Nat → Int32) (M_kept : Nat → Int32) (M_saved : Nat → Int32) (M_before : Nat → Int32) (M_isSaved : Int32) (M_changes : Int32) (M_isWithin : Int32) (M_code : Int32) (M_input : Nat → Int32) (M_length : Int32) (M_fault : Int32) (M_failed : Int32) (M_signs : Nat → Int32) (M_signMany : Int32) (M_column : Nat → Int32) (M_loads : Nat → Int32) (M_many : Int32) (M_sums : Nat → Int32) (M_groups : Nat → Int32) (M_at : Int32) (M_told : Nat → Int32) (M_toldMany : Int32)  (sz : Nat) (r : Int32) (zM_g : Nat → Int32) (zM_kept : Nat → Int32) (zM_before : Nat → Int32) (zM_changes : Int32) (zM_isWithin : Int32) (zM_code : Int32) (zM_length : Int32) (zM_fault : Int32) (zM_failed : Int32) (zM_column : Nat → Int32) (zM_loads : Nat → Int32) (zM_many : Int32) (zM_at : Int32) (zM_told : Nat → Int32) (zM_toldMany : Int32) (hf : f_X11_runScript M_g M_kept M_before M_changes M_isWithin M_code M_input M_length M_fault M_failed M_column M_loads M_many M_at M_told M_toldMany = some (r, zM_g, zM_kept, zM_before, zM_changes, zM_isWithin, zM_code, zM_length, zM_fault, zM_failed, zM_column, zM_loads, zM_many, zM_at, zM_told, zM_toldMany)) : Met l yX11_runScript wsX11_runScript ({ frames := 8, cells := 0, slots := 0, locals := 170 } : Room) (va_Pc [.ref (a 0)] (wk_ET (dC, dI) Y g (wX11 Y a M_g M_kept M_saved M_before M_isSaved M_changes M_isWithin M_code M_input M_length M_fault M_failed M_signs M_signMany M_column M_loads M_many M_sums M_groups M_at M_told M_toldMany) sz)) (va_Qi (fun r2 (_ : Unit) => r2 = r) (fun _ t => wk_X (dC, dI) Y (wX11 Y a zM_g zM_kept M_saved zM_before M_isSaved zM_changes zM_isWithin zM_code M_input zM_length zM_fault zM_failed M_signs M_signMany zM_column zM_loads zM_many M_sums M_groups zM_at zM_told zM_toldMany) (va_A (wX11 Y a M_g M_kept M_saved M_before M_isSaved M_changes M_isWithin M_code M_input M_length M_fault M_failed M_signs M_signMany M_column M_loads M_many M_sums M_groups M_at M_told M_toldMany) sz) t) (va_A (wX11 Y a M_g M_kept M_saved M_before M_isSaved M_changes M_isWithin M_code M_input M_length M_fault M_failed M_signs M_signMany M_column M_loads M_many M_sums M_groups M_at M_told M_toldMany) sz)) 0 0 (va_A (wX11 Y a M_g M_kept M_saved M_before M_isSaved M_changes M_isWithin M_code M_input M_length M_fault M_failed M_signs M_signMany M_column M_loads M_many M_sums M_groups M_at M_told M_toldMany) sz) := by
  refine Met.ofW (cc := cX11_runScript) (maxL := 4) (ret := (some .int)) (by decide) rfl ?_
  intro p e s m args below meth c s₁ B hml hv
  obtain ⟨rfl, ⟨hsz, hP, hK, hD0⟩, hT⟩ := hv
  have hx := B.exec
  have hb := B.bytes
  have hr := B.returns
  have hts := atoms_spec (ws := wsX11_runScript) B.pre
  have hown : s.vm.findClass RX11 = some m.cls := findClass_of_methodNamed B.named
  have hlocks := B.notSynchronized
  have C0 : wk_C p s m _ meth c cX11_runScript 4 (some .int) wsX11_runScript RX11 := ⟨hx, hb, hml, hr, hlocks, hown, hts⟩
  subst hsz
  have hD := hD0.self (sz := s.heap.size)
  generalize hAe : va_A (wX11 Y a M_g M_kept M_saved M_before M_isSaved M_changes M_isWithin M_code M_input M_length M_fault M_failed M_signs M_signMany M_column M_loads M_many M_sums M_groups M_at M_told M_toldMany) s.heap.size = A at hD hT ⊢
  have hA : ∀ q : Nat, s.heap.size ≤ q → A q := fun q h => by rw [← hAe]; exact Or.inr h
  have hS : va_S A s.heap s.heap [] := va_S.rf
  obtain ⟨H, hHe⟩ : ∃ H, H = s.heap := ⟨_, rfl⟩
  have hS : va_S A s.heap H [] := by rw [hHe]; exact hS
  have hP : va_P (dC, dI) vwCl [(a 0, .inr (11, [.ref (a 1), .ref (a 2), .ref (a 3), .ref (a 4), .int M_isSaved, .int M_changes, .int M_isWithin, .int M_code, .ref (a 5), .int M_length, .int M_fault, .int M_failed, .ref (a 6), .int M_signMany, .ref (a 7), .ref (a 8), .int M_many, .ref (a 9), .ref (a 10), .int M_at, .ref (a 11), .int M_toldMany])), (a 1, .inl (Y 0, 238, .inl M_g)), (a 2, .inl (Y 0, 1904, .inl M_kept)), (a 3, .inl (Y 0, 238, .inl M_saved)), (a 4, .inl (Y 0, 238, .inl M_before)), (a 5, .inl (Y 0, 60, .inl M_input)), (a 6, .inl (Y 2, 100, .inl M_signs)), (a 7, .inl (Y 0, 6, .inl M_column)), (a 8, .inl (Y 0, 6, .inl M_loads)), (a 9, .inl (Y 0, 2048, .inl M_sums)), (a 10, .inl (Y 0, 2048, .inl M_groups)), (a 11, .inl (Y 0, 155, .inl M_told))] H := by rw [hHe]; exact hP
  have hD : va_D A [(a 0, .inr (11, [.ref (a 1), .ref (a 2), .ref (a 3), .ref (a 4), .int M_isSaved, .int M_changes, .int M_isWithin, .int M_code, .ref (a 5), .int M_length, .int M_fault, .int M_failed, .ref (a 6), .int M_signMany, .ref (a 7), .ref (a 8), .int M_many, .ref (a 9), .ref (a 10), .int M_at, .ref (a 11), .int M_toldMany])), (a 1, .inl (Y 0, 238, .inl M_g)), (a 2, .inl (Y 0, 1904, .inl M_kept)), (a 3, .inl (Y 0, 238, .inl M_saved)), (a 4, .inl (Y 0, 238, .inl M_before)), (a 5, .inl (Y 0, 60, .inl M_input)), (a 6, .inl (Y 2, 100, .inl M_signs)), (a 7, .inl (Y 0, 6, .inl M_column)), (a 8, .inl (Y 0, 6, .inl M_loads)), (a 9, .inl (Y 0, 2048, .inl M_sums)), (a 10, .inl (Y 0, 2048, .inl M_groups)), (a 11, .inl (Y 0, 155, .inl M_told))] := hD
  obtain ⟨locs, hlo⟩ : ∃ locs : List Loc, locs = [] := ⟨_, rfl⟩
  have hS : va_S A s.heap H locs := by rw [hlo]; exact hS
  have hl := lv_entry ([.ref (a 0)]) (n := 4) (Nat.le_of_ble_eq_true rfl)
  rw [lg_entry_eq]
  generalize (lg_sl ([.ref (a 0)]) ++ List.replicate (4 - (lg_sl ([.ref (a 0)])).length) Slot.unset).toArray = ls at hl ⊢
  have hl : lv_has ls 4 [(0, .ref (a 0))] := hl
  refine wk_start hHe hlo ?_
  rw [f_X11_runScript] at hf
  refine lv_aload_n hx hb dX11_runScript_0 rfl (lv_at hl 0 rfl) ?_
  obtain ⟨r1, w2, w3, w4, hr5, hf⟩ := wkb4_s hf
  refine wk_eviT (As := []) (rest := []) (wc := (wX11 Y a M_g M_kept M_saved M_before M_isSaved M_changes M_isWithin M_code M_input M_length M_fault M_failed M_signs M_signMany M_column M_loads M_many M_sums M_groups M_at M_told M_toldMany)) (w1 := (wX11 Y a M_g M_kept M_saved M_before M_isSaved M_changes M_isWithin M_code M_input M_length M_fault M_failed M_signs M_signMany M_column M_loads M_many M_sums M_groups w2 w3 w4)) (wr := []) ⟨hx, hb, hml, hown, hts⟩ (c_X11_isScript l dC dI Y g a M_g M_kept M_saved M_before M_isSaved M_changes M_isWithin M_code M_input M_length M_fault M_failed M_signs M_signMany M_column M_loads M_many M_sums M_groups M_at M_told M_toldMany H.size r1 w2 w3 w4 hr5) (cwV 0 hts gX11_runScript_X11_isScript rfl rfl rfl (by decide +kernel) ⟨Nat.le_of_ble_eq_true rfl, Nat.le_of_ble_eq_true rfl⟩) hK hP hD hS hA hT [0, 1, 2, 3, 4, 5, 6, 7, 8, 9, 10, 11] [] rfl rfl (by decide) (by decide) (by decide) (va_recv hK hP (ci := 11) (q0 := 0) rfl rfl) rfl hl.1 rfl (Nat.le_of_ble_eq_true rfl) dX11_runScript_1 ⟨Nat.le_of_ble_eq_true rfl, Nat.le_of_ble_eq_true rfl⟩ (fun H locs hP hD hS => ?_)
  have hP : va_P (dC, dI) vwCl [(a 0, .inr (11, [.ref (a 1), .ref (a 2), .ref (a 3), .ref (a 4), .int M_isSaved, .int M_changes, .int M_isWithin, .int M_code, .ref (a 5), .int M_length, .int M_fault, .int M_failed, .ref (a 6), .int M_signMany, .ref (a 7), .ref (a 8), .int M_many, .ref (a 9), .ref (a 10), .int w2, .ref (a 11), .int w4])), (a 1, .inl (Y 0, 238, .inl M_g)), (a 2, .inl (Y 0, 1904, .inl M_kept)), (a 3, .inl (Y 0, 238, .inl M_saved)), (a 4, .inl (Y 0, 238, .inl M_before)), (a 5, .inl (Y 0, 60, .inl M_input)), (a 6, .inl (Y 2, 100, .inl M_signs)), (a 7, .inl (Y 0, 6, .inl M_column)), (a 8, .inl (Y 0, 6, .inl M_loads)), (a 9, .inl (Y 0, 2048, .inl M_sums)), (a 10, .inl (Y 0, 2048, .inl M_groups)), (a 11, .inl (Y 0, 155, .inl w3))] H := hP
  have hD : va_D A [(a 0, .inr (11, [.ref (a 1), .ref (a 2), .ref (a 3), .ref (a 4), .int M_isSaved, .int M_changes, .int M_isWithin, .int M_code, .ref (a 5), .int M_length, .int M_fault, .int M_failed, .ref (a 6), .int M_signMany, .ref (a 7), .ref (a 8), .int M_many, .ref (a 9), .ref (a 10), .int w2, .ref (a 11), .int w4])), (a 1, .inl (Y 0, 238, .inl M_g)), (a 2, .inl (Y 0, 1904, .inl M_kept)), (a 3, .inl (Y 0, 238, .inl M_saved)), (a 4, .inl (Y 0, 238, .inl M_before)), (a 5, .inl (Y 0, 60, .inl M_input)), (a 6, .inl (Y 2, 100, .inl M_signs)), (a 7, .inl (Y 0, 6, .inl M_column)), (a 8, .inl (Y 0, 6, .inl M_loads)), (a 9, .inl (Y 0, 2048, .inl M_sums)), (a 10, .inl (Y 0, 2048, .inl M_groups)), (a 11, .inl (Y 0, 155, .inl w3))] := hD
  refine lv_istore_n (lv' := [(1, .int r1), (0, .ref (a 0))]) hx hb dX11_runScript_4 rfl hl (by decide) rfl (fun ls hl => ?_)
  refine lv_iload_n hx hb dX11_runScript_5 rfl (lv_at hl 0 rfl) ?_
  refine lv_if_ne (tgt := 17) hx hb dX11_runScript_6 (by decide) (fun q7 => ?_) (fun q7 => ?_)
  · have hf := wk_f hf q7
    exact wl_X11_runScript_L17 C0 hK hA hT r1 M_g M_kept M_before M_changes M_isWithin M_code M_length M_fault M_failed M_column M_loads M_many w2 w3 w4 hf H locs hP hD hS ls (lv_sub hl [1, 0] rfl)
  · have hf := wk_t hf q7
    refine lv_aload_n hx hb dX11_runScript_9 rfl (lv_at hl 1 rfl) ?_
    refine lv_aload_n hx hb dX11_runScript_10 rfl (lv_at hl 1 rfl) ?_
    refine va_get (D := (dC, dI)) (ci := 11) (v := .int w2) (C := RX11) (T := TX11) (N := 22) hx hb hts in_X11_runScript_X11 hown hK hP 0 rfl rfl 19 (by decide) (hts _ lk_X11_runScript_RX11_204) (fun _ h9 => h9) rfl dX11_runScript_11 ?_
    refine va_put (D := (dC, dI)) (ci := 11) (v := .int w2) (ty := .int) (C := RX11) (T := TX11) (N := 22) hx hb hts in_X11_runScript_X11 tyX11 tyX11_ok nmX11 hown hK hP hD hS 0 rfl rfl 10 (by decide) (hts _ lk_X11_runScript_RX11_25) (fun _ h9 => h9) rfl (by decide +kernel) rfl rfl (Nat.le_of_ble_eq_true rfl) dX11_runScript_14 (fun H locs hP hD hS => ?_)
    have hP : va_P (dC, dI) vwCl [(a 0, .inr (11, [.ref (a 1), .ref (a 2), .ref (a 3), .ref (a 4), .int M_isSaved, .int M_changes, .int M_isWithin, .int M_code, .ref (a 5), .int M_length, .int w2, .int M_failed, .ref (a 6), .int M_signMany, .ref (a 7), .ref (a 8), .int M_many, .ref (a 9), .ref (a 10), .int w2, .ref (a 11), .int w4])), (a 1, .inl (Y 0, 238, .inl M_g)), (a 2, .inl (Y 0, 1904, .inl M_kept)), (a 3, .inl (Y 0, 238, .inl M_saved)), (a 4, .inl (Y 0, 238, .inl M_before)), (a 5, .inl (Y 0, 60, .inl M_input)), (a 6, .inl (Y 2, 100, .inl M_signs)), (a 7, .inl (Y 0, 6, .inl M_column)), (a 8, .inl (Y 0, 6, .inl M_loads)), (a 9, .inl (Y 0, 2048, .inl M_sums)), (a 10, .inl (Y 0, 2048, .inl M_groups)), (a 11, .inl (Y 0, 155, .inl w3))] H := hP
    have hD : va_D A [(a 0, .inr (11, [.ref (a 1), .ref (a 2), .ref (a 3), .ref (a 4), .int M_isSaved, .int M_changes, .int M_isWithin, .int M_code, .ref (a 5), .int M_length, .int w2, .int M_failed, .ref (a 6), .int M_signMany, .ref (a 7), .ref (a 8), .int M_many, .ref (a 9), .ref (a 10), .int w2, .ref (a 11), .int w4])), (a 1, .inl (Y 0, 238, .inl M_g)), (a 2, .inl (Y 0, 1904, .inl M_kept)), (a 3, .inl (Y 0, 238, .inl M_saved)), (a 4, .inl (Y 0, 238, .inl M_before)), (a 5, .inl (Y 0, 60, .inl M_input)), (a 6, .inl (Y 2, 100, .inl M_signs)), (a 7, .inl (Y 0, 6, .inl M_column)), (a 8, .inl (Y 0, 6, .inl M_loads)), (a 9, .inl (Y 0, 2048, .inl M_sums)), (a 10, .inl (Y 0, 2048, .inl M_groups)), (a 11, .inl (Y 0, 155, .inl w3))] := hD
    exact wl_X11_runScript_L17 C0 hK hA hT r1 M_g M_kept M_before M_changes M_isWithin M_code M_length w2 M_failed M_column M_loads M_many w2 w3 w4 hf H locs hP hD hS ls (lv_sub hl [1, 0] rfl)
