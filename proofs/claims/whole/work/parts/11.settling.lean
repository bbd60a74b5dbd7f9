abbrev wX8 (Y : Nat → ClassId) (a : Nat → Nat) (E_count : Int32) (E_open : Nat → Int32) (E_sums : Nat → Int32) (E_groups : Nat → Int32) (E_transfers : Nat → Int32) : va_W := [(a 0, .inr (8, [.int E_count, .ref (a 1), .ref (a 2), .ref (a 3), .ref (a 4)])), (a 1, .inl (Y 0, 11, .inl E_open)), (a 2, .inl (Y 0, 2048, .inl E_sums)), (a 3, .inl (Y 0, 2048, .inl E_groups)), (a 4, .inl (Y 0, 2048, .inl E_transfers))]
set_option maxHeartbeats 4000000 in
def f_J7_fill_53178_2048_L5 (x1 : Int32) : Nat → Int32 → Int32 → (Nat → Int32) → Option ((Nat → Int32))
  | 0, _, _, _ => none
  | nn + 1, x2, x3, A_row =>
    if x3 ≤ x2 then
      (some (A_row))
    else
      (gin x2 2048 (wkl (upd A_row x2.toNatClampNeg x1) (fun g2 =>
      f_J7_fill_53178_2048_L5 x1 nn (x2 + 1) x3 g2)))
def f_J7_fill_53178_2048 (A_row : Nat → Int32) (x1 : Int32) : Option ((Nat → Int32)) :=
  f_J7_fill_53178_2048_L5 x1 FU 0 2048 A_row
set_option maxRecDepth 100000 in
theorem wl_J7_fill_53178_2048_L5 {p : Program} {l : Launch} {e : Env} {s : State} {m : MethodId} {args : Array Value} {below : List Frame} {meth : Method} {c : Code} {dC : Nat → ClassId} {dI : Nat → Nat → Nat} {Y : Nat → ClassId} {a : Nat → Nat}  {x1 : Int32} {zA_row : Nat → Int32}  (C0 : wk_C p s m args meth c cJ7_fill_53178 4 none wsJ7_fill_53178 RJ7) {A : Nat → Prop} (hK : va_K (dC, dI) vwCl (vTy Y) s) (hA : ∀ q, s.heap.size ≤ q → A q) : ∀ (nn : Nat) (x2 : Int32) (x3 : Int32)  (A_row : Nat → Int32), f_J7_fill_53178_2048_L5 x1 nn x2 x3 A_row = some (zA_row) → ∀ (H : Heap) (locs : List Loc), va_P (dC, dI) vwCl [(a 0, .inl (Y 0, 2048, .inl A_row))] H → va_D A [(a 0, .inl (Y 0, 2048, .inl A_row))] → va_S A s.heap H locs → ∀ (ls : Array Slot), lv_has ls 4 [(0, .ref (a 0)), (1, .int x1), (2, .int x2), (3, .int x3)] → W p l e (headSpec wsJ7_fill_53178 ({ frames := 0, cells := 0, slots := 0, locals := 0 } : Room)).room s m args below meth c H locs 0 0 (MQ below (va_Qv (fun (_ : Unit) => True) (fun _ t => wk_X (dC, dI) Y [(a 0, .inl (Y 0, 2048, .inl zA_row))] A t) A) args s 0 0 A) (F0 m 5 ls []) := by
  have C0 := C0
  obtain ⟨hx, hb, hml, hr, hlocks, hown, hts⟩ := id C0
  intro nn
  induction nn with
  | zero =>
    intro x2 x3 A_row hf
    rw [f_J7_fill_53178_2048_L5] at hf
    cases hf
  | succ nn ih =>
    intro x2 x3 A_row hf H locs hP hD hS ls hl
    rw [f_J7_fill_53178_2048_L5] at hf
    have hP : va_P (dC, dI) vwCl [(a 0, .inl (Y 0, 2048, .inl A_row))] H := hP
    have hD : va_D A [(a 0, .inl (Y 0, 2048, .inl A_row))] := hD
    refine lv_iload_n hx hb dJ7_fill_53178_5 rfl (lv_at hl 2 rfl) ?_
    refine lv_iload_n hx hb dJ7_fill_53178_6 rfl (lv_at hl 3 rfl) ?_
    refine lv_icmp_ge (tgt := 20) hx hb dJ7_fill_53178_7 (by decide) (fun q1 => ?_) (fun q1 => ?_)
    · have hf := wk_t hf q1
      have e0 := wke1 hf
      subst e0
      have hP9 := hP.sub (ws' := [(a 0, .inl (Y 0, 2048, .inl A_row))]) [0] rfl
      have hD9 := hD.sub (ws' := [(a 0, .inl (Y 0, 2048, .inl A_row))]) [0] (by decide) rfl
      exact W.vret hx hb hr (fun t ht hW => ⟨⟨(), rfl, trivial, by rw [ht]; exact hP9, va_K.moved hW.alike hK, hD9⟩, hS.F ht⟩) hS.2.2 dJ7_fill_53178_20
    · have hf := wk_f hf q1
      refine lv_aload_n hx hb dJ7_fill_53178_10 rfl (lv_at hl 0 rfl) ?_
      refine lv_iload_n hx hb dJ7_fill_53178_11 rfl (lv_at hl 2 rfl) ?_
      refine lv_iload_n hx hb dJ7_fill_53178_12 rfl (lv_at hl 1 rfl) ?_
      obtain ⟨h3, hf⟩ := gin_s hf
      refine wk_iast hx hb hK hP hD hS 0 0 (k := x2.toNatClampNeg) rfl rfl h3 rfl dJ7_fill_53178_13 (fun g2 H locs eg2 hP hD hS => ?_)
      have hP : va_P (dC, dI) vwCl [(a 0, .inl (Y 0, 2048, .inl g2))] H := hP
      have hD : va_D A [(a 0, .inl (Y 0, 2048, .inl g2))] := hD
      have hf := wkl_s hf eg2
      refine lv_iinc (v := (x2 + 1)) (lv' := [(2, .int (x2 + 1)), (0, .ref (a 0)), (1, .int x1), (3, .int x3)]) hx hb dJ7_fill_53178_14 hl (k := 2) rfl rfl (by decide) rfl (fun ls hl => ?_)
      refine lv_goto (tgt := 5) hx hb dJ7_fill_53178_17 (by decide) ?_
      exact ih (x2 + 1) x3 g2 hf H locs hP hD hS ls (lv_sub hl [1, 2, 0, 3] rfl)
set_option maxRecDepth 100000 in
theorem c_J7_fill_53178_2048 (l : Launch) (dC : Nat → ClassId) (dI : Nat → Nat → Nat) (Y : Nat → ClassId) (a : Nat → Nat) (A_row : Nat → Int32) (x1 : Int32) (sz : Nat) (zA_row : Nat → Int32) (hf : f_J7_fill_53178_2048 A_row x1 = some (zA_row)) : Met l yJ7_fill_53178 wsJ7_fill_53178 ({ frames := 0, cells := 0, slots := 0, locals := 0 } : Room) (va_Pc [.ref (a 0), .int x1] (wk_E (dC, dI) Y [(a 0, .inl (Y 0, 2048, .inl A_row))] sz)) (va_Qv (fun (_ : Unit) => True) (fun _ t => wk_X (dC, dI) Y [(a 0, .inl (Y 0, 2048, .inl zA_row))] (va_A [(a 0, .inl (Y 0, 2048, .inl A_row))] sz) t) (va_A [(a 0, .inl (Y 0, 2048, .inl A_row))] sz)) 0 0 (va_A [(a 0, .inl (Y 0, 2048, .inl A_row))] sz) := by
  refine Met.ofW (cc := cJ7_fill_53178) (maxL := 4) (ret := none) (by decide) rfl ?_
  intro p e s m args below meth c s₁ B hml hv
  obtain ⟨rfl, hsz, hP, hK, hD0⟩ := hv
  have hx := B.exec
  have hb := B.bytes
  have hr := B.returns
  have hts := atoms_spec (ws := wsJ7_fill_53178) B.pre
  have hown : s.vm.findClass RJ7 = some m.cls := findClass_of_methodNamed B.named
  have hlocks := B.notSynchronized
  have C0 : wk_C p s m _ meth c cJ7_fill_53178 4 none wsJ7_fill_53178 RJ7 := ⟨hx, hb, hml, hr, hlocks, hown, hts⟩
  subst hsz
  have hD := hD0.self (sz := s.heap.size)
  generalize hAe : va_A [(a 0, .inl (Y 0, 2048, .inl A_row))] s.heap.size = A at hD ⊢
  have hA : ∀ q : Nat, s.heap.size ≤ q → A q := fun q h => by rw [← hAe]; exact Or.inr h
  have hS : va_S A s.heap s.heap [] := va_S.rf
  obtain ⟨H, hHe⟩ : ∃ H, H = s.heap := ⟨_, rfl⟩
  have hS : va_S A s.heap H [] := by rw [hHe]; exact hS
  have hP : va_P (dC, dI) vwCl [(a 0, .inl (Y 0, 2048, .inl A_row))] H := by rw [hHe]; exact hP
  have hD : va_D A [(a 0, .inl (Y 0, 2048, .inl A_row))] := hD
  obtain ⟨locs, hlo⟩ : ∃ locs : List Loc, locs = [] := ⟨_, rfl⟩
  have hS : va_S A s.heap H locs := by rw [hlo]; exact hS
  have hl := lv_entry ([.ref (a 0), .int x1]) (n := 4) (Nat.le_of_ble_eq_true rfl)
  rw [lg_entry_eq]
  generalize (lg_sl ([.ref (a 0), .int x1]) ++ List.replicate (4 - (lg_sl ([.ref (a 0), .int x1])).length) Slot.unset).toArray = ls at hl ⊢
  have hl : lv_has ls 4 [(0, .ref (a 0)), (1, .int x1)] := hl
  refine wk_start hHe hlo ?_
  rw [f_J7_fill_53178_2048] at hf
  refine lv_iconst (v := 0) hx hb dJ7_fill_53178_0 (by decide) ?_
  refine lv_istore_n (lv' := [(2, .int 0), (0, .ref (a 0)), (1, .int x1)]) hx hb dJ7_fill_53178_1 rfl hl (by decide) rfl (fun ls hl => ?_)
  refine lv_aload_n hx hb dJ7_fill_53178_2 rfl (lv_at hl 1 rfl) ?_
  refine va_alen (D := (dC, dI)) (v := 2048) hx hb hK hP 0 0 rfl rfl (show Int32.ofNat 2048 = 2048 by decide) dJ7_fill_53178_3 ?_
  refine lv_istore_n (lv' := [(3, .int 2048), (2, .int 0), (0, .ref (a 0)), (1, .int x1)]) hx hb dJ7_fill_53178_4 rfl hl (by decide) rfl (fun ls hl => ?_)
  exact wl_J7_fill_53178_2048_L5 C0 hK hA FU 0 2048 A_row hf H locs hP hD hS ls (lv_sub hl [2, 3, 1, 0] rfl)
set_option maxHeartbeats 4000000 in
set_option maxHeartbeats 4000000 in
theorem lk_X8_takeOpenBalances_RX8_9 : Cond.fieldLink RX8 9 "CircusLedger$Settling" "open" "[I" ∈ wsX8_takeOpenBalances := by decide +kernel
theorem lk_X8_takeOpenBalances_RX8_15 : Cond.fieldLink RX8 15 "CircusLedger$Settling" "sums" "[I" ∈ wsX8_takeOpenBalances := by decide +kernel
theorem lk_X8_takeOpenBalances_RX8_28 : Cond.fieldLink RX8 28 "CircusLedger$Settling" "count" "I" ∈ wsX8_takeOpenBalances := by decide +kernel
theorem lk_X8_takeOpenBalances_RX8_46 : Cond.fieldLink RX8 46 "CircusLedger$Books" "accounts" "I" ∈ wsX8_takeOpenBalances := by decide +kernel
theorem lk_X8_takeOpenBalances_RX8_51 : Cond.fieldLink RX8 51 "CircusLedger$Books" "balances" "[I" ∈ wsX8_takeOpenBalances := by decide +kernel
theorem in_X8_takeOpenBalances_X2 : ∀ w ∈ u_ws RX2 TX2 7, w ∈ wsX8_takeOpenBalances := by decide +kernel
theorem in_X8_takeOpenBalances_X8 : ∀ w ∈ u_ws RX8 TX8 5, w ∈ wsX8_takeOpenBalances := by decide +kernel
def f_X8_takeOpenBalances_L67 (B_accounts : Int32) (B_balances : Nat → Int32) (K57 : Int32 → Int32 → (Nat → Int32) → (Nat → Int32) → Option (Int32 × (Nat → Int32) × (Nat → Int32))) : Nat → Int32 → Int32 → Int32 → (Nat → Int32) → (Nat → Int32) → Option (Int32 × (Nat → Int32) × (Nat → Int32))
  | 0, _, _, _, _, _ => none
  | nn + 1, x2, x3, E_count, E_open, E_sums =>
    if ((1 : Int32) <<< (x2 &&& 31)) ≤ x3 then
      (K57 (x2 + 1) E_count E_open E_sums)
    else
      (gin x3 2048 (gin x2 11 (gin (x3 ||| ((1 : Int32) <<< (x2 &&& 31))) 2048 (wkl (upd E_sums ((x3 ||| ((1 : Int32) <<< (x2 &&& 31))).toNatClampNeg) ((E_sums x3.toNatClampNeg) + (E_open x2.toNatClampNeg))) (fun g4 =>
      f_X8_takeOpenBalances_L67 B_accounts B_balances K57 nn x2 (x3 + 1) E_count E_open g4)))))
def f_X8_takeOpenBalances_L57 (B_accounts : Int32) (B_balances : Nat → Int32) : Nat → Int32 → Int32 → (Nat → Int32) → (Nat → Int32) → Option (Int32 × (Nat → Int32) × (Nat → Int32))
  | 0, _, _, _, _ => none
  | nn + 1, x2, E_count, E_open, E_sums =>
    if E_count ≤ x2 then
      (some (E_count, E_open, E_sums))
    else
      (f_X8_takeOpenBalances_L67 B_accounts B_balances (f_X8_takeOpenBalances_L57 B_accounts B_balances nn) FU x2 0 E_count E_open E_sums)
def f_X8_takeOpenBalances_L7 (B_accounts : Int32) (B_balances : Nat → Int32) : Nat → Int32 → Int32 → (Nat → Int32) → (Nat → Int32) → Option (Int32 × (Nat → Int32) × (Nat → Int32))
  | 0, _, _, _, _ => none
  | nn + 1, x2, E_count, E_open, E_sums =>
    if B_accounts ≤ x2 then
      (f_X8_takeOpenBalances_L57 B_accounts B_balances FU 0 E_count E_open E_sums)
    else
      (gin x2 11 (if (B_balances x2.toNatClampNeg) = 0 then
        (f_X8_takeOpenBalances_L7 B_accounts B_balances nn (x2 + 1) E_count E_open E_sums)
      else
        (gin x2 11 (gin E_count 11 (wkl (upd E_open E_count.toNatClampNeg (B_balances x2.toNatClampNeg)) (fun g5 =>
        wkl ((E_count + 1)) (fun v7 =>
        f_X8_takeOpenBalances_L7 B_accounts B_balances nn (x2 + 1) v7 g5 E_sums)))))))
def f_X8_takeOpenBalances (E_count : Int32) (E_open : Nat → Int32) (E_sums : Nat → Int32) (B_accounts : Int32) (B_balances : Nat → Int32) : Option (Int32 × (Nat → Int32) × (Nat → Int32)) :=
  f_X8_takeOpenBalances_L7 B_accounts B_balances FU 0 0 E_open E_sums
set_option maxHeartbeats 4000000 in
set_option maxRecDepth 100000 in
theorem wl_X8_takeOpenBalances_L67 {p : Program} {l : Launch} {e : Env} {s : State} {m : MethodId} {args : Array Value} {below : List Frame} {meth : Method} {c : Code} {dC : Nat → ClassId} {dI : Nat → Nat → Nat} {Y : Nat → ClassId} {a : Nat → Nat} {b : Nat → Nat} {E_groups : Nat → Int32} {E_transfers : Nat → Int32} {B_accounts : Int32} {B_balances : Nat → Int32} {B_balancesAtClosing : Nat → Int32} {B_entries : Int32} {B_debited : Nat → Int32} {B_credited : Nat → Int32} {B_amounts : Nat → Int32}  {zE_count : Int32} {zE_open : Nat → Int32} {zE_sums : Nat → Int32} {K57 : Int32 → Int32 → (Nat → Int32) → (Nat → Int32) → Option (Int32 × (Nat → Int32) × (Nat → Int32))} (C0 : wk_C p s m args meth c cX8_takeOpenBalances 4 none wsX8_takeOpenBalances RX8) {A : Nat → Prop} (hK : va_K (dC, dI) vwCl (vTy Y) s) (hA : ∀ q, s.heap.size ≤ q → A q) (hK57 : ∀ (x2 : Int32) (E_count : Int32) (E_open : Nat → Int32) (E_sums : Nat → Int32), K57 x2 E_count E_open E_sums = some (zE_count, zE_open, zE_sums) → ∀ (H : Heap) (locs : List Loc), va_P (dC, dI) vwCl ((wX8 Y a E_count E_open E_sums E_groups E_transfers) ++ (wX2 Y b B_accounts B_balances B_balancesAtClosing B_entries B_debited B_credited B_amounts)) H → va_D A ((wX8 Y a E_count E_open E_sums E_groups E_transfers) ++ (wX2 Y b B_accounts B_balances B_balancesAtClosing B_entries B_debited B_credited B_amounts)) → va_S A s.heap H locs → ∀ (ls : Array Slot), lv_has ls 4 [(0, .ref (a 0)), (2, .int x2)] → W p l e (headSpec wsX8_takeOpenBalances ({ frames := 0, cells := 0, slots := 0, locals := 0 } : Room)).room s m args below meth c H locs 0 0 (MQ below (va_Qv (fun (_ : Unit) => True) (fun _ t => wk_X (dC, dI) Y ((wX8 Y a zE_count zE_open zE_sums E_groups E_transfers) ++ (wX2 Y b B_accounts B_balances B_balancesAtClosing B_entries B_debited B_credited B_amounts)) A t) A) args s 0 0 A) (F0 m 57 ls [])) : ∀ (nn : Nat) (x2 : Int32) (x3 : Int32)  (E_count : Int32) (E_open : Nat → Int32) (E_sums : Nat → Int32), f_X8_takeOpenBalances_L67 B_accounts B_balances K57 nn x2 x3 E_count E_open E_sums = some (zE_count, zE_open, zE_sums) → ∀ (H : Heap) (locs : List Loc), va_P (dC, dI) vwCl ((wX8 Y a E_count E_open E_sums E_groups E_transfers) ++ (wX2 Y b B_accounts B_balances B_balancesAtClosing B_entries B_debited B_credited B_amounts)) H → va_D A ((wX8 Y a E_count E_open E_sums E_groups E_transfers) ++ (wX2 Y b B_accounts B_balances B_balancesAtClosing B_entries B_debited B_credited B_amounts)) → va_S A s.heap H locs → ∀ (ls : Array Slot), lv_has ls 4 [(0, .ref (a 0)), (2, .int x2), (3, .int x3)] → W p l e (headSpec wsX8_takeOpenBalances ({ frames := 0, cells := 0, slots := 0, locals := 0 } : Room)).room s m args below meth c H locs 0 0 (MQ below (va_Qv (fun (_ : Unit) => True) (fun _ t => wk_X (dC, dI) Y ((wX8 Y a zE_count zE_open zE_sums E_groups E_transfers) ++ (wX2 Y b B_accounts B_balances B_balancesAtClosing B_entries B_debited B_credited B_amounts)) A t) A) args s 0 0 A) (F0 m 67 ls []) := by
  have C0 := C0
  obtain ⟨hx, hb, hml, hr, hlocks, hown, hts⟩ := id C0
  intro nn
  induction nn with
  | zero =>
    intro x2 x3 E_count E_open E_sums hf
    rw [f_X8_takeOpenBalances_L67] at hf
    cases hf
  | succ nn ih =>
    intro x2 x3 E_count E_open E_sums hf H locs hP hD hS ls hl
    rw [f_X8_takeOpenBalances_L67] at hf
    have hP : va_P (dC, dI) vwCl [(a 0, .inr (8, [.int E_count, .ref (a 1), .ref (a 2), .ref (a 3), .ref (a 4)])), (a 1, .inl (Y 0, 11, .inl E_open)), (a 2, .inl (Y 0, 2048, .inl E_sums)), (a 3, .inl (Y 0, 2048, .inl E_groups)), (a 4, .inl (Y 0, 2048, .inl E_transfers)), (b 0, .inr (4, [.int B_accounts, .ref (b 1), .ref (b 2), .int B_entries, .ref (b 3), .ref (b 4), .ref (b 5)])), (b 1, .inl (Y 0, 11, .inl B_balances)), (b 2, .inl (Y 0, 11, .inl B_balancesAtClosing)), (b 3, .inl (Y 0, 60, .inl B_debited)), (b 4, .inl (Y 0, 60, .inl B_credited)), (b 5, .inl (Y 0, 60, .inl B_amounts))] H := hP
    have hD : va_D A [(a 0, .inr (8, [.int E_count, .ref (a 1), .ref (a 2), .ref (a 3), .ref (a 4)])), (a 1, .inl (Y 0, 11, .inl E_open)), (a 2, .inl (Y 0, 2048, .inl E_sums)), (a 3, .inl (Y 0, 2048, .inl E_groups)), (a 4, .inl (Y 0, 2048, .inl E_transfers)), (b 0, .inr (4, [.int B_accounts, .ref (b 1), .ref (b 2), .int B_entries, .ref (b 3), .ref (b 4), .ref (b 5)])), (b 1, .inl (Y 0, 11, .inl B_balances)), (b 2, .inl (Y 0, 11, .inl B_balancesAtClosing)), (b 3, .inl (Y 0, 60, .inl B_debited)), (b 4, .inl (Y 0, 60, .inl B_credited)), (b 5, .inl (Y 0, 60, .inl B_amounts))] := hD
    refine lv_iload_n hx hb dX8_takeOpenBalances_67 rfl (lv_at hl 2 rfl) ?_
    refine lv_iconst (v := 1) hx hb dX8_takeOpenBalances_68 (by decide) ?_
    refine lv_iload_n hx hb dX8_takeOpenBalances_69 rfl (lv_at hl 1 rfl) ?_
    refine lv_ishl hx hb dX8_takeOpenBalances_70 ?_
    refine lv_icmp_ge (tgt := 103) hx hb dX8_takeOpenBalances_71 (by decide) (fun q1 => ?_) (fun q1 => ?_)
    · have hf := wk_t hf q1
      refine lv_iinc (v := (x2 + 1)) (lv' := [(2, .int (x2 + 1)), (0, .ref (a 0)), (3, .int x3)]) hx hb dX8_takeOpenBalances_103 hl (k := 1) rfl rfl (by decide) rfl (fun ls hl => ?_)
      refine lv_goto (tgt := 57) hx hb dX8_takeOpenBalances_106 (by decide) ?_
      exact hK57 (x2 + 1) E_count E_open E_sums hf H locs hP hD hS ls (lv_sub hl [1, 0] rfl)
    · have hf := wk_f hf q1
      refine lv_aload_n hx hb dX8_takeOpenBalances_74 rfl (lv_at hl 0 rfl) ?_
      refine va_get (D := (dC, dI)) (ci := 8) (v := .ref (a 2)) (C := RX8) (T := TX8) (N := 5) hx hb hts in_X8_takeOpenBalances_X8 hown hK hP 0 rfl rfl 2 (by decide) (hts _ lk_X8_takeOpenBalances_RX8_15) (fun _ h9 => h9) rfl dX8_takeOpenBalances_75 ?_
      refine lv_iload_n hx hb dX8_takeOpenBalances_78 rfl (lv_at hl 2 rfl) ?_
      refine lv_iconst (v := 1) hx hb dX8_takeOpenBalances_79 (by decide) ?_
      refine lv_iload_n hx hb dX8_takeOpenBalances_80 rfl (lv_at hl 1 rfl) ?_
      refine lv_ishl hx hb dX8_takeOpenBalances_81 ?_
      refine lv_ior hx hb dX8_takeOpenBalances_82 ?_
      refine lv_aload_n hx hb dX8_takeOpenBalances_83 rfl (lv_at hl 0 rfl) ?_
      refine va_get (D := (dC, dI)) (ci := 8) (v := .ref (a 2)) (C := RX8) (T := TX8) (N := 5) hx hb hts in_X8_takeOpenBalances_X8 hown hK hP 0 rfl rfl 2 (by decide) (hts _ lk_X8_takeOpenBalances_RX8_15) (fun _ h9 => h9) rfl dX8_takeOpenBalances_84 ?_
      refine lv_iload_n hx hb dX8_takeOpenBalances_87 rfl (lv_at hl 2 rfl) ?_
      obtain ⟨h2, hf⟩ := gin_s hf
      refine wk_iald hx hb hK hP 2 0 rfl rfl h2 rfl dX8_takeOpenBalances_88 ?_
      refine lv_aload_n hx hb dX8_takeOpenBalances_89 rfl (lv_at hl 0 rfl) ?_
      refine va_get (D := (dC, dI)) (ci := 8) (v := .ref (a 1)) (C := RX8) (T := TX8) (N := 5) hx hb hts in_X8_takeOpenBalances_X8 hown hK hP 0 rfl rfl 1 (by decide) (hts _ lk_X8_takeOpenBalances_RX8_9) (fun _ h9 => h9) rfl dX8_takeOpenBalances_90 ?_
      refine lv_iload_n hx hb dX8_takeOpenBalances_93 rfl (lv_at hl 1 rfl) ?_
      obtain ⟨h3, hf⟩ := gin_s hf
      refine wk_iald hx hb hK hP 1 0 rfl rfl h3 rfl dX8_takeOpenBalances_94 ?_
      refine lv_iadd hx hb dX8_takeOpenBalances_95 ?_
      obtain ⟨h5, hf⟩ := gin_s hf
      refine wk_iast hx hb hK hP hD hS 2 0 (k := (x3 ||| ((1 : Int32) <<< (x2 &&& 31))).toNatClampNeg) rfl rfl h5 rfl dX8_takeOpenBalances_96 (fun g4 H locs eg4 hP hD hS => ?_)
      have hP : va_P (dC, dI) vwCl [(a 0, .inr (8, [.int E_count, .ref (a 1), .ref (a 2), .ref (a 3), .ref (a 4)])), (a 1, .inl (Y 0, 11, .inl E_open)), (a 2, .inl (Y 0, 2048, .inl g4)), (a 3, .inl (Y 0, 2048, .inl E_groups)), (a 4, .inl (Y 0, 2048, .inl E_transfers)), (b 0, .inr (4, [.int B_accounts, .ref (b 1), .ref (b 2), .int B_entries, .ref (b 3), .ref (b 4), .ref (b 5)])), (b 1, .inl (Y 0, 11, .inl B_balances)), (b 2, .inl (Y 0, 11, .inl B_balancesAtClosing)), (b 3, .inl (Y 0, 60, .inl B_debited)), (b 4, .inl (Y 0, 60, .inl B_credited)), (b 5, .inl (Y 0, 60, .inl B_amounts))] H := hP
      have hD : va_D A [(a 0, .inr (8, [.int E_count, .ref (a 1), .ref (a 2), .ref (a 3), .ref (a 4)])), (a 1, .inl (Y 0, 11, .inl E_open)), (a 2, .inl (Y 0, 2048, .inl g4)), (a 3, .inl (Y 0, 2048, .inl E_groups)), (a 4, .inl (Y 0, 2048, .inl E_transfers)), (b 0, .inr (4, [.int B_accounts, .ref (b 1), .ref (b 2), .int B_entries, .ref (b 3), .ref (b 4), .ref (b 5)])), (b 1, .inl (Y 0, 11, .inl B_balances)), (b 2, .inl (Y 0, 11, .inl B_balancesAtClosing)), (b 3, .inl (Y 0, 60, .inl B_debited)), (b 4, .inl (Y 0, 60, .inl B_credited)), (b 5, .inl (Y 0, 60, .inl B_amounts))] := hD
      have hf := wkl_s hf eg4
      refine lv_iinc (v := (x3 + 1)) (lv' := [(3, .int (x3 + 1)), (0, .ref (a 0)), (2, .int x2)]) hx hb dX8_takeOpenBalances_97 hl (k := 2) rfl rfl (by decide) rfl (fun ls hl => ?_)
      refine lv_goto (tgt := 67) hx hb dX8_takeOpenBalances_100 (by decide) ?_
      exact ih x2 (x3 + 1) E_count E_open g4 hf H locs hP hD hS ls (lv_sub hl [1, 2, 0] rfl)
set_option maxHeartbeats 4000000 in
set_option maxRecDepth 100000 in
theorem wl_X8_takeOpenBalances_L57 {p : Program} {l : Launch} {e : Env} {s : State} {m : MethodId} {args : Array Value} {below : List Frame} {meth : Method} {c : Code} {dC : Nat → ClassId} {dI : Nat → Nat → Nat} {Y : Nat → ClassId} {a : Nat → Nat} {b : Nat → Nat} {E_groups : Nat → Int32} {E_transfers : Nat → Int32} {B_accounts : Int32} {B_balances : Nat → Int32} {B_balancesAtClosing : Nat → Int32} {B_entries : Int32} {B_debited : Nat → Int32} {B_credited : Nat → Int32} {B_amounts : Nat → Int32}  {zE_count : Int32} {zE_open : Nat → Int32} {zE_sums : Nat → Int32}  (C0 : wk_C p s m args meth c cX8_takeOpenBalances 4 none wsX8_takeOpenBalances RX8) {A : Nat → Prop} (hK : va_K (dC, dI) vwCl (vTy Y) s) (hA : ∀ q, s.heap.size ≤ q → A q) : ∀ (nn : Nat) (x2 : Int32)  (E_count : Int32) (E_open : Nat → Int32) (E_sums : Nat → Int32), f_X8_takeOpenBalances_L57 B_accounts B_balances nn x2 E_count E_open E_sums = some (zE_count, zE_open, zE_sums) → ∀ (H : Heap) (locs : List Loc), va_P (dC, dI) vwCl ((wX8 Y a E_count E_open E_sums E_groups E_transfers) ++ (wX2 Y b B_accounts B_balances B_balancesAtClosing B_entries B_debited B_credited B_amounts)) H → va_D A ((wX8 Y a E_count E_open E_sums E_groups E_transfers) ++ (wX2 Y b B_accounts B_balances B_balancesAtClosing B_entries B_debited B_credited B_amounts)) → va_S A s.heap H locs → ∀ (ls : Array Slot), lv_has ls 4 [(0, .ref (a 0)), (2, .int x2)] → W p l e (headSpec wsX8_takeOpenBalances ({ frames := 0, cells := 0, slots := 0, locals := 0 } : Room)).room s m args below meth c H locs 0 0 (MQ below (va_Qv (fun (_ : Unit) => True) (fun _ t => wk_X (dC, dI) Y ((wX8 Y a zE_count zE_open zE_sums E_groups E_transfers) ++ (wX2 Y b B_accounts B_balances B_balancesAtClosing B_entries B_debited B_credited B_amounts)) A t) A) args s 0 0 A) (F0 m 57 ls []) := by
  have C0 := C0
  obtain ⟨hx, hb, hml, hr, hlocks, hown, hts⟩ := id C0
  intro nn
  induction nn with
  | zero =>
    intro x2 E_count E_open E_sums hf
    rw [f_X8_takeOpenBalances_L57] at hf
    cases hf
  | succ nn ih =>
    intro x2 E_count E_open E_sums hf H locs hP hD hS ls hl
    rw [f_X8_takeOpenBalances_L57] at hf
    have hP : va_P (dC, dI) vwCl [(a 0, .inr (8, [.int E_count, .ref (a 1), .ref (a 2), .ref (a 3), .ref (a 4)])), (a 1, .inl (Y 0, 11, .inl E_open)), (a 2, .inl (Y 0, 2048, .inl E_sums)), (a 3, .inl (Y 0, 2048, .inl E_groups)), (a 4, .inl (Y 0, 2048, .inl E_transfers)), (b 0, .inr (4, [.int B_accounts, .ref (b 1), .ref (b 2), .int B_entries, .ref (b 3), .ref (b 4), .ref (b 5)])), (b 1, .inl (Y 0, 11, .inl B_balances)), (b 2, .inl (Y 0, 11, .inl B_balancesAtClosing)), (b 3, .inl (Y 0, 60, .inl B_debited)), (b 4, .inl (Y 0, 60, .inl B_credited)), (b 5, .inl (Y 0, 60, .inl B_amounts))] H := hP
    have hD : va_D A [(a 0, .inr (8, [.int E_count, .ref (a 1), .ref (a 2), .ref (a 3), .ref (a 4)])), (a 1, .inl (Y 0, 11, .inl E_open)), (a 2, .inl (Y 0, 2048, .inl E_sums)), (a 3, .inl (Y 0, 2048, .inl E_groups)), (a 4, .inl (Y 0, 2048, .inl E_transfers)), (b 0, .inr (4, [.int B_accounts, .ref (b 1), .ref (b 2), .int B_entries, .ref (b 3), .ref (b 4), .ref (b 5)])), (b 1, .inl (Y 0, 11, .inl B_balances)), (b 2, .inl (Y 0, 11, .inl B_balancesAtClosing)), (b 3, .inl (Y 0, 60, .inl B_debited)), (b 4, .inl (Y 0, 60, .inl B_credited)), (b 5, .inl (Y 0, 60, .inl B_amounts))] := hD
    refine lv_iload_n hx hb dX8_takeOpenBalances_57 rfl (lv_at hl 1 rfl) ?_
    refine lv_aload_n hx hb dX8_takeOpenBalances_58 rfl (lv_at hl 0 rfl) ?_
    refine va_get (D := (dC, dI)) (ci := 8) (v := .int E_count) (C := RX8) (T := TX8) (N := 5) hx hb hts in_X8_takeOpenBalances_X8 hown hK hP 0 rfl rfl 0 (by decide) (hts _ lk_X8_takeOpenBalances_RX8_28) (fun _ h9 => h9) rfl dX8_takeOpenBalances_59 ?_
    refine lv_icmp_ge (tgt := 109) hx hb dX8_takeOpenBalances_62 (by decide) (fun q1 => ?_) (fun q1 => ?_)
    · have hf := wk_t hf q1
      obtain ⟨e0, e1, e2⟩ := wke3 hf
      subst e0
      subst e1
      subst e2
      have hP9 := hP.sub (ws' := ((wX8 Y a E_count E_open E_sums E_groups E_transfers) ++ (wX2 Y b B_accounts B_balances B_balancesAtClosing B_entries B_debited B_credited B_amounts))) [0, 1, 2, 3, 4, 5, 6, 7, 8, 9, 10] rfl
      have hD9 := hD.sub (ws' := ((wX8 Y a E_count E_open E_sums E_groups E_transfers) ++ (wX2 Y b B_accounts B_balances B_balancesAtClosing B_entries B_debited B_credited B_amounts))) [0, 1, 2, 3, 4, 5, 6, 7, 8, 9, 10] (by decide) rfl
      exact W.vret hx hb hr (fun t ht hW => ⟨⟨(), rfl, trivial, by rw [ht]; exact hP9, va_K.moved hW.alike hK, hD9⟩, hS.F ht⟩) hS.2.2 dX8_takeOpenBalances_109
    · have hf := wk_f hf q1
      refine lv_iconst (v := 0) hx hb dX8_takeOpenBalances_65 (by decide) ?_
      refine lv_istore_n (lv' := [(3, .int 0), (0, .ref (a 0)), (2, .int x2)]) hx hb dX8_takeOpenBalances_66 rfl hl (by decide) rfl (fun ls hl => ?_)
      exact wl_X8_takeOpenBalances_L67 C0 hK hA ih FU x2 0 E_count E_open E_sums hf H locs hP hD hS ls (lv_sub hl [1, 2, 0] rfl)
set_option maxHeartbeats 4000000 in
set_option maxRecDepth 100000 in
theorem wl_X8_takeOpenBalances_L7 {p : Program} {l : Launch} {e : Env} {s : State} {m : MethodId} {args : Array Value} {below : List Frame} {meth : Method} {c : Code} {dC : Nat → ClassId} {dI : Nat → Nat → Nat} {Y : Nat → ClassId} {a : Nat → Nat} {b : Nat → Nat} {E_groups : Nat → Int32} {E_transfers : Nat → Int32} {B_accounts : Int32} {B_balances : Nat → Int32} {B_balancesAtClosing : Nat → Int32} {B_entries : Int32} {B_debited : Nat → Int32} {B_credited : Nat → Int32} {B_amounts : Nat → Int32}  {zE_count : Int32} {zE_open : Nat → Int32} {zE_sums : Nat → Int32}  (C0 : wk_C p s m args meth c cX8_takeOpenBalances 4 none wsX8_takeOpenBalances RX8) {A : Nat → Prop} (hK : va_K (dC, dI) vwCl (vTy Y) s) (hA : ∀ q, s.heap.size ≤ q → A q) : ∀ (nn : Nat) (x2 : Int32)  (E_count : Int32) (E_open : Nat → Int32) (E_sums : Nat → Int32), f_X8_takeOpenBalances_L7 B_accounts B_balances nn x2 E_count E_open E_sums = some (zE_count, zE_open, zE_sums) → ∀ (H : Heap) (locs : List Loc), va_P (dC, dI) vwCl ((wX8 Y a E_count E_open E_sums E_groups E_transfers) ++ (wX2 Y b B_accounts B_balances B_balancesAtClosing B_entries B_debited B_credited B_amounts)) H → va_D A ((wX8 Y a E_count E_open E_sums E_groups E_transfers) ++ (wX2 Y b B_accounts B_balances B_balancesAtClosing B_entries B_debited B_credited B_amounts)) → va_S A s.heap H locs → ∀ (ls : Array Slot), lv_has ls 4 [(0, .ref (a 0)), (1, .ref (b 0)), (2, .int x2)] → W p l e (headSpec wsX8_takeOpenBalances ({ frames := 0, cells := 0, slots := 0, locals := 0 } : Room)).room s m args below meth c H locs 0 0 (MQ below (va_Qv (fun (_ : Unit) => True) (fun _ t => wk_X (dC, dI) Y ((wX8 Y a zE_count zE_open zE_sums E_groups E_transfers) ++ (wX2 Y b B_accounts B_balances B_balancesAtClosing B_entries B_debited B_credited B_amounts)) A t) A) args s 0 0 A) (F0 m 7 ls []) := by
  have C0 := C0
  obtain ⟨hx, hb, hml, hr, hlocks, hown, hts⟩ := id C0
  intro nn
  induction nn with
  | zero =>
    intro x2 E_count E_open E_sums hf
    rw [f_X8_takeOpenBalances_L7] at hf
    cases hf
  | succ nn ih =>
    intro x2 E_count E_open E_sums hf H locs hP hD hS ls hl
    rw [f_X8_takeOpenBalances_L7] at hf
    have hP : va_P (dC, dI) vwCl [(a 0, .inr (8, [.int E_count, .ref (a 1), .ref (a 2), .ref (a 3), .ref (a 4)])), (a 1, .inl (Y 0, 11, .inl E_open)), (a 2, .inl (Y 0, 2048, .inl E_sums)), (a 3, .inl (Y 0, 2048, .inl E_groups)), (a 4, .inl (Y 0, 2048, .inl E_transfers)), (b 0, .inr (4, [.int B_accounts, .ref (b 1), .ref (b 2), .int B_entries, .ref (b 3), .ref (b 4), .ref (b 5)])), (b 1, .inl (Y 0, 11, .inl B_balances)), (b 2, .inl (Y 0, 11, .inl B_balancesAtClosing)), (b 3, .inl (Y 0, 60, .inl B_debited)), (b 4, .inl (Y 0, 60, .inl B_credited)), (b 5, .inl (Y 0, 60, .inl B_amounts))] H := hP
    have hD : va_D A [(a 0, .inr (8, [.int E_count, .ref (a 1), .ref (a 2), .ref (a 3), .ref (a 4)])), (a 1, .inl (Y 0, 11, .inl E_open)), (a 2, .inl (Y 0, 2048, .inl E_sums)), (a 3, .inl (Y 0, 2048, .inl E_groups)), (a 4, .inl (Y 0, 2048, .inl E_transfers)), (b 0, .inr (4, [.int B_accounts, .ref (b 1), .ref (b 2), .int B_entries, .ref (b 3), .ref (b 4), .ref (b 5)])), (b 1, .inl (Y 0, 11, .inl B_balances)), (b 2, .inl (Y 0, 11, .inl B_balancesAtClosing)), (b 3, .inl (Y 0, 60, .inl B_debited)), (b 4, .inl (Y 0, 60, .inl B_credited)), (b 5, .inl (Y 0, 60, .inl B_amounts))] := hD
    refine lv_iload_n hx hb dX8_takeOpenBalances_7 rfl (lv_at hl 2 rfl) ?_
    refine lv_aload_n hx hb dX8_takeOpenBalances_8 rfl (lv_at hl 1 rfl) ?_
    refine va_get (D := (dC, dI)) (ci := 4) (v := .int B_accounts) (C := RX2) (T := TX2) (N := 7) hx hb hts in_X8_takeOpenBalances_X2 hown hK hP 5 rfl rfl 0 (by decide) (hts _ lk_X8_takeOpenBalances_RX8_46) (fun _ h9 => h9) rfl dX8_takeOpenBalances_9 ?_
    refine lv_icmp_ge (tgt := 55) hx hb dX8_takeOpenBalances_12 (by decide) (fun q1 => ?_) (fun q1 => ?_)
    · have hf := wk_t hf q1
      refine lv_iconst (v := 0) hx hb dX8_takeOpenBalances_55 (by decide) ?_
      refine lv_istore_n (lv' := [(2, .int 0), (0, .ref (a 0)), (1, .ref (b 0))]) hx hb dX8_takeOpenBalances_56 rfl hl (by decide) rfl (fun ls hl => ?_)
      exact wl_X8_takeOpenBalances_L57 C0 hK hA FU 0 E_count E_open E_sums hf H locs hP hD hS ls (lv_sub hl [1, 0] rfl)
    · have hf := wk_f hf q1
      refine lv_aload_n hx hb dX8_takeOpenBalances_15 rfl (lv_at hl 1 rfl) ?_
      refine va_get (D := (dC, dI)) (ci := 4) (v := .ref (b 1)) (C := RX2) (T := TX2) (N := 7) hx hb hts in_X8_takeOpenBalances_X2 hown hK hP 5 rfl rfl 1 (by decide) (hts _ lk_X8_takeOpenBalances_RX8_51) (fun _ h9 => h9) rfl dX8_takeOpenBalances_16 ?_
      refine lv_iload_n hx hb dX8_takeOpenBalances_19 rfl (lv_at hl 2 rfl) ?_
      obtain ⟨h2, hf⟩ := gin_s hf
      refine wk_iald hx hb hK hP 6 0 rfl rfl h2 rfl dX8_takeOpenBalances_20 ?_
      refine lv_if_eq (tgt := 49) hx hb dX8_takeOpenBalances_21 (by decide) (fun q3 => ?_) (fun q3 => ?_)
      · have hf := wk_t hf q3
        refine lv_iinc (v := (x2 + 1)) (lv' := [(2, .int (x2 + 1)), (0, .ref (a 0)), (1, .ref (b 0))]) hx hb dX8_takeOpenBalances_49 hl (k := 2) rfl rfl (by decide) rfl (fun ls hl => ?_)
        refine lv_goto (tgt := 7) hx hb dX8_takeOpenBalances_52 (by decide) ?_
        exact ih (x2 + 1) E_count E_open E_sums hf H locs hP hD hS ls (lv_sub hl [1, 2, 0] rfl)
      · have hf := wk_f hf q3
        refine lv_aload_n hx hb dX8_takeOpenBalances_24 rfl (lv_at hl 0 rfl) ?_
        refine va_get (D := (dC, dI)) (ci := 8) (v := .ref (a 1)) (C := RX8) (T := TX8) (N := 5) hx hb hts in_X8_takeOpenBalances_X8 hown hK hP 0 rfl rfl 1 (by decide) (hts _ lk_X8_takeOpenBalances_RX8_9) (fun _ h9 => h9) rfl dX8_takeOpenBalances_25 ?_
        refine lv_aload_n hx hb dX8_takeOpenBalances_28 rfl (lv_at hl 0 rfl) ?_
        refine va_get (D := (dC, dI)) (ci := 8) (v := .int E_count) (C := RX8) (T := TX8) (N := 5) hx hb hts in_X8_takeOpenBalances_X8 hown hK hP 0 rfl rfl 0 (by decide) (hts _ lk_X8_takeOpenBalances_RX8_28) (fun _ h9 => h9) rfl dX8_takeOpenBalances_29 ?_
        refine lv_aload_n hx hb dX8_takeOpenBalances_32 rfl (lv_at hl 1 rfl) ?_
        refine va_get (D := (dC, dI)) (ci := 4) (v := .ref (b 1)) (C := RX2) (T := TX2) (N := 7) hx hb hts in_X8_takeOpenBalances_X2 hown hK hP 5 rfl rfl 1 (by decide) (hts _ lk_X8_takeOpenBalances_RX8_51) (fun _ h9 => h9) rfl dX8_takeOpenBalances_33 ?_
        refine lv_iload_n hx hb dX8_takeOpenBalances_36 rfl (lv_at hl 2 rfl) ?_
        obtain ⟨h4, hf⟩ := gin_s hf
        refine wk_iald hx hb hK hP 6 0 rfl rfl h4 rfl dX8_takeOpenBalances_37 ?_
        obtain ⟨h6, hf⟩ := gin_s hf
        refine wk_iast hx hb hK hP hD hS 1 0 (k := E_count.toNatClampNeg) rfl rfl h6 rfl dX8_takeOpenBalances_38 (fun g5 H locs eg5 hP hD hS => ?_)
        have hP : va_P (dC, dI) vwCl [(a 0, .inr (8, [.int E_count, .ref (a 1), .ref (a 2), .ref (a 3), .ref (a 4)])), (a 1, .inl (Y 0, 11, .inl g5)), (a 2, .inl (Y 0, 2048, .inl E_sums)), (a 3, .inl (Y 0, 2048, .inl E_groups)), (a 4, .inl (Y 0, 2048, .inl E_transfers)), (b 0, .inr (4, [.int B_accounts, .ref (b 1), .ref (b 2), .int B_entries, .ref (b 3), .ref (b 4), .ref (b 5)])), (b 1, .inl (Y 0, 11, .inl B_balances)), (b 2, .inl (Y 0, 11, .inl B_balancesAtClosing)), (b 3, .inl (Y 0, 60, .inl B_debited)), (b 4, .inl (Y 0, 60, .inl B_credited)), (b 5, .inl (Y 0, 60, .inl B_amounts))] H := hP
        have hD : va_D A [(a 0, .inr (8, [.int E_count, .ref (a 1), .ref (a 2), .ref (a 3), .ref (a 4)])), (a 1, .inl (Y 0, 11, .inl g5)), (a 2, .inl (Y 0, 2048, .inl E_sums)), (a 3, .inl (Y 0, 2048, .inl E_groups)), (a 4, .inl (Y 0, 2048, .inl E_transfers)), (b 0, .inr (4, [.int B_accounts, .ref (b 1), .ref (b 2), .int B_entries, .ref (b 3), .ref (b 4), .ref (b 5)])), (b 1, .inl (Y 0, 11, .inl B_balances)), (b 2, .inl (Y 0, 11, .inl B_balancesAtClosing)), (b 3, .inl (Y 0, 60, .inl B_debited)), (b 4, .inl (Y 0, 60, .inl B_credited)), (b 5, .inl (Y 0, 60, .inl B_amounts))] := hD
        have hf := wkl_s hf eg5
        refine lv_aload_n hx hb dX8_takeOpenBalances_39 rfl (lv_at hl 0 rfl) ?_
        refine lv_dup hx hb dX8_takeOpenBalances_40 rfl ?_
        refine va_get (D := (dC, dI)) (ci := 8) (v := .int E_count) (C := RX8) (T := TX8) (N := 5) hx hb hts in_X8_takeOpenBalances_X8 hown hK hP 0 rfl rfl 0 (by decide) (hts _ lk_X8_takeOpenBalances_RX8_28) (fun _ h9 => h9) rfl dX8_takeOpenBalances_41 ?_
        refine lv_iconst (v := 1) hx hb dX8_takeOpenBalances_44 (by decide) ?_
        refine lv_iadd hx hb dX8_takeOpenBalances_45 ?_
        refine lv_topi (fun v7 ev7 => ?_)
        have hf := wkl_s hf ev7
        refine va_put (D := (dC, dI)) (ci := 8) (v := .int v7) (ty := .int) (C := RX8) (T := TX8) (N := 5) hx hb hts in_X8_takeOpenBalances_X8 tyX8 tyX8_ok nmX8 hown hK hP hD hS 0 rfl rfl 0 (by decide) (hts _ lk_X8_takeOpenBalances_RX8_28) (fun _ h9 => h9) rfl (by decide +kernel) rfl rfl (Nat.le_of_ble_eq_true rfl) dX8_takeOpenBalances_46 (fun H locs hP hD hS => ?_)
        have hP : va_P (dC, dI) vwCl [(a 0, .inr (8, [.int v7, .ref (a 1), .ref (a 2), .ref (a 3), .ref (a 4)])), (a 1, .inl (Y 0, 11, .inl g5)), (a 2, .inl (Y 0, 2048, .inl E_sums)), (a 3, .inl (Y 0, 2048, .inl E_groups)), (a 4, .inl (Y 0, 2048, .inl E_transfers)), (b 0, .inr (4, [.int B_accounts, .ref (b 1), .ref (b 2), .int B_entries, .ref (b 3), .ref (b 4), .ref (b 5)])), (b 1, .inl (Y 0, 11, .inl B_balances)), (b 2, .inl (Y 0, 11, .inl B_balancesAtClosing)), (b 3, .inl (Y 0, 60, .inl B_debited)), (b 4, .inl (Y 0, 60, .inl B_credited)), (b 5, .inl (Y 0, 60, .inl B_amounts))] H := hP
        have hD : va_D A [(a 0, .inr (8, [.int v7, .ref (a 1), .ref (a 2), .ref (a 3), .ref (a 4)])), (a 1, .inl (Y 0, 11, .inl g5)), (a 2, .inl (Y 0, 2048, .inl E_sums)), (a 3, .inl (Y 0, 2048, .inl E_groups)), (a 4, .inl (Y 0, 2048, .inl E_transfers)), (b 0, .inr (4, [.int B_accounts, .ref (b 1), .ref (b 2), .int B_entries, .ref (b 3), .ref (b 4), .ref (b 5)])), (b 1, .inl (Y 0, 11, .inl B_balances)), (b 2, .inl (Y 0, 11, .inl B_balancesAtClosing)), (b 3, .inl (Y 0, 60, .inl B_debited)), (b 4, .inl (Y 0, 60, .inl B_credited)), (b 5, .inl (Y 0, 60, .inl B_amounts))] := hD
        refine lv_iinc (v := (x2 + 1)) (lv' := [(2, .int (x2 + 1)), (0, .ref (a 0)), (1, .ref (b 0))]) hx hb dX8_takeOpenBalances_49 hl (k := 2) rfl rfl (by decide) rfl (fun ls hl => ?_)
        refine lv_goto (tgt := 7) hx hb dX8_takeOpenBalances_52 (by decide) ?_
        exact ih (x2 + 1) v7 g5 E_sums hf H locs hP hD hS ls (lv_sub hl [1, 2, 0] rfl)
set_option maxHeartbeats 4000000 in
set_option maxRecDepth 100000 in
theorem c_X8_takeOpenBalances (l : Launch) (dC : Nat → ClassId) (dI : Nat → Nat → Nat) (Y : Nat → ClassId) (a : Nat → Nat) (b : Nat → Nat) (E_count : Int32) (E_open : Nat → Int32) (E_sums : Nat → Int32) (E_groups : Nat → Int32) (E_transfers : Nat → Int32) (B_accounts : Int32) (B_balances : Nat → Int32) (B_balancesAtClosing : Nat → Int32) (B_entries : Int32) (B_debited : Nat → Int32) (B_credited : Nat → Int32) (B_amounts : Nat → Int32)  (sz : Nat) (zE_count : Int32) (zE_open : Nat → Int32) (zE_sums : Nat → Int32) (hf : f_X8_takeOpenBalances E_count E_open E_sums B_accounts B_balances = some (zE_count, zE_open, zE_sums)) : Met l yX8_takeOpenBalances wsX8_takeOpenBalances ({ frames := 0, cells := 0, slots := 0, locals := 0 } : Room) (va_Pc [.ref (a 0), .ref (b 0)] (wk_E (dC, dI) Y ((wX8 Y a E_count E_open E_sums E_groups E_transfers) ++ (wX2 Y b B_accounts B_balances B_balancesAtClosing B_entries B_debited B_credited B_amounts)) sz)) (va_Qv (fun (_ : Unit) => True) (fun _ t => wk_X (dC, dI) Y ((wX8 Y a zE_count zE_open zE_sums E_groups E_transfers) ++ (wX2 Y b B_accounts B_balances B_balancesAtClosing B_entries B_debited B_credited B_amounts)) (va_A ((wX8 Y a E_count E_open E_sums E_groups E_transfers) ++ (wX2 Y b B_accounts B_balances B_balancesAtClosing B_entries B_debited B_credited B_amounts)) sz) t) (va_A ((wX8 Y a E_count E_open E_sums E_groups E_transfers) ++ (wX2 Y b B_accounts B_balances B_balancesAtClosing B_entries B_debited B_credited B_amounts)) sz)) 0 0 (va_A ((wX8 Y a E_count E_open E_sums E_groups E_transfers) ++ (wX2 Y b B_accounts B_balances B_balancesAtClosing B_entries B_debited B_credited B_amounts)) sz) := by
  refine Met.ofW (cc := cX8_takeOpenBalances) (maxL := 4) (ret := none) (by decide) rfl ?_
  intro p e s m args below meth c s₁ B hml hv
  obtain ⟨rfl, hsz, hP, hK, hD0⟩ := hv
  have hx := B.exec
  have hb := B.bytes
  have hr := B.returns
  have hts := atoms_spec (ws := wsX8_takeOpenBalances) B.pre
  have hown : s.vm.findClass RX8 = some m.cls := findClass_of_methodNamed B.named
  have hlocks := B.notSynchronized
  have C0 : wk_C p s m _ meth c cX8_takeOpenBalances 4 none wsX8_takeOpenBalances RX8 := ⟨hx, hb, hml, hr, hlocks, hown, hts⟩
  subst hsz
  have hD := hD0.self (sz := s.heap.size)
  generalize hAe : va_A ((wX8 Y a E_count E_open E_sums E_groups E_transfers) ++ (wX2 Y b B_accounts B_balances B_balancesAtClosing B_entries B_debited B_credited B_amounts)) s.heap.size = A at hD ⊢
  have hA : ∀ q : Nat, s.heap.size ≤ q → A q := fun q h => by rw [← hAe]; exact Or.inr h
  have hS : va_S A s.heap s.heap [] := va_S.rf
  obtain ⟨H, hHe⟩ : ∃ H, H = s.heap := ⟨_, rfl⟩
  have hS : va_S A s.heap H [] := by rw [hHe]; exact hS
  have hP : va_P (dC, dI) vwCl [(a 0, .inr (8, [.int E_count, .ref (a 1), .ref (a 2), .ref (a 3), .ref (a 4)])), (a 1, .inl (Y 0, 11, .inl E_open)), (a 2, .inl (Y 0, 2048, .inl E_sums)), (a 3, .inl (Y 0, 2048, .inl E_groups)), (a 4, .inl (Y 0, 2048, .inl E_transfers)), (b 0, .inr (4, [.int B_accounts, .ref (b 1), .ref (b 2), .int B_entries, .ref (b 3), .ref (b 4), .ref (b 5)])), (b 1, .inl (Y 0, 11, .inl B_balances)), (b 2, .inl (Y 0, 11, .inl B_balancesAtClosing)), (b 3, .inl (Y 0, 60, .inl B_debited)), (b 4, .inl (Y 0, 60, .inl B_credited)), (b 5, .inl (Y 0, 60, .inl B_amounts))] H := by rw [hHe]; exact hP
  have hD : va_D A [(a 0, .inr (8, [.int E_count, .ref (a 1), .ref (a 2), .ref (a 3), .ref (a 4)])), (a 1, .inl (Y 0, 11, .inl E_open)), (a 2, .inl (Y 0, 2048, .inl E_sums)), (a 3, .inl (Y 0, 2048, .inl E_groups)), (a 4, .inl (Y 0, 2048, .inl E_transfers)), (b 0, .inr (4, [.int B_accounts, .ref (b 1), .ref (b 2), .int B_entries, .ref (b 3), .ref (b 4), .ref (b 5)])), (b 1, .inl (Y 0, 11, .inl B_balances)), (b 2, .inl (Y 0, 11, .inl B_balancesAtClosing)), (b 3, .inl (Y 0, 60, .inl B_debited)), (b 4, .inl (Y 0, 60, .inl B_credited)), (b 5, .inl (Y 0, 60, .inl B_amounts))] := hD
  obtain ⟨locs, hlo⟩ : ∃ locs : List Loc, locs = [] := ⟨_, rfl⟩
  have hS : va_S A s.heap H locs := by rw [hlo]; exact hS
  have hl := lv_entry ([.ref (a 0), .ref (b 0)]) (n := 4) (Nat.le_of_ble_eq_true rfl)
  rw [lg_entry_eq]
  generalize (lg_sl ([.ref (a 0), .ref (b 0)]) ++ List.replicate (4 - (lg_sl ([.ref (a 0), .ref (b 0)])).length) Slot.unset).toArray = ls at hl ⊢
  have hl : lv_has ls 4 [(0, .ref (a 0)), (1, .ref (b 0))] := hl
  refine wk_start hHe hlo ?_
  rw [f_X8_takeOpenBalances] at hf
  refine lv_aload_n hx hb dX8_takeOpenBalances_0 rfl (lv_at hl 0 rfl) ?_
  refine lv_iconst (v := 0) hx hb dX8_takeOpenBalances_1 (by decide) ?_
  refine va_put (D := (dC, dI)) (ci := 8) (v := .int 0) (ty := .int) (C := RX8) (T := TX8) (N := 5) hx hb hts in_X8_takeOpenBalances_X8 tyX8 tyX8_ok nmX8 hown hK hP hD hS 0 rfl rfl 0 (by decide) (hts _ lk_X8_takeOpenBalances_RX8_28) (fun _ h9 => h9) rfl (by decide +kernel) rfl rfl (Nat.le_of_ble_eq_true rfl) dX8_takeOpenBalances_2 (fun H locs hP hD hS => ?_)
  have hP : va_P (dC, dI) vwCl [(a 0, .inr (8, [.int 0, .ref (a 1), .ref (a 2), .ref (a 3), .ref (a 4)])), (a 1, .inl (Y 0, 11, .inl E_open)), (a 2, .inl (Y 0, 2048, .inl E_sums)), (a 3, .inl (Y 0, 2048, .inl E_groups)), (a 4, .inl (Y 0, 2048, .inl E_transfers)), (b 0, .inr (4, [.int B_accounts, .ref (b 1), .ref (b 2), .int B_entries, .ref (b 3), .ref (b 4), .ref (b 5)])), (b 1, .inl (Y 0, 11, .inl B_balances)), (b 2, .inl (Y 0, 11, .inl B_balancesAtClosing)), (b 3, .inl (Y 0, 60, .inl B_debited)), (b 4, .inl (Y 0, 60, .inl B_credited)), (b 5, .inl (Y 0, 60, .inl B_amounts))] H := hP
  have hD : va_D A [(a 0, .inr (8, [.int 0, .ref (a 1), .ref (a 2), .ref (a 3), .ref (a 4)])), (a 1, .inl (Y 0, 11, .inl E_open)), (a 2, .inl (Y 0, 2048, .inl E_sums)), (a 3, .inl (Y 0, 2048, .inl E_groups)), (a 4, .inl (Y 0, 2048, .inl E_transfers)), (b 0, .inr (4, [.int B_accounts, .ref (b 1), .ref (b 2), .int B_entries, .ref (b 3), .ref (b 4), .ref (b 5)])), (b 1, .inl (Y 0, 11, .inl B_balances)), (b 2, .inl (Y 0, 11, .inl B_balancesAtClosing)), (b 3, .inl (Y 0, 60, .inl B_debited)), (b 4, .inl (Y 0, 60, .inl B_credited)), (b 5, .inl (Y 0, 60, .inl B_amounts))] := hD
  refine lv_iconst (v := 0) hx hb dX8_takeOpenBalances_5 (by decide) ?_
  refine lv_istore_n (lv' := [(2, .int 0), (0, .ref (a 0)), (1, .ref (b 0))]) hx hb dX8_takeOpenBalances_6 rfl hl (by decide) rfl (fun ls hl => ?_)
  exact wl_X8_takeOpenBalances_L7 C0 hK hA FU 0 0 E_open E_sums hf H locs hP hD hS ls (lv_sub hl [1, 2, 0] rfl)
theorem lk_X8_mostGroupsWithoutOne_RX8_18 : Cond.fieldLink RX8 18 "CircusLedger$Settling" "groups" "[I" ∈ wsX8_mostGroupsWithoutOne := by decide +kernel
theorem lk_X8_mostGroupsWithoutOne_RX8_28 : Cond.fieldLink RX8 28 "CircusLedger$Settling" "count" "I" ∈ wsX8_mostGroupsWithoutOne := by decide +kernel
theorem mx_X8_mostGroupsWithoutOne_RX8_54 : Cond.methodLink RX8 54 Lib.Math.max.name ∈ wsX8_mostGroupsWithoutOne ∧ Cond.static Lib.Math.max.name ∈ wsX8_mostGroupsWithoutOne ∧ Cond.initialized "java/lang/Math" ∈ wsX8_mostGroupsWithoutOne ∧ Cond.code Lib.Math.max.name Lib.Math.max.code 2 (some .int) ∈ wsX8_mostGroupsWithoutOne := ⟨by decide +kernel, by decide +kernel, by decide +kernel, by decide +kernel⟩
theorem in_X8_mostGroupsWithoutOne_X8 : ∀ w ∈ u_ws RX8 TX8 5, w ∈ wsX8_mostGroupsWithoutOne := by decide +kernel
def f_X8_mostGroupsWithoutOne_L4 (E_count : Int32) (E_groups : Nat → Int32) (x1 : Int32) : Nat → Int32 → Int32 → Option (Int32)
  | 0, _, _ => none
  | nn + 1, x2, x3 =>
    if E_count ≤ x3 then
      (some (x2))
    else
      (if ((x1 >>> (x3 &&& 31)) &&& 1) = 1 then
        (gin (x1 &&& (((1 : Int32) <<< (x3 &&& 31)) ^^^ (-1))) 2048 (wkl ((if x2 < (E_groups (x1 &&& (((1 : Int32) <<< (x3 &&& 31)) ^^^ (-1))).toNatClampNeg) then (E_groups (x1 &&& (((1 : Int32) <<< (x3 &&& 31)) ^^^ (-1))).toNatClampNeg) else x2)) (fun v4 =>
        f_X8_mostGroupsWithoutOne_L4 E_count E_groups x1 nn v4 (x3 + 1))))
      else
        (f_X8_mostGroupsWithoutOne_L4 E_count E_groups x1 nn x2 (x3 + 1)))
def f_X8_mostGroupsWithoutOne (E_count : Int32) (E_groups : Nat → Int32) (x1 : Int32) : Option (Int32) :=
  f_X8_mostGroupsWithoutOne_L4 E_count E_groups x1 FU 0 0
set_option maxHeartbeats 4000000 in
set_option maxRecDepth 100000 in
theorem wl_X8_mostGroupsWithoutOne_L4 {p : Program} {l : Launch} {e : Env} {s : State} {m : MethodId} {args : Array Value} {below : List Frame} {meth : Method} {c : Code} {dC : Nat → ClassId} {dI : Nat → Nat → Nat} {Y : Nat → ClassId} {a : Nat → Nat} {E_count : Int32} {E_open : Nat → Int32} {E_sums : Nat → Int32} {E_groups : Nat → Int32} {E_transfers : Nat → Int32} {x1 : Int32} {r : Int32}  (C0 : wk_C p s m args meth c cX8_mostGroupsWithoutOne 4 (some .int) wsX8_mostGroupsWithoutOne RX8) (hK : va_K (dC, dI) vwCl (vTy Y) s) (hP : va_P (dC, dI) vwCl (wX8 Y a E_count E_open E_sums E_groups E_transfers) s.heap) : ∀ (nn : Nat) (x2 : Int32) (x3 : Int32)  , f_X8_mostGroupsWithoutOne_L4 E_count E_groups x1 nn x2 x3 = some (r) → ∀ (ls : Array Slot), lv_has ls 4 [(0, .ref (a 0)), (1, .int x1), (2, .int x2), (3, .int x3)] → W p l e (headSpec wsX8_mostGroupsWithoutOne ({ frames := 1, cells := 0, slots := 0, locals := 21 } : Room)).room s m args below meth c s.heap [] 0 0 (MQ below (vp_Si (fun r2 => r2 = r)) args s 0 0 (fun _ => False)) (F0 m 4 ls []) := by
  have C0 := C0
  obtain ⟨hx, hb, hml, hr, hlocks, hown, hts⟩ := id C0
  intro nn
  induction nn with
  | zero =>
    intro x2 x3 hf
    rw [f_X8_mostGroupsWithoutOne_L4] at hf
    cases hf
  | succ nn ih =>
    intro x2 x3 hf ls hl
    rw [f_X8_mostGroupsWithoutOne_L4] at hf
    have hP : va_P (dC, dI) vwCl [(a 0, .inr (8, [.int E_count, .ref (a 1), .ref (a 2), .ref (a 3), .ref (a 4)])), (a 1, .inl (Y 0, 11, .inl E_open)), (a 2, .inl (Y 0, 2048, .inl E_sums)), (a 3, .inl (Y 0, 2048, .inl E_groups)), (a 4, .inl (Y 0, 2048, .inl E_transfers))] s.heap := hP
    refine lv_iload_n hx hb dX8_mostGroupsWithoutOne_4 rfl (lv_at hl 3 rfl) ?_
    refine lv_aload_n hx hb dX8_mostGroupsWithoutOne_5 rfl (lv_at hl 0 rfl) ?_
    refine va_get (D := (dC, dI)) (ci := 8) (v := .int E_count) (C := RX8) (T := TX8) (N := 5) hx hb hts in_X8_mostGroupsWithoutOne_X8 hown hK hP 0 rfl rfl 0 (by decide) (hts _ lk_X8_mostGroupsWithoutOne_RX8_28) (fun _ h9 => h9) rfl dX8_mostGroupsWithoutOne_6 ?_
    refine lv_icmp_ge (tgt := 44) hx hb dX8_mostGroupsWithoutOne_9 (by decide) (fun q1 => ?_) (fun q1 => ?_)
    · have hf := wk_t hf q1
      refine lv_iload_n hx hb dX8_mostGroupsWithoutOne_44 rfl (lv_at hl 2 rfl) ?_
      have e0 := wke1 hf
      subst e0
      exact W.iret (v := x2) hx hb hr (fun t ht hW => ⟨x2, rfl, rfl, ht⟩) (fun q h => absurd h List.not_mem_nil) dX8_mostGroupsWithoutOne_45
    · have hf := wk_f hf q1
      refine lv_iload_n hx hb dX8_mostGroupsWithoutOne_12 rfl (lv_at hl 1 rfl) ?_
      refine lv_iload_n hx hb dX8_mostGroupsWithoutOne_13 rfl (lv_at hl 3 rfl) ?_
      refine lv_ishr hx hb dX8_mostGroupsWithoutOne_14 ?_
      refine lv_iconst (v := 1) hx hb dX8_mostGroupsWithoutOne_15 (by decide) ?_
      refine lv_iand hx hb dX8_mostGroupsWithoutOne_16 ?_
      refine lv_iconst (v := 1) hx hb dX8_mostGroupsWithoutOne_17 (by decide) ?_
      refine lv_icmp_ne (tgt := 38) hx hb dX8_mostGroupsWithoutOne_18 (by decide) (fun q2 => ?_) (fun q2 => ?_)
      · have hf := wk_f hf q2
        refine lv_iinc (v := (x3 + 1)) (lv' := [(3, .int (x3 + 1)), (0, .ref (a 0)), (1, .int x1), (2, .int x2)]) hx hb dX8_mostGroupsWithoutOne_38 hl (k := 3) rfl rfl (by decide) rfl (fun ls hl => ?_)
        refine lv_goto (tgt := 4) hx hb dX8_mostGroupsWithoutOne_41 (by decide) ?_
        exact ih x2 (x3 + 1) hf ls (lv_sub hl [1, 2, 3, 0] rfl)
      · have hf := wk_t hf q2
        refine lv_iload_n hx hb dX8_mostGroupsWithoutOne_21 rfl (lv_at hl 2 rfl) ?_
        refine lv_aload_n hx hb dX8_mostGroupsWithoutOne_22 rfl (lv_at hl 0 rfl) ?_
        refine va_get (D := (dC, dI)) (ci := 8) (v := .ref (a 3)) (C := RX8) (T := TX8) (N := 5) hx hb hts in_X8_mostGroupsWithoutOne_X8 hown hK hP 0 rfl rfl 3 (by decide) (hts _ lk_X8_mostGroupsWithoutOne_RX8_18) (fun _ h9 => h9) rfl dX8_mostGroupsWithoutOne_23 ?_
        refine lv_iload_n hx hb dX8_mostGroupsWithoutOne_26 rfl (lv_at hl 1 rfl) ?_
        refine lv_iconst (v := 1) hx hb dX8_mostGroupsWithoutOne_27 (by decide) ?_
        refine lv_iload_n hx hb dX8_mostGroupsWithoutOne_28 rfl (lv_at hl 3 rfl) ?_
        refine lv_ishl hx hb dX8_mostGroupsWithoutOne_29 ?_
        refine lv_iconst (v := (-1)) hx hb dX8_mostGroupsWithoutOne_30 (by decide) ?_
        refine lv_ixor hx hb dX8_mostGroupsWithoutOne_31 ?_
        refine lv_iand hx hb dX8_mostGroupsWithoutOne_32 ?_
        obtain ⟨h3, hf⟩ := gin_s hf
        refine wk_iald hx hb hK hP 3 0 rfl rfl h3 rfl dX8_mostGroupsWithoutOne_33 ?_
        refine va_mmax hx hb (hml.trans hl.1.symm) hown (hts _ mx_X8_mostGroupsWithoutOne_RX8_54.1) (hts _ mx_X8_mostGroupsWithoutOne_RX8_54.2.1) (hts _ mx_X8_mostGroupsWithoutOne_RX8_54.2.2.1) (hts _ mx_X8_mostGroupsWithoutOne_RX8_54.2.2.2) (Nat.le_of_ble_eq_true rfl) (Nat.le_of_ble_eq_true rfl) (Nat.le_of_ble_eq_true rfl) (Nat.le_of_ble_eq_true rfl) dX8_mostGroupsWithoutOne_34 ?_
        refine lv_topi (fun v4 ev4 => ?_)
        have hf := wkl_s hf ev4
        refine lv_istore_n (lv' := [(2, .int v4), (0, .ref (a 0)), (1, .int x1), (3, .int x3)]) hx hb dX8_mostGroupsWithoutOne_37 rfl hl (by decide) rfl (fun ls hl => ?_)
        refine lv_iinc (v := (x3 + 1)) (lv' := [(3, .int (x3 + 1)), (2, .int v4), (0, .ref (a 0)), (1, .int x1)]) hx hb dX8_mostGroupsWithoutOne_38 hl (k := 3) rfl rfl (by decide) rfl (fun ls hl => ?_)
        refine lv_goto (tgt := 4) hx hb dX8_mostGroupsWithoutOne_41 (by decide) ?_
        exact ih v4 (x3 + 1) hf ls (lv_sub hl [2, 3, 1, 0] rfl)
set_option maxHeartbeats 4000000 in
set_option maxRecDepth 100000 in
theorem c_X8_mostGroupsWithoutOne (l : Launch) (dC : Nat → ClassId) (dI : Nat → Nat → Nat) (Y : Nat → ClassId) (a : Nat → Nat) (E_count : Int32) (E_open : Nat → Int32) (E_sums : Nat → Int32) (E_groups : Nat → Int32) (E_transfers : Nat → Int32) (x1 : Int32) (r : Int32) (hf : f_X8_mostGroupsWithoutOne E_count E_groups x1 = some (r)) : Met l yX8_mostGroupsWithoutOne wsX8_mostGroupsWithoutOne ({ frames := 1, cells := 0, slots := 0, locals := 21 } : Room) (va_Pc [.ref (a 0), .int x1] (wk_B (dC, dI) Y (wX8 Y a E_count E_open E_sums E_groups E_transfers))) (vp_Si (fun r2 => r2 = r)) 0 0 (fun _ => False) := by
  refine Met.ofW (cc := cX8_mostGroupsWithoutOne) (maxL := 4) (ret := (some .int)) (by decide) rfl ?_
  intro p e s m args below meth c s₁ B hml hv
  obtain ⟨rfl, hP, hK⟩ := hv
  have hx := B.exec
  have hb := B.bytes
  have hr := B.returns
  have hts := atoms_spec (ws := wsX8_mostGroupsWithoutOne) B.pre
  have hown : s.vm.findClass RX8 = some m.cls := findClass_of_methodNamed B.named
  have hlocks := B.notSynchronized
  have C0 : wk_C p s m _ meth c cX8_mostGroupsWithoutOne 4 (some .int) wsX8_mostGroupsWithoutOne RX8 := ⟨hx, hb, hml, hr, hlocks, hown, hts⟩
  have hP : va_P (dC, dI) vwCl [(a 0, .inr (8, [.int E_count, .ref (a 1), .ref (a 2), .ref (a 3), .ref (a 4)])), (a 1, .inl (Y 0, 11, .inl E_open)), (a 2, .inl (Y 0, 2048, .inl E_sums)), (a 3, .inl (Y 0, 2048, .inl E_groups)), (a 4, .inl (Y 0, 2048, .inl E_transfers))] s.heap := hP
  have hl := lv_entry ([.ref (a 0), .int x1]) (n := 4) (Nat.le_of_ble_eq_true rfl)
  rw [lg_entry_eq]
  generalize (lg_sl ([.ref (a 0), .int x1]) ++ List.replicate (4 - (lg_sl ([.ref (a 0), .int x1])).length) Slot.unset).toArray = ls at hl ⊢
  have hl : lv_has ls 4 [(0, .ref (a 0)), (1, .int x1)] := hl
  rw [f_X8_mostGroupsWithoutOne] at hf
  refine lv_iconst (v := 0) hx hb dX8_mostGroupsWithoutOne_0 (by decide) ?_
  refine lv_istore_n (lv' := [(2, .int 0), (0, .ref (a 0)), (1, .int x1)]) hx hb dX8_mostGroupsWithoutOne_1 rfl hl (by decide) rfl (fun ls hl => ?_)
  refine lv_iconst (v := 0) hx hb dX8_mostGroupsWithoutOne_2 (by decide) ?_
  refine lv_istore_n (lv' := [(3, .int 0), (2, .int 0), (0, .ref (a 0)), (1, .int x1)]) hx hb dX8_mostGroupsWithoutOne_3 rfl hl (by decide) rfl (fun ls hl => ?_)
  exact wl_X8_mostGroupsWithoutOne_L4 C0 hK hP FU 0 0 hf ls (lv_sub hl [2, 3, 1, 0] rfl)
theorem lk_X8_fewestBySets_RX8_15 : Cond.fieldLink RX8 15 "CircusLedger$Settling" "sums" "[I" ∈ wsX8_fewestBySets := by decide +kernel
theorem lk_X8_fewestBySets_RX8_18 : Cond.fieldLink RX8 18 "CircusLedger$Settling" "groups" "[I" ∈ wsX8_fewestBySets := by decide +kernel
theorem lk_X8_fewestBySets_RX8_28 : Cond.fieldLink RX8 28 "CircusLedger$Settling" "count" "I" ∈ wsX8_fewestBySets := by decide +kernel
theorem in_X8_fewestBySets_X8 : ∀ w ∈ u_ws RX8 TX8 5, w ∈ wsX8_fewestBySets := by decide +kernel
def f_X8_fewestBySets_L14 (B_accounts : Int32) (B_balances : Nat → Int32) : Nat → Int32 → Int32 → Int32 → (Nat → Int32) → (Nat → Int32) → (Nat → Int32) → Option (Int32 × Int32 × (Nat → Int32) × (Nat → Int32) × (Nat → Int32))
  | 0, _, _, _, _, _, _ => none
  | nn + 1, x2, x3, E_count, E_open, E_sums, E_groups =>
    if x2 ≤ x3 then
      (gin (x2 - 1) 2048 (some ((E_count - (E_groups (x2 - 1).toNatClampNeg)), E_count, E_open, E_sums, E_groups)))
    else
      (wkb1 (f_X8_mostGroupsWithoutOne E_count E_groups x3) (fun r3 =>
      gin x3 2048 (if (E_sums x3.toNatClampNeg) = 0 then
        (gin x3 2048 (wkl (upd E_groups x3.toNatClampNeg (r3 + 1)) (fun g9 =>
        f_X8_fewestBySets_L14 B_accounts B_balances nn x2 (x3 + 1) E_count E_open E_sums g9)))
      else
        (gin x3 2048 (wkl (upd E_groups x3.toNatClampNeg (r3 + 0)) (fun g7 =>
        f_X8_fewestBySets_L14 B_accounts B_balances nn x2 (x3 + 1) E_count E_open E_sums g7))))))
def f_X8_fewestBySets (E_count : Int32) (E_open : Nat → Int32) (E_sums : Nat → Int32) (E_groups : Nat → Int32) (B_accounts : Int32) (B_balances : Nat → Int32) : Option (Int32 × Int32 × (Nat → Int32) × (Nat → Int32) × (Nat → Int32)) :=
  wkb3 (f_X8_takeOpenBalances E_count E_open E_sums B_accounts B_balances) (fun w1 w2 w3 =>
  f_X8_fewestBySets_L14 B_accounts B_balances FU ((1 : Int32) <<< (w1 &&& 31)) 1 w1 w2 w3 E_groups)
set_option maxHeartbeats 4000000 in
set_option maxRecDepth 100000 in
theorem wl_X8_fewestBySets_L14 {p : Program} {l : Launch} {e : Env} {s : State} {m : MethodId} {args : Array Value} {below : List Frame} {meth : Method} {c : Code} {dC : Nat → ClassId} {dI : Nat → Nat → Nat} {Y : Nat → ClassId} {a : Nat → Nat} {b : Nat → Nat} {E_transfers : Nat → Int32} {B_accounts : Int32} {B_balances : Nat → Int32} {B_balancesAtClosing : Nat → Int32} {B_entries : Int32} {B_debited : Nat → Int32} {B_credited : Nat → Int32} {B_amounts : Nat → Int32}  {r : Int32} {zE_count : Int32} {zE_open : Nat → Int32} {zE_sums : Nat → Int32} {zE_groups : Nat → Int32}  (C0 : wk_C p s m args meth c cX8_fewestBySets 4 (some .int) wsX8_fewestBySets RX8) {A : Nat → Prop} (hK : va_K (dC, dI) vwCl (vTy Y) s) (hA : ∀ q, s.heap.size ≤ q → A q) : ∀ (nn : Nat) (x2 : Int32) (x3 : Int32)  (E_count : Int32) (E_open : Nat → Int32) (E_sums : Nat → Int32) (E_groups : Nat → Int32), f_X8_fewestBySets_L14 B_accounts B_balances nn x2 x3 E_count E_open E_sums E_groups = some (r, zE_count, zE_open, zE_sums, zE_groups) → ∀ (H : Heap) (locs : List Loc), va_P (dC, dI) vwCl ((wX8 Y a E_count E_open E_sums E_groups E_transfers) ++ (wX2 Y b B_accounts B_balances B_balancesAtClosing B_entries B_debited B_credited B_amounts)) H → va_D A ((wX8 Y a E_count E_open E_sums E_groups E_transfers) ++ (wX2 Y b B_accounts B_balances B_balancesAtClosing B_entries B_debited B_credited B_amounts)) → va_S A s.heap H locs → ∀ (ls : Array Slot), lv_has ls 4 [(0, .ref (a 0)), (2, .int x2), (3, .int x3)] → W p l e (headSpec wsX8_fewestBySets ({ frames := 2, cells := 0, slots := 0, locals := 44 } : Room)).room s m args below meth c H locs 0 0 (MQ below (va_Qi (fun r2 (_ : Unit) => r2 = r) (fun _ t => wk_X (dC, dI) Y ((wX8 Y a zE_count zE_open zE_sums zE_groups E_transfers) ++ (wX2 Y b B_accounts B_balances B_balancesAtClosing B_entries B_debited B_credited B_amounts)) A t) A) args s 0 0 A) (F0 m 14 ls []) := by
  have C0 := C0
  obtain ⟨hx, hb, hml, hr, hlocks, hown, hts⟩ := id C0
  intro nn
  induction nn with
  | zero =>
    intro x2 x3 E_count E_open E_sums E_groups hf
    rw [f_X8_fewestBySets_L14] at hf
    cases hf
  | succ nn ih =>
    intro x2 x3 E_count E_open E_sums E_groups hf H locs hP hD hS ls hl
    rw [f_X8_fewestBySets_L14] at hf
    have hP : va_P (dC, dI) vwCl [(a 0, .inr (8, [.int E_count, .ref (a 1), .ref (a 2), .ref (a 3), .ref (a 4)])), (a 1, .inl (Y 0, 11, .inl E_open)), (a 2, .inl (Y 0, 2048, .inl E_sums)), (a 3, .inl (Y 0, 2048, .inl E_groups)), (a 4, .inl (Y 0, 2048, .inl E_transfers)), (b 0, .inr (4, [.int B_accounts, .ref (b 1), .ref (b 2), .int B_entries, .ref (b 3), .ref (b 4), .ref (b 5)])), (b 1, .inl (Y 0, 11, .inl B_balances)), (b 2, .inl (Y 0, 11, .inl B_balancesAtClosing)), (b 3, .inl (Y 0, 60, .inl B_debited)), (b 4, .inl (Y 0, 60, .inl B_credited)), (b 5, .inl (Y 0, 60, .inl B_amounts))] H := hP
    have hD : va_D A [(a 0, .inr (8, [.int E_count, .ref (a 1), .ref (a 2), .ref (a 3), .ref (a 4)])), (a 1, .inl (Y 0, 11, .inl E_open)), (a 2, .inl (Y 0, 2048, .inl E_sums)), (a 3, .inl (Y 0, 2048, .inl E_groups)), (a 4, .inl (Y 0, 2048, .inl E_transfers)), (b 0, .inr (4, [.int B_accounts, .ref (b 1), .ref (b 2), .int B_entries, .ref (b 3), .ref (b 4), .ref (b 5)])), (b 1, .inl (Y 0, 11, .inl B_balances)), (b 2, .inl (Y 0, 11, .inl B_balancesAtClosing)), (b 3, .inl (Y 0, 60, .inl B_debited)), (b 4, .inl (Y 0, 60, .inl B_credited)), (b 5, .inl (Y 0, 60, .inl B_amounts))] := hD
    refine lv_iload_n hx hb dX8_fewestBySets_14 rfl (lv_at hl 2 rfl) ?_
    refine lv_iload_n hx hb dX8_fewestBySets_15 rfl (lv_at hl 1 rfl) ?_
    refine lv_icmp_ge (tgt := 51) hx hb dX8_fewestBySets_16 (by decide) (fun q1 => ?_) (fun q1 => ?_)
    · have hf := wk_t hf q1
      refine lv_aload_n hx hb dX8_fewestBySets_51 rfl (lv_at hl 0 rfl) ?_
      refine va_get (D := (dC, dI)) (ci := 8) (v := .int E_count) (C := RX8) (T := TX8) (N := 5) hx hb hts in_X8_fewestBySets_X8 hown hK hP 0 rfl rfl 0 (by decide) (hts _ lk_X8_fewestBySets_RX8_28) (fun _ h9 => h9) rfl dX8_fewestBySets_52 ?_
      refine lv_aload_n hx hb dX8_fewestBySets_55 rfl (lv_at hl 0 rfl) ?_
      refine va_get (D := (dC, dI)) (ci := 8) (v := .ref (a 3)) (C := RX8) (T := TX8) (N := 5) hx hb hts in_X8_fewestBySets_X8 hown hK hP 0 rfl rfl 3 (by decide) (hts _ lk_X8_fewestBySets_RX8_18) (fun _ h9 => h9) rfl dX8_fewestBySets_56 ?_
      refine lv_iload_n hx hb dX8_fewestBySets_59 rfl (lv_at hl 1 rfl) ?_
      refine lv_iconst (v := 1) hx hb dX8_fewestBySets_60 (by decide) ?_
      refine lv_isub hx hb dX8_fewestBySets_61 ?_
      obtain ⟨h2, hf⟩ := gin_s hf
      refine wk_iald hx hb hK hP 3 0 rfl rfl h2 rfl dX8_fewestBySets_62 ?_
      refine lv_isub hx hb dX8_fewestBySets_63 ?_
      obtain ⟨e0, e1, e2, e3, e4⟩ := wke5 hf
      subst e0
      subst e1
      subst e2
      subst e3
      subst e4
      have hP9 := hP.sub (ws' := ((wX8 Y a E_count E_open E_sums E_groups E_transfers) ++ (wX2 Y b B_accounts B_balances B_balancesAtClosing B_entries B_debited B_credited B_amounts))) [0, 1, 2, 3, 4, 5, 6, 7, 8, 9, 10] rfl
      have hD9 := hD.sub (ws' := ((wX8 Y a E_count E_open E_sums E_groups E_transfers) ++ (wX2 Y b B_accounts B_balances B_balancesAtClosing B_entries B_debited B_credited B_amounts))) [0, 1, 2, 3, 4, 5, 6, 7, 8, 9, 10] (by decide) rfl
      exact W.iret (v := (E_count - (E_groups (x2 - 1).toNatClampNeg))) hx hb hr (fun t ht hW => ⟨⟨(E_count - (E_groups (x2 - 1).toNatClampNeg)), (), rfl, rfl, by rw [ht]; exact hP9, va_K.moved hW.alike hK, hD9⟩, hS.F ht⟩) hS.2.2 dX8_fewestBySets_64
    · have hf := wk_f hf q1
      refine lv_aload_n hx hb dX8_fewestBySets_19 rfl (lv_at hl 0 rfl) ?_
      refine va_get (D := (dC, dI)) (ci := 8) (v := .ref (a 3)) (C := RX8) (T := TX8) (N := 5) hx hb hts in_X8_fewestBySets_X8 hown hK hP 0 rfl rfl 3 (by decide) (hts _ lk_X8_fewestBySets_RX8_18) (fun _ h9 => h9) rfl dX8_fewestBySets_20 ?_
      refine lv_iload_n hx hb dX8_fewestBySets_23 rfl (lv_at hl 2 rfl) ?_
      refine lv_aload_n hx hb dX8_fewestBySets_24 rfl (lv_at hl 0 rfl) ?_
      refine lv_iload_n hx hb dX8_fewestBySets_25 rfl (lv_at hl 2 rfl) ?_
      obtain ⟨r3, hr4, hf⟩ := wkb1_s hf
      have hPc := hP.sub (ws' := (wX8 Y a E_count E_open E_sums E_groups E_transfers)) [0, 1, 2, 3, 4] rfl
      refine wk_vi (As := [.int x3]) (rest := [.int x3, .ref (a 3)]) ⟨hx, hb, hml, hown, hts⟩ (c_X8_mostGroupsWithoutOne l dC dI Y a E_count E_open E_sums E_groups E_transfers x3 r3 hr4) (cwV 1 hts gX8_fewestBySets_X8_mostGroupsWithoutOne rfl rfl rfl (by decide +kernel) ⟨Nat.le_of_ble_eq_true rfl, Nat.le_of_ble_eq_true rfl⟩) hK hPc (va_recv hK hP (ci := 8) (q0 := 0) rfl rfl) rfl hl.1 rfl (Nat.le_of_ble_eq_true rfl) dX8_fewestBySets_26 ⟨Nat.le_of_ble_eq_true rfl, Nat.le_of_ble_eq_true rfl⟩ ?_
      refine lv_aload_n hx hb dX8_fewestBySets_29 rfl (lv_at hl 0 rfl) ?_
      refine va_get (D := (dC, dI)) (ci := 8) (v := .ref (a 2)) (C := RX8) (T := TX8) (N := 5) hx hb hts in_X8_fewestBySets_X8 hown hK hP 0 rfl rfl 2 (by decide) (hts _ lk_X8_fewestBySets_RX8_15) (fun _ h9 => h9) rfl dX8_fewestBySets_30 ?_
      refine lv_iload_n hx hb dX8_fewestBySets_33 rfl (lv_at hl 2 rfl) ?_
      obtain ⟨h5, hf⟩ := gin_s hf
      refine wk_iald hx hb hK hP 2 0 rfl rfl h5 rfl dX8_fewestBySets_34 ?_
      refine lv_if_ne (tgt := 42) hx hb dX8_fewestBySets_35 (by decide) (fun q6 => ?_) (fun q6 => ?_)
      · have hf := wk_f hf q6
        refine lv_iconst (v := 0) hx hb dX8_fewestBySets_42 (by decide) ?_
        refine lv_iadd hx hb dX8_fewestBySets_43 ?_
        obtain ⟨h8, hf⟩ := gin_s hf
        refine wk_iast hx hb hK hP hD hS 3 0 (k := x3.toNatClampNeg) rfl rfl h8 rfl dX8_fewestBySets_44 (fun g7 H locs eg7 hP hD hS => ?_)
        have hP : va_P (dC, dI) vwCl [(a 0, .inr (8, [.int E_count, .ref (a 1), .ref (a 2), .ref (a 3), .ref (a 4)])), (a 1, .inl (Y 0, 11, .inl E_open)), (a 2, .inl (Y 0, 2048, .inl E_sums)), (a 3, .inl (Y 0, 2048, .inl g7)), (a 4, .inl (Y 0, 2048, .inl E_transfers)), (b 0, .inr (4, [.int B_accounts, .ref (b 1), .ref (b 2), .int B_entries, .ref (b 3), .ref (b 4), .ref (b 5)])), (b 1, .inl (Y 0, 11, .inl B_balances)), (b 2, .inl (Y 0, 11, .inl B_balancesAtClosing)), (b 3, .inl (Y 0, 60, .inl B_debited)), (b 4, .inl (Y 0, 60, .inl B_credited)), (b 5, .inl (Y 0, 60, .inl B_amounts))] H := hP
        have hD : va_D A [(a 0, .inr (8, [.int E_count, .ref (a 1), .ref (a 2), .ref (a 3), .ref (a 4)])), (a 1, .inl (Y 0, 11, .inl E_open)), (a 2, .inl (Y 0, 2048, .inl E_sums)), (a 3, .inl (Y 0, 2048, .inl g7)), (a 4, .inl (Y 0, 2048, .inl E_transfers)), (b 0, .inr (4, [.int B_accounts, .ref (b 1), .ref (b 2), .int B_entries, .ref (b 3), .ref (b 4), .ref (b 5)])), (b 1, .inl (Y 0, 11, .inl B_balances)), (b 2, .inl (Y 0, 11, .inl B_balancesAtClosing)), (b 3, .inl (Y 0, 60, .inl B_debited)), (b 4, .inl (Y 0, 60, .inl B_credited)), (b 5, .inl (Y 0, 60, .inl B_amounts))] := hD
        have hf := wkl_s hf eg7
        refine lv_iinc (v := (x3 + 1)) (lv' := [(3, .int (x3 + 1)), (0, .ref (a 0)), (2, .int x2)]) hx hb dX8_fewestBySets_45 hl (k := 2) rfl rfl (by decide) rfl (fun ls hl => ?_)
        refine lv_goto (tgt := 14) hx hb dX8_fewestBySets_48 (by decide) ?_
        exact ih x2 (x3 + 1) E_count E_open E_sums g7 hf H locs hP hD hS ls (lv_sub hl [1, 2, 0] rfl)
      · have hf := wk_t hf q6
        refine lv_iconst (v := 1) hx hb dX8_fewestBySets_38 (by decide) ?_
        refine lv_goto (tgt := 43) hx hb dX8_fewestBySets_39 (by decide) ?_
        refine lv_iadd hx hb dX8_fewestBySets_43 ?_
        obtain ⟨h10, hf⟩ := gin_s hf
        refine wk_iast hx hb hK hP hD hS 3 0 (k := x3.toNatClampNeg) rfl rfl h10 rfl dX8_fewestBySets_44 (fun g9 H locs eg9 hP hD hS => ?_)
        have hP : va_P (dC, dI) vwCl [(a 0, .inr (8, [.int E_count, .ref (a 1), .ref (a 2), .ref (a 3), .ref (a 4)])), (a 1, .inl (Y 0, 11, .inl E_open)), (a 2, .inl (Y 0, 2048, .inl E_sums)), (a 3, .inl (Y 0, 2048, .inl g9)), (a 4, .inl (Y 0, 2048, .inl E_transfers)), (b 0, .inr (4, [.int B_accounts, .ref (b 1), .ref (b 2), .int B_entries, .ref (b 3), .ref (b 4), .ref (b 5)])), (b 1, .inl (Y 0, 11, .inl B_balances)), (b 2, .inl (Y 0, 11, .inl B_balancesAtClosing)), (b 3, .inl (Y 0, 60, .inl B_debited)), (b 4, .inl (Y 0, 60, .inl B_credited)), (b 5, .inl (Y 0, 60, .inl B_amounts))] H := hP
        have hD : va_D A [(a 0, .inr (8, [.int E_count, .ref (a 1), .ref (a 2), .ref (a 3), .ref (a 4)])), (a 1, .inl (Y 0, 11, .inl E_open)), (a 2, .inl (Y 0, 2048, .inl E_sums)), (a 3, .inl (Y 0, 2048, .inl g9)), (a 4, .inl (Y 0, 2048, .inl E_transfers)), (b 0, .inr (4, [.int B_accounts, .ref (b 1), .ref (b 2), .int B_entries, .ref (b 3), .ref (b 4), .ref (b 5)])), (b 1, .inl (Y 0, 11, .inl B_balances)), (b 2, .inl (Y 0, 11, .inl B_balancesAtClosing)), (b 3, .inl (Y 0, 60, .inl B_debited)), (b 4, .inl (Y 0, 60, .inl B_credited)), (b 5, .inl (Y 0, 60, .inl B_amounts))] := hD
        have hf := wkl_s hf eg9
        refine lv_iinc (v := (x3 + 1)) (lv' := [(3, .int (x3 + 1)), (0, .ref (a 0)), (2, .int x2)]) hx hb dX8_fewestBySets_45 hl (k := 2) rfl rfl (by decide) rfl (fun ls hl => ?_)
        refine lv_goto (tgt := 14) hx hb dX8_fewestBySets_48 (by decide) ?_
        exact ih x2 (x3 + 1) E_count E_open E_sums g9 hf H locs hP hD hS ls (lv_sub hl [1, 2, 0] rfl)
set_option maxHeartbeats 4000000 in
set_option maxRecDepth 100000 in
theorem c_X8_fewestBySets (l : Launch) (dC : Nat → ClassId) (dI : Nat → Nat → Nat) (Y : Nat → ClassId) (a : Nat → Nat) (b : Nat → Nat) (E_count : Int32) (E_open : Nat → Int32) (E_sums : Nat → Int32) (E_groups : Nat → Int32) (E_transfers : Nat → Int32) (B_accounts : Int32) (B_balances : Nat → Int32) (B_balancesAtClosing : Nat → Int32) (B_entries : Int32) (B_debited : Nat → Int32) (B_credited : Nat → Int32) (B_amounts : Nat → Int32)  (sz : Nat) (r : Int32) (zE_count : Int32) (zE_open : Nat → Int32) (zE_sums : Nat → Int32) (zE_groups : Nat → Int32) (hf : f_X8_fewestBySets E_count E_open E_sums E_groups B_accounts B_balances = some (r, zE_count, zE_open, zE_sums, zE_groups)) : Met l yX8_fewestBySets wsX8_fewestBySets ({ frames := 2, cells := 0, slots := 0, locals := 44 } : Room) (va_Pc [.ref (a 0), .ref (b 0)] (wk_E (dC, dI) Y ((wX8 Y a E_count E_open E_sums E_groups E_transfers) ++ (wX2 Y b B_accounts B_balances B_balancesAtClosing B_entries B_debited B_credited B_amounts)) sz)) (va_Qi (fun r2 (_ : Unit) => r2 = r) (fun _ t => wk_X (dC, dI) Y ((wX8 Y a zE_count zE_open zE_sums zE_groups E_transfers) ++ (wX2 Y b B_accounts B_balances B_balancesAtClosing B_entries B_debited B_credited B_amounts)) (va_A ((wX8 Y a E_count E_open E_sums E_groups E_transfers) ++ (wX2 Y b B_accounts B_balances B_balancesAtClosing B_entries B_debited B_credited B_amounts)) sz) t) (va_A ((wX8 Y a E_count E_open E_sums E_groups E_transfers) ++ (wX2 Y b B_accounts B_balances B_balancesAtClosing B_entries B_debited B_credited B_amounts)) sz)) 0 0 (va_A ((wX8 Y a E_count E_open E_sums E_groups E_transfers) ++ (wX2 Y b B_accounts B_balances B_balancesAtClosing B_entries B_debited B_credited B_amounts)) sz) := by
  refine Met.ofW (cc := cX8_fewestBySets) (maxL := 4) (ret := (some .int)) (by decide) rfl ?_
  intro p e s m args below meth c s₁ B hml hv
  obtain ⟨rfl, hsz, hP, hK, hD0⟩ := hv
  have hx := B.exec
  have hb := B.bytes
  have hr := B.returns
  have hts := atoms_spec (ws := wsX8_fewestBySets) B.pre
  have hown : s.vm.findClass RX8 = some m.cls := findClass_of_methodNamed B.named
  have hlocks := B.notSynchronized
  have C0 : wk_C p s m _ meth c cX8_fewestBySets 4 (some .int) wsX8_fewestBySets RX8 := ⟨hx, hb, hml, hr, hlocks, hown, hts⟩
  subst hsz
  have hD := hD0.self (sz := s.heap.size)
  generalize hAe : va_A ((wX8 Y a E_count E_open E_sums E_groups E_transfers) ++ (wX2 Y b B_accounts B_balances B_balancesAtClosing B_entries B_debited B_credited B_amounts)) s.heap.size = A at hD ⊢
  have hA : ∀ q : Nat, s.heap.size ≤ q → A q := fun q h => by rw [← hAe]; exact Or.inr h
  have hS : va_S A s.heap s.heap [] := va_S.rf
  obtain ⟨H, hHe⟩ : ∃ H, H = s.heap := ⟨_, rfl⟩
  have hS : va_S A s.heap H [] := by rw [hHe]; exact hS
  have hP : va_P (dC, dI) vwCl [(a 0, .inr (8, [.int E_count, .ref (a 1), .ref (a 2), .ref (a 3), .ref (a 4)])), (a 1, .inl (Y 0, 11, .inl E_open)), (a 2, .inl (Y 0, 2048, .inl E_sums)), (a 3, .inl (Y 0, 2048, .inl E_groups)), (a 4, .inl (Y 0, 2048, .inl E_transfers)), (b 0, .inr (4, [.int B_accounts, .ref (b 1), .ref (b 2), .int B_entries, .ref (b 3), .ref (b 4), .ref (b 5)])), (b 1, .inl (Y 0, 11, .inl B_balances)), (b 2, .inl (Y 0, 11, .inl B_balancesAtClosing)), (b 3, .inl (Y 0, 60, .inl B_debited)), (b 4, .inl (Y 0, 60, .inl B_credited)), (b 5, .inl (Y 0, 60, .inl B_amounts))] H := by rw [hHe]; exact hP
  have hD : va_D A [(a 0, .inr (8, [.int E_count, .ref (a 1), .ref (a 2), .ref (a 3), .ref (a 4)])), (a 1, .inl (Y 0, 11, .inl E_open)), (a 2, .inl (Y 0, 2048, .inl E_sums)), (a 3, .inl (Y 0, 2048, .inl E_groups)), (a 4, .inl (Y 0, 2048, .inl E_transfers)), (b 0, .inr (4, [.int B_accounts, .ref (b 1), .ref (b 2), .int B_entries, .ref (b 3), .ref (b 4), .ref (b 5)])), (b 1, .inl (Y 0, 11, .inl B_balances)), (b 2, .inl (Y 0, 11, .inl B_balancesAtClosing)), (b 3, .inl (Y 0, 60, .inl B_debited)), (b 4, .inl (Y 0, 60, .inl B_credited)), (b 5, .inl (Y 0, 60, .inl B_amounts))] := hD
  obtain ⟨locs, hlo⟩ : ∃ locs : List Loc, locs = [] := ⟨_, rfl⟩
  have hS : va_S A s.heap H locs := by rw [hlo]; exact hS
  have hl := lv_entry ([.ref (a 0), .ref (b 0)]) (n := 4) (Nat.le_of_ble_eq_true rfl)
  rw [lg_entry_eq]
  generalize (lg_sl ([.ref (a 0), .ref (b 0)]) ++ List.replicate (4 - (lg_sl ([.ref (a 0), .ref (b 0)])).length) Slot.unset).toArray = ls at hl ⊢
  have hl : lv_has ls 4 [(0, .ref (a 0)), (1, .ref (b 0))] := hl
  refine wk_start hHe hlo ?_
  rw [f_X8_fewestBySets] at hf
  refine lv_aload_n hx hb dX8_fewestBySets_0 rfl (lv_at hl 0 rfl) ?_
  refine lv_aload_n hx hb dX8_fewestBySets_1 rfl (lv_at hl 1 rfl) ?_
  obtain ⟨w1, w2, w3, hr4, hf⟩ := wkb3_s hf
  refine wk_evv (As := [.ref (b 0)]) (rest := []) (wc := ((wX8 Y a E_count E_open E_sums E_groups E_transfers) ++ (wX2 Y b B_accounts B_balances B_balancesAtClosing B_entries B_debited B_credited B_amounts))) (w1 := ((wX8 Y a w1 w2 w3 E_groups E_transfers) ++ (wX2 Y b B_accounts B_balances B_balancesAtClosing B_entries B_debited B_credited B_amounts))) (wr := []) ⟨hx, hb, hml, hown, hts⟩ (c_X8_takeOpenBalances l dC dI Y a b E_count E_open E_sums E_groups E_transfers B_accounts B_balances B_balancesAtClosing B_entries B_debited B_credited B_amounts H.size w1 w2 w3 hr4) (cwV 1 hts gX8_fewestBySets_X8_takeOpenBalances rfl rfl rfl (by decide +kernel) ⟨Nat.le_of_ble_eq_true rfl, Nat.le_of_ble_eq_true rfl⟩) hK hP hD hS hA [0, 1, 2, 3, 4, 5, 6, 7, 8, 9, 10] [] rfl rfl (by decide) (by decide) (by decide) (va_recv hK hP (ci := 8) (q0 := 0) rfl rfl) rfl hl.1 rfl (Nat.le_of_ble_eq_true rfl) dX8_fewestBySets_2 ⟨Nat.le_of_ble_eq_true rfl, Nat.le_of_ble_eq_true rfl⟩ (fun H locs hP hD hS => ?_)
  have hP : va_P (dC, dI) vwCl [(a 0, .inr (8, [.int w1, .ref (a 1), .ref (a 2), .ref (a 3), .ref (a 4)])), (a 1, .inl (Y 0, 11, .inl w2)), (a 2, .inl (Y 0, 2048, .inl w3)), (a 3, .inl (Y 0, 2048, .inl E_groups)), (a 4, .inl (Y 0, 2048, .inl E_transfers)), (b 0, .inr (4, [.int B_accounts, .ref (b 1), .ref (b 2), .int B_entries, .ref (b 3), .ref (b 4), .ref (b 5)])), (b 1, .inl (Y 0, 11, .inl B_balances)), (b 2, .inl (Y 0, 11, .inl B_balancesAtClosing)), (b 3, .inl (Y 0, 60, .inl B_debited)), (b 4, .inl (Y 0, 60, .inl B_credited)), (b 5, .inl (Y 0, 60, .inl B_amounts))] H := hP
  have hD : va_D A [(a 0, .inr (8, [.int w1, .ref (a 1), .ref (a 2), .ref (a 3), .ref (a 4)])), (a 1, .inl (Y 0, 11, .inl w2)), (a 2, .inl (Y 0, 2048, .inl w3)), (a 3, .inl (Y 0, 2048, .inl E_groups)), (a 4, .inl (Y 0, 2048, .inl E_transfers)), (b 0, .inr (4, [.int B_accounts, .ref (b 1), .ref (b 2), .int B_entries, .ref (b 3), .ref (b 4), .ref (b 5)])), (b 1, .inl (Y 0, 11, .inl B_balances)), (b 2, .inl (Y 0, 11, .inl B_balancesAtClosing)), (b 3, .inl (Y 0, 60, .inl B_debited)), (b 4, .inl (Y 0, 60, .inl B_credited)), (b 5, .inl (Y 0, 60, .inl B_amounts))] := hD
  refine lv_iconst (v := 1) hx hb dX8_fewestBySets_5 (by decide) ?_
  refine lv_aload_n hx hb dX8_fewestBySets_6 rfl (lv_at hl 0 rfl) ?_
  refine va_get (D := (dC, dI)) (ci := 8) (v := .int w1) (C := RX8) (T := TX8) (N := 5) hx hb hts in_X8_fewestBySets_X8 hown hK hP 0 rfl rfl 0 (by decide) (hts _ lk_X8_fewestBySets_RX8_28) (fun _ h9 => h9) rfl dX8_fewestBySets_7 ?_
  refine lv_ishl hx hb dX8_fewestBySets_10 ?_
  refine lv_istore_n (lv' := [(2, .int ((1 : Int32) <<< (w1 &&& 31))), (0, .ref (a 0)), (1, .ref (b 0))]) hx hb dX8_fewestBySets_11 rfl hl (by decide) rfl (fun ls hl => ?_)
  refine lv_iconst (v := 1) hx hb dX8_fewestBySets_12 (by decide) ?_
  refine lv_istore_n (lv' := [(3, .int 1), (2, .int ((1 : Int32) <<< (w1 &&& 31))), (0, .ref (a 0)), (1, .ref (b 0))]) hx hb dX8_fewestBySets_13 rfl hl (by decide) rfl (fun ls hl => ?_)
  exact wl_X8_fewestBySets_L14 C0 hK hA FU ((1 : Int32) <<< (w1 &&& 31)) 1 w1 w2 w3 E_groups hf H locs hP hD hS ls (lv_sub hl [2, 1, 0] rfl)
theorem lk_X8_fewestWithEachOther_RX8_9 : Cond.fieldLink RX8 9 "CircusLedger$Settling" "open" "[I" ∈ wsX8_fewestWithEachOther := by decide +kernel
theorem lk_X8_fewestWithEachOther_RX8_28 : Cond.fieldLink RX8 28 "CircusLedger$Settling" "count" "I" ∈ wsX8_fewestWithEachOther := by decide +kernel
theorem mx_X8_fewestWithEachOther_RX8_64 : Cond.methodLink RX8 64 Lib.Math.min.name ∈ wsX8_fewestWithEachOther ∧ Cond.static Lib.Math.min.name ∈ wsX8_fewestWithEachOther ∧ Cond.initialized "java/lang/Math" ∈ wsX8_fewestWithEachOther ∧ Cond.code Lib.Math.min.name Lib.Math.min.code 2 (some .int) ∈ wsX8_fewestWithEachOther := ⟨by decide +kernel, by decide +kernel, by decide +kernel, by decide +kernel⟩
theorem in_X8_fewestWithEachOther_X8 : ∀ w ∈ u_ws RX8 TX8 5, w ∈ wsX8_fewestWithEachOther := by decide +kernel
def f_X8_fewestWithEachOther_L48 (F : Int32 → Int32 → (Nat → Int32) → Option (Int32 × (Nat → Int32))) (E_count : Int32) (E_open : Nat → Int32) (x1 : Int32) (x2 : Int32) (x3 : Int32) (K7 : Int32 → Int32 → (Nat → Int32) → Option (Int32 × (Nat → Int32))) (x4 : Int32) (x5 : Int32) (y0 : Int32) (E_transfers : (Nat → Int32)) : Option (Int32 × (Nat → Int32)) :=
    if ((x1 >>> (x5 &&& 31)) &&& 1) = 1 then
      (if y0 = 0 then
        (K7 x4 (x5 + 1) E_transfers)
      else
        (wkb2 (F (x1 &&& (((1 : Int32) <<< (x5 &&& 31)) ^^^ (-1))) (x3 + 1) E_transfers) (fun r3 w4 =>
        K7 (if (1 + r3) < x4 then (1 + r3) else x4) (x5 + 1) w4)))
    else
      (K7 x4 (x5 + 1) E_transfers)
def f_X8_fewestWithEachOther_L40 (F : Int32 → Int32 → (Nat → Int32) → Option (Int32 × (Nat → Int32))) (E_count : Int32) (E_open : Nat → Int32) (x1 : Int32) (x2 : Int32) (x3 : Int32) (K7 : Int32 → Int32 → (Nat → Int32) → Option (Int32 × (Nat → Int32))) (x4 : Int32) (x5 : Int32) (y0 : Int32) (y1 : Int32) (E_transfers : (Nat → Int32)) : Option (Int32 × (Nat → Int32)) :=
    if y1 = y0 then
      (f_X8_fewestWithEachOther_L48 F E_count E_open x1 x2 x3 K7 x4 x5 0 E_transfers)
    else
      (f_X8_fewestWithEachOther_L48 F E_count E_open x1 x2 x3 K7 x4 x5 1 E_transfers)
def f_X8_fewestWithEachOther_L31 (F : Int32 → Int32 → (Nat → Int32) → Option (Int32 × (Nat → Int32))) (E_count : Int32) (E_open : Nat → Int32) (x1 : Int32) (x2 : Int32) (x3 : Int32) (K7 : Int32 → Int32 → (Nat → Int32) → Option (Int32 × (Nat → Int32))) (x4 : Int32) (x5 : Int32) (y0 : Int32) (E_transfers : (Nat → Int32)) : Option (Int32 × (Nat → Int32)) :=
    if x2 ≤ 0 then
      (f_X8_fewestWithEachOther_L40 F E_count E_open x1 x2 x3 K7 x4 x5 0 y0 E_transfers)
    else
      (f_X8_fewestWithEachOther_L40 F E_count E_open x1 x2 x3 K7 x4 x5 1 y0 E_transfers)
def f_X8_fewestWithEachOther_L7 (F : Int32 → Int32 → (Nat → Int32) → Option (Int32 × (Nat → Int32))) (E_count : Int32) (E_open : Nat → Int32) (x1 : Int32) (x2 : Int32) (x3 : Int32) : Nat → Int32 → Int32 → (Nat → Int32) → Option (Int32 × (Nat → Int32))
  | 0, _, _, _ => none
  | nn + 1, x4, x5, E_transfers =>
    if E_count ≤ x5 then
      (some (x4, E_transfers))
    else
      (gin x5 11 (if (E_open x5.toNatClampNeg) ≤ 0 then
        (f_X8_fewestWithEachOther_L31 F E_count E_open x1 x2 x3 (f_X8_fewestWithEachOther_L7 F E_count E_open x1 x2 x3 nn) x4 x5 0 E_transfers)
      else
        (f_X8_fewestWithEachOther_L31 F E_count E_open x1 x2 x3 (f_X8_fewestWithEachOther_L7 F E_count E_open x1 x2 x3 nn) x4 x5 1 E_transfers)))
def f_X8_fewestWithEachOther (F : Int32 → Int32 → (Nat → Int32) → Option (Int32 × (Nat → Int32))) (E_count : Int32) (E_open : Nat → Int32) (E_transfers : Nat → Int32) (x1 : Int32) (x2 : Int32) (x3 : Int32) : Option (Int32 × (Nat → Int32)) :=
  f_X8_fewestWithEachOther_L7 F E_count E_open x1 x2 x3 FU 11 0 E_transfers
set_option maxHeartbeats 4000000 in
set_option maxRecDepth 100000 in
theorem wl_X8_fewestWithEachOther_L48 {p : Program} {l : Launch} {e : Env} {s : State} {m : MethodId} {args : Array Value} {below : List Frame} {meth : Method} {c : Code} {dC : Nat → ClassId} {dI : Nat → Nat → Nat} {Y : Nat → ClassId} {a : Nat → Nat} {E_count : Int32} {E_open : Nat → Int32} {E_sums : Nat → Int32} {E_groups : Nat → Int32} {x1 : Int32} {x2 : Int32} {x3 : Int32} {r : Int32} {zE_transfers : Nat → Int32} {K7 : Int32 → Int32 → (Nat → Int32) → Option (Int32 × (Nat → Int32))} {F : Int32 → Int32 → (Nat → Int32) → Option (Int32 × (Nat → Int32))} {fr lo : Nat} (C0 : wk_C p s m args meth c cX8_fewestWithEachOther 7 (some .int) wsX8_fewestWithEachOther RX8) {A : Nat → Prop} (hK : va_K (dC, dI) vwCl (vTy Y) s) (hA : ∀ q, s.heap.size ≤ q → A q) (hF : ∀ (k0 k1 : Int32) (hE_transfers : Nat → Int32) (sz : Nat) (r : Int32) (zE_transfers : Nat → Int32), F k0 k1 hE_transfers = some (r, zE_transfers) → Met l yX8_fewestFor wsX8_fewestFor ({ frames := fr, cells := 0, slots := 0, locals := lo } : Room) (va_Pc [.ref (a 0), .int k0, .int k1] (wk_E (dC, dI) Y (wX8 Y a E_count E_open E_sums E_groups hE_transfers) sz)) (va_Qi (fun r2 (_ : Unit) => r2 = r) (fun _ t => wk_X (dC, dI) Y (wX8 Y a E_count E_open E_sums E_groups zE_transfers) (va_A (wX8 Y a E_count E_open E_sums E_groups hE_transfers) sz) t) (va_A (wX8 Y a E_count E_open E_sums E_groups hE_transfers) sz)) 0 0 (va_A (wX8 Y a E_count E_open E_sums E_groups hE_transfers) sz)) (hK7 : ∀ (x4 : Int32) (x5 : Int32) (E_transfers : Nat → Int32), K7 x4 x5 E_transfers = some (r, zE_transfers) → ∀ (H : Heap) (locs : List Loc), va_P (dC, dI) vwCl (wX8 Y a E_count E_open E_sums E_groups E_transfers) H → va_D A (wX8 Y a E_count E_open E_sums E_groups E_transfers) → va_S A s.heap H locs → ∀ (ls : Array Slot), lv_has ls 7 [(0, .ref (a 0)), (1, .int x1), (2, .int x2), (3, .int x3), (4, .int x4), (5, .int x5)] → W p l e (headSpec wsX8_fewestWithEachOther ({ frames := fr + 4, cells := 0, slots := 0, locals := lo + 120 } : Room)).room s m args below meth c H locs 0 0 (MQ below (va_Qi (fun r2 (_ : Unit) => r2 = r) (fun _ t => wk_X (dC, dI) Y (wX8 Y a E_count E_open E_sums E_groups zE_transfers) A t) A) args s 0 0 A) (F0 m 7 ls [])) : ∀ (x4 : Int32) (x5 : Int32) (y0 : Int32) (E_transfers : Nat → Int32), f_X8_fewestWithEachOther_L48 F E_count E_open x1 x2 x3 K7 x4 x5 y0 E_transfers = some (r, zE_transfers) → ∀ (H : Heap) (locs : List Loc), va_P (dC, dI) vwCl (wX8 Y a E_count E_open E_sums E_groups E_transfers) H → va_D A (wX8 Y a E_count E_open E_sums E_groups E_transfers) → va_S A s.heap H locs → ∀ (ls : Array Slot), lv_has ls 7 [(0, .ref (a 0)), (1, .int x1), (2, .int x2), (3, .int x3), (4, .int x4), (5, .int x5)] → W p l e (headSpec wsX8_fewestWithEachOther ({ frames := fr + 4, cells := 0, slots := 0, locals := lo + 120 } : Room)).room s m args below meth c H locs 0 0 (MQ below (va_Qi (fun r2 (_ : Unit) => r2 = r) (fun _ t => wk_X (dC, dI) Y (wX8 Y a E_count E_open E_sums E_groups zE_transfers) A t) A) args s 0 0 A) (F0 m 48 ls [.int y0]) := by
  obtain ⟨hx, hb, hml, hr, hlocks, hown, hts⟩ := id C0
  intro x4 x5 y0 E_transfers hf H locs hP hD hS ls hl
  rw [f_X8_fewestWithEachOther_L48] at hf
  have hP : va_P (dC, dI) vwCl [(a 0, .inr (8, [.int E_count, .ref (a 1), .ref (a 2), .ref (a 3), .ref (a 4)])), (a 1, .inl (Y 0, 11, .inl E_open)), (a 2, .inl (Y 0, 2048, .inl E_sums)), (a 3, .inl (Y 0, 2048, .inl E_groups)), (a 4, .inl (Y 0, 2048, .inl E_transfers))] H := hP
  have hD : va_D A [(a 0, .inr (8, [.int E_count, .ref (a 1), .ref (a 2), .ref (a 3), .ref (a 4)])), (a 1, .inl (Y 0, 11, .inl E_open)), (a 2, .inl (Y 0, 2048, .inl E_sums)), (a 3, .inl (Y 0, 2048, .inl E_groups)), (a 4, .inl (Y 0, 2048, .inl E_transfers))] := hD
  refine lv_istore (lv' := [(6, .int y0), (0, .ref (a 0)), (1, .int x1), (2, .int x2), (3, .int x3), (4, .int x4), (5, .int x5)]) hx hb dX8_fewestWithEachOther_48 hl (by decide) rfl (fun ls hl => ?_)
  refine lv_iload_n hx hb dX8_fewestWithEachOther_50 rfl (lv_at hl 2 rfl) ?_
  refine lv_iload hx hb dX8_fewestWithEachOther_51 (lv_at hl 6 rfl) ?_
  refine lv_ishr hx hb dX8_fewestWithEachOther_53 ?_
  refine lv_iconst (v := 1) hx hb dX8_fewestWithEachOther_54 (by decide) ?_
  refine lv_iand hx hb dX8_fewestWithEachOther_55 ?_
  refine lv_iconst (v := 1) hx hb dX8_fewestWithEachOther_56 (by decide) ?_
  refine lv_icmp_ne (tgt := 89) hx hb dX8_fewestWithEachOther_57 (by decide) (fun q1 => ?_) (fun q1 => ?_)
  · have hf := wk_f hf q1
    refine lv_iinc (v := (x5 + 1)) (lv' := [(5, .int (x5 + 1)), (6, .int y0), (0, .ref (a 0)), (1, .int x1), (2, .int x2), (3, .int x3), (4, .int x4)]) hx hb dX8_fewestWithEachOther_89 hl (k := 6) rfl rfl (by decide) rfl (fun ls hl => ?_)
    refine lv_goto (tgt := 7) hx hb dX8_fewestWithEachOther_92 (by decide) ?_
    exact hK7 x4 (x5 + 1) E_transfers hf H locs hP hD hS ls (lv_sub hl [2, 3, 4, 5, 6, 0] rfl)
  · have hf := wk_t hf q1
    refine lv_iload hx hb dX8_fewestWithEachOther_60 (lv_at hl 0 rfl) ?_
    refine lv_if_eq (tgt := 89) hx hb dX8_fewestWithEachOther_62 (by decide) (fun q2 => ?_) (fun q2 => ?_)
    · have hf := wk_t hf q2
      refine lv_iinc (v := (x5 + 1)) (lv' := [(5, .int (x5 + 1)), (6, .int y0), (0, .ref (a 0)), (1, .int x1), (2, .int x2), (3, .int x3), (4, .int x4)]) hx hb dX8_fewestWithEachOther_89 hl (k := 6) rfl rfl (by decide) rfl (fun ls hl => ?_)
      refine lv_goto (tgt := 7) hx hb dX8_fewestWithEachOther_92 (by decide) ?_
      exact hK7 x4 (x5 + 1) E_transfers hf H locs hP hD hS ls (lv_sub hl [2, 3, 4, 5, 6, 0] rfl)
    · have hf := wk_f hf q2
      refine lv_iload hx hb dX8_fewestWithEachOther_65 (lv_at hl 5 rfl) ?_
      refine lv_iconst (v := 1) hx hb dX8_fewestWithEachOther_67 (by decide) ?_
      refine lv_aload_n hx hb dX8_fewestWithEachOther_68 rfl (lv_at hl 1 rfl) ?_
      refine lv_iload_n hx hb dX8_fewestWithEachOther_69 rfl (lv_at hl 2 rfl) ?_
      refine lv_iconst (v := 1) hx hb dX8_fewestWithEachOther_70 (by decide) ?_
      refine lv_iload hx hb dX8_fewestWithEachOther_71 (lv_at hl 6 rfl) ?_
      refine lv_ishl hx hb dX8_fewestWithEachOther_73 ?_
      refine lv_iconst (v := (-1)) hx hb dX8_fewestWithEachOther_74 (by decide) ?_
      refine lv_ixor hx hb dX8_fewestWithEachOther_75 ?_
      refine lv_iand hx hb dX8_fewestWithEachOther_76 ?_
      refine lv_iload_n hx hb dX8_fewestWithEachOther_77 rfl (lv_at hl 4 rfl) ?_
      refine lv_iconst (v := 1) hx hb dX8_fewestWithEachOther_78 (by decide) ?_
      refine lv_iadd hx hb dX8_fewestWithEachOther_79 ?_
      obtain ⟨r3, w4, hr5, hf⟩ := wkb2_s hf
      refine wk_esi (As := [.ref (a 0), .int (x1 &&& (((1 : Int32) <<< (x5 &&& 31)) ^^^ (-1))), .int (x3 + 1)]) (rest := [.int 1, .int x4]) (wc := (wX8 Y a E_count E_open E_sums E_groups E_transfers)) (w1 := (wX8 Y a E_count E_open E_sums E_groups w4)) (wr := []) ⟨hx, hb, hml, hown, hts⟩ (hF (x1 &&& (((1 : Int32) <<< (x5 &&& 31)) ^^^ (-1))) (x3 + 1) E_transfers H.size r3 w4 hr5) (va_cwS 3 hts gX8_fewestWithEachOther_X8_fewestFor rfl rfl rfl (by decide +kernel) ⟨show fr + 1 ≤ fr + 4 by omega, show 8 + (4 + 11) + lo ≤ lo + 120 by omega⟩) hK hP hD hS hA [0, 1, 2, 3, 4] [] rfl rfl (by decide) (by decide) (by decide) rfl hl.1 rfl (Nat.le_of_ble_eq_true rfl) dX8_fewestWithEachOther_80 ⟨Nat.zero_le _, Nat.zero_le _⟩ (fun H locs hP hD hS => ?_)
      have hP : va_P (dC, dI) vwCl [(a 0, .inr (8, [.int E_count, .ref (a 1), .ref (a 2), .ref (a 3), .ref (a 4)])), (a 1, .inl (Y 0, 11, .inl E_open)), (a 2, .inl (Y 0, 2048, .inl E_sums)), (a 3, .inl (Y 0, 2048, .inl E_groups)), (a 4, .inl (Y 0, 2048, .inl w4))] H := hP
      have hD : va_D A [(a 0, .inr (8, [.int E_count, .ref (a 1), .ref (a 2), .ref (a 3), .ref (a 4)])), (a 1, .inl (Y 0, 11, .inl E_open)), (a 2, .inl (Y 0, 2048, .inl E_sums)), (a 3, .inl (Y 0, 2048, .inl E_groups)), (a 4, .inl (Y 0, 2048, .inl w4))] := hD
      refine lv_iadd hx hb dX8_fewestWithEachOther_83 ?_
      refine va_mmin hx hb (hml.trans hl.1.symm) hown (hts _ mx_X8_fewestWithEachOther_RX8_64.1) (hts _ mx_X8_fewestWithEachOther_RX8_64.2.1) (hts _ mx_X8_fewestWithEachOther_RX8_64.2.2.1) (hts _ mx_X8_fewestWithEachOther_RX8_64.2.2.2) (Nat.le_of_ble_eq_true rfl) (Nat.le_of_ble_eq_true rfl) (Nat.le_of_ble_eq_true rfl) (Nat.le_of_ble_eq_true rfl) dX8_fewestWithEachOther_84 ?_
      refine lv_istore (lv' := [(4, .int (if (1 + r3) < x4 then (1 + r3) else x4)), (6, .int y0), (0, .ref (a 0)), (1, .int x1), (2, .int x2), (3, .int x3), (5, .int x5)]) hx hb dX8_fewestWithEachOther_87 hl (by decide) rfl (fun ls hl => ?_)
      refine lv_iinc (v := (x5 + 1)) (lv' := [(5, .int (x5 + 1)), (4, .int (if (1 + r3) < x4 then (1 + r3) else x4)), (6, .int y0), (0, .ref (a 0)), (1, .int x1), (2, .int x2), (3, .int x3)]) hx hb dX8_fewestWithEachOther_89 hl (k := 6) rfl rfl (by decide) rfl (fun ls hl => ?_)
      refine lv_goto (tgt := 7) hx hb dX8_fewestWithEachOther_92 (by decide) ?_
      exact hK7 (if (1 + r3) < x4 then (1 + r3) else x4) (x5 + 1) w4 hf H locs hP hD hS ls (lv_sub hl [3, 4, 5, 6, 1, 0] rfl)
set_option maxHeartbeats 4000000 in
set_option maxRecDepth 100000 in
theorem wl_X8_fewestWithEachOther_L40 {p : Program} {l : Launch} {e : Env} {s : State} {m : MethodId} {args : Array Value} {below : List Frame} {meth : Method} {c : Code} {dC : Nat → ClassId} {dI : Nat → Nat → Nat} {Y : Nat → ClassId} {a : Nat → Nat} {E_count : Int32} {E_open : Nat → Int32} {E_sums : Nat → Int32} {E_groups : Nat → Int32} {x1 : Int32} {x2 : Int32} {x3 : Int32} {r : Int32} {zE_transfers : Nat → Int32} {K7 : Int32 → Int32 → (Nat → Int32) → Option (Int32 × (Nat → Int32))} {F : Int32 → Int32 → (Nat → Int32) → Option (Int32 × (Nat → Int32))} {fr lo : Nat} (C0 : wk_C p s m args meth c cX8_fewestWithEachOther 7 (some .int) wsX8_fewestWithEachOther RX8) {A : Nat → Prop} (hK : va_K (dC, dI) vwCl (vTy Y) s) (hA : ∀ q, s.heap.size ≤ q → A q) (hF : ∀ (k0 k1 : Int32) (hE_transfers : Nat → Int32) (sz : Nat) (r : Int32) (zE_transfers : Nat → Int32), F k0 k1 hE_transfers = some (r, zE_transfers) → Met l yX8_fewestFor wsX8_fewestFor ({ frames := fr, cells := 0, slots := 0, locals := lo } : Room) (va_Pc [.ref (a 0), .int k0, .int k1] (wk_E (dC, dI) Y (wX8 Y a E_count E_open E_sums E_groups hE_transfers) sz)) (va_Qi (fun r2 (_ : Unit) => r2 = r) (fun _ t => wk_X (dC, dI) Y (wX8 Y a E_count E_open E_sums E_groups zE_transfers) (va_A (wX8 Y a E_count E_open E_sums E_groups hE_transfers) sz) t) (va_A (wX8 Y a E_count E_open E_sums E_groups hE_transfers) sz)) 0 0 (va_A (wX8 Y a E_count E_open E_sums E_groups hE_transfers) sz)) (hK7 : ∀ (x4 : Int32) (x5 : Int32) (E_transfers : Nat → Int32), K7 x4 x5 E_transfers = some (r, zE_transfers) → ∀ (H : Heap) (locs : List Loc), va_P (dC, dI) vwCl (wX8 Y a E_count E_open E_sums E_groups E_transfers) H → va_D A (wX8 Y a E_count E_open E_sums E_groups E_transfers) → va_S A s.heap H locs → ∀ (ls : Array Slot), lv_has ls 7 [(0, .ref (a 0)), (1, .int x1), (2, .int x2), (3, .int x3), (4, .int x4), (5, .int x5)] → W p l e (headSpec wsX8_fewestWithEachOther ({ frames := fr + 4, cells := 0, slots := 0, locals := lo + 120 } : Room)).room s m args below meth c H locs 0 0 (MQ below (va_Qi (fun r2 (_ : Unit) => r2 = r) (fun _ t => wk_X (dC, dI) Y (wX8 Y a E_count E_open E_sums E_groups zE_transfers) A t) A) args s 0 0 A) (F0 m 7 ls [])) : ∀ (x4 : Int32) (x5 : Int32) (y0 : Int32) (y1 : Int32) (E_transfers : Nat → Int32), f_X8_fewestWithEachOther_L40 F E_count E_open x1 x2 x3 K7 x4 x5 y0 y1 E_transfers = some (r, zE_transfers) → ∀ (H : Heap) (locs : List Loc), va_P (dC, dI) vwCl (wX8 Y a E_count E_open E_sums E_groups E_transfers) H → va_D A (wX8 Y a E_count E_open E_sums E_groups E_transfers) → va_S A s.heap H locs → ∀ (ls : Array Slot), lv_has ls 7 [(0, .ref (a 0)), (1, .int x1), (2, .int x2), (3, .int x3), (4, .int x4), (5, .int x5)] → W p l e (headSpec wsX8_fewestWithEachOther ({ frames := fr + 4, cells := 0, slots := 0, locals := lo + 120 } : Room)).room s m args below meth c H locs 0 0 (MQ below (va_Qi (fun r2 (_ : Unit) => r2 = r) (fun _ t => wk_X (dC, dI) Y (wX8 Y a E_count E_open E_sums E_groups zE_transfers) A t) A) args s 0 0 A) (F0 m 40 ls [.int y0, .int y1]) := by
  obtain ⟨hx, hb, hml, hr, hlocks, hown, hts⟩ := id C0
  intro x4 x5 y0 y1 E_transfers hf H locs hP hD hS ls hl
  rw [f_X8_fewestWithEachOther_L40] at hf
  have hP : va_P (dC, dI) vwCl [(a 0, .inr (8, [.int E_count, .ref (a 1), .ref (a 2), .ref (a 3), .ref (a 4)])), (a 1, .inl (Y 0, 11, .inl E_open)), (a 2, .inl (Y 0, 2048, .inl E_sums)), (a 3, .inl (Y 0, 2048, .inl E_groups)), (a 4, .inl (Y 0, 2048, .inl E_transfers))] H := hP
  have hD : va_D A [(a 0, .inr (8, [.int E_count, .ref (a 1), .ref (a 2), .ref (a 3), .ref (a 4)])), (a 1, .inl (Y 0, 11, .inl E_open)), (a 2, .inl (Y 0, 2048, .inl E_sums)), (a 3, .inl (Y 0, 2048, .inl E_groups)), (a 4, .inl (Y 0, 2048, .inl E_transfers))] := hD
  refine lv_icmp_eq (tgt := 47) hx hb dX8_fewestWithEachOther_40 (by decide) (fun q1 => ?_) (fun q1 => ?_)
  · have hf := wk_t hf q1
    refine lv_iconst (v := 0) hx hb dX8_fewestWithEachOther_47 (by decide) ?_
    exact wl_X8_fewestWithEachOther_L48 C0 hK hA hF hK7 x4 x5 0 E_transfers hf H locs hP hD hS ls (lv_sub hl [0, 1, 2, 3, 4, 5] rfl)
  · have hf := wk_f hf q1
    refine lv_iconst (v := 1) hx hb dX8_fewestWithEachOther_43 (by decide) ?_
    refine lv_goto (tgt := 48) hx hb dX8_fewestWithEachOther_44 (by decide) ?_
    exact wl_X8_fewestWithEachOther_L48 C0 hK hA hF hK7 x4 x5 1 E_transfers hf H locs hP hD hS ls (lv_sub hl [0, 1, 2, 3, 4, 5] rfl)
set_option maxHeartbeats 4000000 in
set_option maxRecDepth 100000 in
theorem wl_X8_fewestWithEachOther_L31 {p : Program} {l : Launch} {e : Env} {s : State} {m : MethodId} {args : Array Value} {below : List Frame} {meth : Method} {c : Code} {dC : Nat → ClassId} {dI : Nat → Nat → Nat} {Y : Nat → ClassId} {a : Nat → Nat} {E_count : Int32} {E_open : Nat → Int32} {E_sums : Nat → Int32} {E_groups : Nat → Int32} {x1 : Int32} {x2 : Int32} {x3 : Int32} {r : Int32} {zE_transfers : Nat → Int32} {K7 : Int32 → Int32 → (Nat → Int32) → Option (Int32 × (Nat → Int32))} {F : Int32 → Int32 → (Nat → Int32) → Option (Int32 × (Nat → Int32))} {fr lo : Nat} (C0 : wk_C p s m args meth c cX8_fewestWithEachOther 7 (some .int) wsX8_fewestWithEachOther RX8) {A : Nat → Prop} (hK : va_K (dC, dI) vwCl (vTy Y) s) (hA : ∀ q, s.heap.size ≤ q → A q) (hF : ∀ (k0 k1 : Int32) (hE_transfers : Nat → Int32) (sz : Nat) (r : Int32) (zE_transfers : Nat → Int32), F k0 k1 hE_transfers = some (r, zE_transfers) → Met l yX8_fewestFor wsX8_fewestFor ({ frames := fr, cells := 0, slots := 0, locals := lo } : Room) (va_Pc [.ref (a 0), .int k0, .int k1] (wk_E (dC, dI) Y (wX8 Y a E_count E_open E_sums E_groups hE_transfers) sz)) (va_Qi (fun r2 (_ : Unit) => r2 = r) (fun _ t => wk_X (dC, dI) Y (wX8 Y a E_count E_open E_sums E_groups zE_transfers) (va_A (wX8 Y a E_count E_open E_sums E_groups hE_transfers) sz) t) (va_A (wX8 Y a E_count E_open E_sums E_groups hE_transfers) sz)) 0 0 (va_A (wX8 Y a E_count E_open E_sums E_groups hE_transfers) sz)) (hK7 : ∀ (x4 : Int32) (x5 : Int32) (E_transfers : Nat → Int32), K7 x4 x5 E_transfers = some (r, zE_transfers) → ∀ (H : Heap) (locs : List Loc), va_P (dC, dI) vwCl (wX8 Y a E_count E_open E_sums E_groups E_transfers) H → va_D A (wX8 Y a E_count E_open E_sums E_groups E_transfers) → va_S A s.heap H locs → ∀ (ls : Array Slot), lv_has ls 7 [(0, .ref (a 0)), (1, .int x1), (2, .int x2), (3, .int x3), (4, .int x4), (5, .int x5)] → W p l e (headSpec wsX8_fewestWithEachOther ({ frames := fr + 4, cells := 0, slots := 0, locals := lo + 120 } : Room)).room s m args below meth c H locs 0 0 (MQ below (va_Qi (fun r2 (_ : Unit) => r2 = r) (fun _ t => wk_X (dC, dI) Y (wX8 Y a E_count E_open E_sums E_groups zE_transfers) A t) A) args s 0 0 A) (F0 m 7 ls [])) : ∀ (x4 : Int32) (x5 : Int32) (y0 : Int32) (E_transfers : Nat → Int32), f_X8_fewestWithEachOther_L31 F E_count E_open x1 x2 x3 K7 x4 x5 y0 E_transfers = some (r, zE_transfers) → ∀ (H : Heap) (locs : List Loc), va_P (dC, dI) vwCl (wX8 Y a E_count E_open E_sums E_groups E_transfers) H → va_D A (wX8 Y a E_count E_open E_sums E_groups E_transfers) → va_S A s.heap H locs → ∀ (ls : Array Slot), lv_has ls 7 [(0, .ref (a 0)), (1, .int x1), (2, .int x2), (3, .int x3), (4, .int x4), (5, .int x5)] → W p l e (headSpec wsX8_fewestWithEachOther ({ frames := fr + 4, cells := 0, slots := 0, locals := lo + 120 } : Room)).room s m args below meth c H locs 0 0 (MQ below (va_Qi (fun r2 (_ : Unit) => r2 = r) (fun _ t => wk_X (dC, dI) Y (wX8 Y a E_count E_open E_sums E_groups zE_transfers) A t) A) args s 0 0 A) (F0 m 31 ls [.int y0]) := by
  obtain ⟨hx, hb, hml, hr, hlocks, hown, hts⟩ := id C0
  intro x4 x5 y0 E_transfers hf H locs hP hD hS ls hl
  rw [f_X8_fewestWithEachOther_L31] at hf
  have hP : va_P (dC, dI) vwCl [(a 0, .inr (8, [.int E_count, .ref (a 1), .ref (a 2), .ref (a 3), .ref (a 4)])), (a 1, .inl (Y 0, 11, .inl E_open)), (a 2, .inl (Y 0, 2048, .inl E_sums)), (a 3, .inl (Y 0, 2048, .inl E_groups)), (a 4, .inl (Y 0, 2048, .inl E_transfers))] H := hP
  have hD : va_D A [(a 0, .inr (8, [.int E_count, .ref (a 1), .ref (a 2), .ref (a 3), .ref (a 4)])), (a 1, .inl (Y 0, 11, .inl E_open)), (a 2, .inl (Y 0, 2048, .inl E_sums)), (a 3, .inl (Y 0, 2048, .inl E_groups)), (a 4, .inl (Y 0, 2048, .inl E_transfers))] := hD
  refine lv_iload_n hx hb dX8_fewestWithEachOther_31 rfl (lv_at hl 2 rfl) ?_
  refine lv_if_le (tgt := 39) hx hb dX8_fewestWithEachOther_32 (by decide) (fun q1 => ?_) (fun q1 => ?_)
  · have hf := wk_t hf q1
    refine lv_iconst (v := 0) hx hb dX8_fewestWithEachOther_39 (by decide) ?_
    exact wl_X8_fewestWithEachOther_L40 C0 hK hA hF hK7 x4 x5 0 y0 E_transfers hf H locs hP hD hS ls (lv_sub hl [0, 1, 2, 3, 4, 5] rfl)
  · have hf := wk_f hf q1
    refine lv_iconst (v := 1) hx hb dX8_fewestWithEachOther_35 (by decide) ?_
    refine lv_goto (tgt := 40) hx hb dX8_fewestWithEachOther_36 (by decide) ?_
    exact wl_X8_fewestWithEachOther_L40 C0 hK hA hF hK7 x4 x5 1 y0 E_transfers hf H locs hP hD hS ls (lv_sub hl [0, 1, 2, 3, 4, 5] rfl)
set_option maxHeartbeats 4000000 in
set_option maxRecDepth 100000 in
theorem wl_X8_fewestWithEachOther_L7 {p : Program} {l : Launch} {e : Env} {s : State} {m : MethodId} {args : Array Value} {below : List Frame} {meth : Method} {c : Code} {dC : Nat → ClassId} {dI : Nat → Nat → Nat} {Y : Nat → ClassId} {a : Nat → Nat} {E_count : Int32} {E_open : Nat → Int32} {E_sums : Nat → Int32} {E_groups : Nat → Int32} {x1 : Int32} {x2 : Int32} {x3 : Int32} {r : Int32} {zE_transfers : Nat → Int32}  {F : Int32 → Int32 → (Nat → Int32) → Option (Int32 × (Nat → Int32))} {fr lo : Nat} (C0 : wk_C p s m args meth c cX8_fewestWithEachOther 7 (some .int) wsX8_fewestWithEachOther RX8) {A : Nat → Prop} (hK : va_K (dC, dI) vwCl (vTy Y) s) (hA : ∀ q, s.heap.size ≤ q → A q) (hF : ∀ (k0 k1 : Int32) (hE_transfers : Nat → Int32) (sz : Nat) (r : Int32) (zE_transfers : Nat → Int32), F k0 k1 hE_transfers = some (r, zE_transfers) → Met l yX8_fewestFor wsX8_fewestFor ({ frames := fr, cells := 0, slots := 0, locals := lo } : Room) (va_Pc [.ref (a 0), .int k0, .int k1] (wk_E (dC, dI) Y (wX8 Y a E_count E_open E_sums E_groups hE_transfers) sz)) (va_Qi (fun r2 (_ : Unit) => r2 = r) (fun _ t => wk_X (dC, dI) Y (wX8 Y a E_count E_open E_sums E_groups zE_transfers) (va_A (wX8 Y a E_count E_open E_sums E_groups hE_transfers) sz) t) (va_A (wX8 Y a E_count E_open E_sums E_groups hE_transfers) sz)) 0 0 (va_A (wX8 Y a E_count E_open E_sums E_groups hE_transfers) sz)) : ∀ (nn : Nat) (x4 : Int32) (x5 : Int32)  (E_transfers : Nat → Int32), f_X8_fewestWithEachOther_L7 F E_count E_open x1 x2 x3 nn x4 x5 E_transfers = some (r, zE_transfers) → ∀ (H : Heap) (locs : List Loc), va_P (dC, dI) vwCl (wX8 Y a E_count E_open E_sums E_groups E_transfers) H → va_D A (wX8 Y a E_count E_open E_sums E_groups E_transfers) → va_S A s.heap H locs → ∀ (ls : Array Slot), lv_has ls 7 [(0, .ref (a 0)), (1, .int x1), (2, .int x2), (3, .int x3), (4, .int x4), (5, .int x5)] → W p l e (headSpec wsX8_fewestWithEachOther ({ frames := fr + 4, cells := 0, slots := 0, locals := lo + 120 } : Room)).room s m args below meth c H locs 0 0 (MQ below (va_Qi (fun r2 (_ : Unit) => r2 = r) (fun _ t => wk_X (dC, dI) Y (wX8 Y a E_count E_open E_sums E_groups zE_transfers) A t) A) args s 0 0 A) (F0 m 7 ls []) := by
  have C0 := C0
  obtain ⟨hx, hb, hml, hr, hlocks, hown, hts⟩ := id C0
  intro nn
  induction nn with
  | zero =>
    intro x4 x5 E_transfers hf
    rw [f_X8_fewestWithEachOther_L7] at hf
    cases hf
  | succ nn ih =>
    intro x4 x5 E_transfers hf H locs hP hD hS ls hl
    rw [f_X8_fewestWithEachOther_L7] at hf
    have hP : va_P (dC, dI) vwCl [(a 0, .inr (8, [.int E_count, .ref (a 1), .ref (a 2), .ref (a 3), .ref (a 4)])), (a 1, .inl (Y 0, 11, .inl E_open)), (a 2, .inl (Y 0, 2048, .inl E_sums)), (a 3, .inl (Y 0, 2048, .inl E_groups)), (a 4, .inl (Y 0, 2048, .inl E_transfers))] H := hP
    have hD : va_D A [(a 0, .inr (8, [.int E_count, .ref (a 1), .ref (a 2), .ref (a 3), .ref (a 4)])), (a 1, .inl (Y 0, 11, .inl E_open)), (a 2, .inl (Y 0, 2048, .inl E_sums)), (a 3, .inl (Y 0, 2048, .inl E_groups)), (a 4, .inl (Y 0, 2048, .inl E_transfers))] := hD
    refine lv_iload hx hb dX8_fewestWithEachOther_7 (lv_at hl 5 rfl) ?_
    refine lv_aload_n hx hb dX8_fewestWithEachOther_9 rfl (lv_at hl 0 rfl) ?_
    refine va_get (D := (dC, dI)) (ci := 8) (v := .int E_count) (C := RX8) (T := TX8) (N := 5) hx hb hts in_X8_fewestWithEachOther_X8 hown hK hP 0 rfl rfl 0 (by decide) (hts _ lk_X8_fewestWithEachOther_RX8_28) (fun _ h9 => h9) rfl dX8_fewestWithEachOther_10 ?_
    refine lv_icmp_ge (tgt := 95) hx hb dX8_fewestWithEachOther_13 (by decide) (fun q1 => ?_) (fun q1 => ?_)
    · have hf := wk_t hf q1
      refine lv_iload hx hb dX8_fewestWithEachOther_95 (lv_at hl 4 rfl) ?_
      obtain ⟨e0, e1⟩ := wke2 hf
      subst e0
      subst e1
      have hP9 := hP.sub (ws' := (wX8 Y a E_count E_open E_sums E_groups E_transfers)) [0, 1, 2, 3, 4] rfl
      have hD9 := hD.sub (ws' := (wX8 Y a E_count E_open E_sums E_groups E_transfers)) [0, 1, 2, 3, 4] (by decide) rfl
      exact W.iret (v := x4) hx hb hr (fun t ht hW => ⟨⟨x4, (), rfl, rfl, by rw [ht]; exact hP9, va_K.moved hW.alike hK, hD9⟩, hS.F ht⟩) hS.2.2 dX8_fewestWithEachOther_97
    · have hf := wk_f hf q1
      refine lv_aload_n hx hb dX8_fewestWithEachOther_16 rfl (lv_at hl 0 rfl) ?_
      refine va_get (D := (dC, dI)) (ci := 8) (v := .ref (a 1)) (C := RX8) (T := TX8) (N := 5) hx hb hts in_X8_fewestWithEachOther_X8 hown hK hP 0 rfl rfl 1 (by decide) (hts _ lk_X8_fewestWithEachOther_RX8_9) (fun _ h9 => h9) rfl dX8_fewestWithEachOther_17 ?_
      refine lv_iload hx hb dX8_fewestWithEachOther_20 (lv_at hl 5 rfl) ?_
      obtain ⟨h2, hf⟩ := gin_s hf
      refine wk_iald hx hb hK hP 1 0 rfl rfl h2 rfl dX8_fewestWithEachOther_22 ?_
      refine lv_if_le (tgt := 30) hx hb dX8_fewestWithEachOther_23 (by decide) (fun q3 => ?_) (fun q3 => ?_)
      · have hf := wk_t hf q3
        refine lv_iconst (v := 0) hx hb dX8_fewestWithEachOther_30 (by decide) ?_
        exact wl_X8_fewestWithEachOther_L31 C0 hK hA hF ih x4 x5 0 E_transfers hf H locs hP hD hS ls (lv_sub hl [0, 1, 2, 3, 4, 5] rfl)
      · have hf := wk_f hf q3
        refine lv_iconst (v := 1) hx hb dX8_fewestWithEachOther_26 (by decide) ?_
        refine lv_goto (tgt := 31) hx hb dX8_fewestWithEachOther_27 (by decide) ?_
        exact wl_X8_fewestWithEachOther_L31 C0 hK hA hF ih x4 x5 1 E_transfers hf H locs hP hD hS ls (lv_sub hl [0, 1, 2, 3, 4, 5] rfl)
set_option maxHeartbeats 4000000 in
set_option maxRecDepth 100000 in
theorem c_X8_fewestWithEachOther (l : Launch) (dC : Nat → ClassId) (dI : Nat → Nat → Nat) (Y : Nat → ClassId) (F : Int32 → Int32 → (Nat → Int32) → Option (Int32 × (Nat → Int32))) (fr lo : Nat) (a : Nat → Nat) (E_count : Int32) (E_open : Nat → Int32) (E_sums : Nat → Int32) (E_groups : Nat → Int32) (E_transfers : Nat → Int32) (hF : ∀ (k0 k1 : Int32) (hE_transfers : Nat → Int32) (sz : Nat) (r : Int32) (zE_transfers : Nat → Int32), F k0 k1 hE_transfers = some (r, zE_transfers) → Met l yX8_fewestFor wsX8_fewestFor ({ frames := fr, cells := 0, slots := 0, locals := lo } : Room) (va_Pc [.ref (a 0), .int k0, .int k1] (wk_E (dC, dI) Y (wX8 Y a E_count E_open E_sums E_groups hE_transfers) sz)) (va_Qi (fun r2 (_ : Unit) => r2 = r) (fun _ t => wk_X (dC, dI) Y (wX8 Y a E_count E_open E_sums E_groups zE_transfers) (va_A (wX8 Y a E_count E_open E_sums E_groups hE_transfers) sz) t) (va_A (wX8 Y a E_count E_open E_sums E_groups hE_transfers) sz)) 0 0 (va_A (wX8 Y a E_count E_open E_sums E_groups hE_transfers) sz)) (x1 : Int32) (x2 : Int32) (x3 : Int32) (sz : Nat) (r : Int32) (zE_transfers : Nat → Int32) (hf : f_X8_fewestWithEachOther F E_count E_open E_transfers x1 x2 x3 = some (r, zE_transfers)) : Met l yX8_fewestWithEachOther wsX8_fewestWithEachOther ({ frames := fr + 4, cells := 0, slots := 0, locals := lo + 120 } : Room) (va_Pc [.ref (a 0), .int x1, .int x2, .int x3] (wk_E (dC, dI) Y (wX8 Y a E_count E_open E_sums E_groups E_transfers) sz)) (va_Qi (fun r2 (_ : Unit) => r2 = r) (fun _ t => wk_X (dC, dI) Y (wX8 Y a E_count E_open E_sums E_groups zE_transfers) (va_A (wX8 Y a E_count E_open E_sums E_groups E_transfers) sz) t) (va_A (wX8 Y a E_count E_open E_sums E_groups E_transfers) sz)) 0 0 (va_A (wX8 Y a E_count E_open E_sums E_groups E_transfers) sz) := by
  refine Met.ofW (cc := cX8_fewestWithEachOther) (maxL := 7) (ret := (some .int)) (by decide) rfl ?_
  intro p e s m args below meth c s₁ B hml hv
  obtain ⟨rfl, hsz, hP, hK, hD0⟩ := hv
  have hx := B.exec
  have hb := B.bytes
  have hr := B.returns
  have hts := atoms_spec (ws := wsX8_fewestWithEachOther) B.pre
  have hown : s.vm.findClass RX8 = some m.cls := findClass_of_methodNamed B.named
  have hlocks := B.notSynchronized
  have C0 : wk_C p s m _ meth c cX8_fewestWithEachOther 7 (some .int) wsX8_fewestWithEachOther RX8 := ⟨hx, hb, hml, hr, hlocks, hown, hts⟩
  subst hsz
  have hD := hD0.self (sz := s.heap.size)
  generalize hAe : va_A (wX8 Y a E_count E_open E_sums E_groups E_transfers) s.heap.size = A at hD ⊢
  have hA : ∀ q : Nat, s.heap.size ≤ q → A q := fun q h => by rw [← hAe]; exact Or.inr h
  have hS : va_S A s.heap s.heap [] := va_S.rf
  obtain ⟨H, hHe⟩ : ∃ H, H = s.heap := ⟨_, rfl⟩
  have hS : va_S A s.heap H [] := by rw [hHe]; exact hS
  have hP : va_P (dC, dI) vwCl [(a 0, .inr (8, [.int E_count, .ref (a 1), .ref (a 2), .ref (a 3), .ref (a 4)])), (a 1, .inl (Y 0, 11, .inl E_open)), (a 2, .inl (Y 0, 2048, .inl E_sums)), (a 3, .inl (Y 0, 2048, .inl E_groups)), (a 4, .inl (Y 0, 2048, .inl E_transfers))] H := by rw [hHe]; exact hP
  have hD : va_D A [(a 0, .inr (8, [.int E_count, .ref (a 1), .ref (a 2), .ref (a 3), .ref (a 4)])), (a 1, .inl (Y 0, 11, .inl E_open)), (a 2, .inl (Y 0, 2048, .inl E_sums)), (a 3, .inl (Y 0, 2048, .inl E_groups)), (a 4, .inl (Y 0, 2048, .inl E_transfers))] := hD
  obtain ⟨locs, hlo⟩ : ∃ locs : List Loc, locs = [] := ⟨_, rfl⟩
  have hS : va_S A s.heap H locs := by rw [hlo]; exact hS
  have hl := lv_entry ([.ref (a 0), .int x1, .int x2, .int x3]) (n := 7) (Nat.le_of_ble_eq_true rfl)
  rw [lg_entry_eq]
  generalize (lg_sl ([.ref (a 0), .int x1, .int x2, .int x3]) ++ List.replicate (7 - (lg_sl ([.ref (a 0), .int x1, .int x2, .int x3])).length) Slot.unset).toArray = ls at hl ⊢
  have hl : lv_has ls 7 [(0, .ref (a 0)), (1, .int x1), (2, .int x2), (3, .int x3)] := hl
  refine wk_start hHe hlo ?_
  rw [f_X8_fewestWithEachOther] at hf
  refine lv_bipush (v := 11) hx hb dX8_fewestWithEachOther_0 (by decide) ?_
  refine lv_istore (lv' := [(4, .int 11), (0, .ref (a 0)), (1, .int x1), (2, .int x2), (3, .int x3)]) hx hb dX8_fewestWithEachOther_2 hl (by decide) rfl (fun ls hl => ?_)
  refine lv_iconst (v := 0) hx hb dX8_fewestWithEachOther_4 (by decide) ?_
  refine lv_istore (lv' := [(5, .int 0), (4, .int 11), (0, .ref (a 0)), (1, .int x1), (2, .int x2), (3, .int x3)]) hx hb dX8_fewestWithEachOther_5 hl (by decide) rfl (fun ls hl => ?_)
  exact wl_X8_fewestWithEachOther_L7 C0 hK hA hF FU 11 0 E_transfers hf H locs hP hD hS ls (lv_sub hl [2, 3, 4, 5, 1, 0] rfl)
theorem lk_X8_fewestForb_RX8_15 : Cond.fieldLink RX8 15 "CircusLedger$Settling" "sums" "[I" ∈ wsX8_fewestFor := by decide +kernel
theorem lk_X8_fewestForb_RX8_21 : Cond.fieldLink RX8 21 "CircusLedger$Settling" "transfers" "[I" ∈ wsX8_fewestFor := by decide +kernel
theorem in_X8_fewestForb_X8 : ∀ w ∈ u_ws RX8 TX8 5, w ∈ wsX8_fewestFor := by decide +kernel
def f_X8_fewestForb (F : Int32 → Int32 → (Nat → Int32) → Option (Int32 × (Nat → Int32))) (E_count : Int32) (E_open : Nat → Int32) (E_sums : Nat → Int32) (E_transfers : Nat → Int32) (x1 : Int32) (x2 : Int32) : Option (Int32 × (Nat → Int32)) :=
  if x1 = 0 then
    (some (0, E_transfers))
  else
    (if x2 ≤ 11 then
      (gin x1 2048 (if (E_transfers x1.toNatClampNeg) = (-1) then
        (gin x1 2048 (if (-(E_sums x1.toNatClampNeg)) = 0 then
          (wkb2 (F (x1 &&& (x1 - 1)) (x2 + 1) E_transfers) (fun r14 w15 =>
          gin x1 2048 (wkl (upd w15 x1.toNatClampNeg r14) (fun g17 =>
          gin x1 2048 (some ((g17 x1.toNatClampNeg), g17))))))
        else
          (wkb2 (f_X8_fewestWithEachOther F E_count E_open E_transfers x1 (-(E_sums x1.toNatClampNeg)) x2) (fun r8 w9 =>
          gin x1 2048 (wkl (upd w9 x1.toNatClampNeg r8) (fun g11 =>
          gin x1 2048 (some ((g11 x1.toNatClampNeg), g11))))))))
      else
        (gin x1 2048 (some ((E_transfers x1.toNatClampNeg), E_transfers)))))
    else
      (some (0, E_transfers)))
set_option maxHeartbeats 4000000 in
set_option maxRecDepth 100000 in
theorem c_X8_fewestForb (l : Launch) (dC : Nat → ClassId) (dI : Nat → Nat → Nat) (Y : Nat → ClassId) (F : Int32 → Int32 → (Nat → Int32) → Option (Int32 × (Nat → Int32))) (fr lo : Nat) (a : Nat → Nat) (E_count : Int32) (E_open : Nat → Int32) (E_sums : Nat → Int32) (E_groups : Nat → Int32) (E_transfers : Nat → Int32) (hF : ∀ (k0 k1 : Int32) (hE_transfers : Nat → Int32) (sz : Nat) (r : Int32) (zE_transfers : Nat → Int32), F k0 k1 hE_transfers = some (r, zE_transfers) → Met l yX8_fewestFor wsX8_fewestFor ({ frames := fr, cells := 0, slots := 0, locals := lo } : Room) (va_Pc [.ref (a 0), .int k0, .int k1] (wk_E (dC, dI) Y (wX8 Y a E_count E_open E_sums E_groups hE_transfers) sz)) (va_Qi (fun r2 (_ : Unit) => r2 = r) (fun _ t => wk_X (dC, dI) Y (wX8 Y a E_count E_open E_sums E_groups zE_transfers) (va_A (wX8 Y a E_count E_open E_sums E_groups hE_transfers) sz) t) (va_A (wX8 Y a E_count E_open E_sums E_groups hE_transfers) sz)) 0 0 (va_A (wX8 Y a E_count E_open E_sums E_groups hE_transfers) sz)) (x1 : Int32) (x2 : Int32) (sz : Nat) (r : Int32) (zE_transfers : Nat → Int32) (hf : f_X8_fewestForb F E_count E_open E_sums E_transfers x1 x2 = some (r, zE_transfers)) : Met l yX8_fewestFor wsX8_fewestFor ({ frames := fr + 8, cells := 0, slots := 0, locals := lo + 300 } : Room) (va_Pc [.ref (a 0), .int x1, .int x2] (wk_E (dC, dI) Y (wX8 Y a E_count E_open E_sums E_groups E_transfers) sz)) (va_Qi (fun r2 (_ : Unit) => r2 = r) (fun _ t => wk_X (dC, dI) Y (wX8 Y a E_count E_open E_sums E_groups zE_transfers) (va_A (wX8 Y a E_count E_open E_sums E_groups E_transfers) sz) t) (va_A (wX8 Y a E_count E_open E_sums E_groups E_transfers) sz)) 0 0 (va_A (wX8 Y a E_count E_open E_sums E_groups E_transfers) sz) := by
  refine Met.ofW (cc := cX8_fewestFor) (maxL := 4) (ret := (some .int)) (by decide) rfl ?_
  intro p e s m args below meth c s₁ B hml hv
  obtain ⟨rfl, hsz, hP, hK, hD0⟩ := hv
  have hx := B.exec
  have hb := B.bytes
  have hr := B.returns
  have hts := atoms_spec (ws := wsX8_fewestFor) B.pre
  have hown : s.vm.findClass RX8 = some m.cls := findClass_of_methodNamed B.named
  have hlocks := B.notSynchronized
  have C0 : wk_C p s m _ meth c cX8_fewestFor 4 (some .int) wsX8_fewestFor RX8 := ⟨hx, hb, hml, hr, hlocks, hown, hts⟩
  subst hsz
  have hD := hD0.self (sz := s.heap.size)
  generalize hAe : va_A (wX8 Y a E_count E_open E_sums E_groups E_transfers) s.heap.size = A at hD ⊢
  have hA : ∀ q : Nat, s.heap.size ≤ q → A q := fun q h => by rw [← hAe]; exact Or.inr h
  have hS : va_S A s.heap s.heap [] := va_S.rf
  obtain ⟨H, hHe⟩ : ∃ H, H = s.heap := ⟨_, rfl⟩
  have hS : va_S A s.heap H [] := by rw [hHe]; exact hS
  have hP : va_P (dC, dI) vwCl [(a 0, .inr (8, [.int E_count, .ref (a 1), .ref (a 2), .ref (a 3), .ref (a 4)])), (a 1, .inl (Y 0, 11, .inl E_open)), (a 2, .inl (Y 0, 2048, .inl E_sums)), (a 3, .inl (Y 0, 2048, .inl E_groups)), (a 4, .inl (Y 0, 2048, .inl E_transfers))] H := by rw [hHe]; exact hP
  have hD : va_D A [(a 0, .inr (8, [.int E_count, .ref (a 1), .ref (a 2), .ref (a 3), .ref (a 4)])), (a 1, .inl (Y 0, 11, .inl E_open)), (a 2, .inl (Y 0, 2048, .inl E_sums)), (a 3, .inl (Y 0, 2048, .inl E_groups)), (a 4, .inl (Y 0, 2048, .inl E_transfers))] := hD
  obtain ⟨locs, hlo⟩ : ∃ locs : List Loc, locs = [] := ⟨_, rfl⟩
  have hS : va_S A s.heap H locs := by rw [hlo]; exact hS
  have hl := lv_entry ([.ref (a 0), .int x1, .int x2]) (n := 4) (Nat.le_of_ble_eq_true rfl)
  rw [lg_entry_eq]
  generalize (lg_sl ([.ref (a 0), .int x1, .int x2]) ++ List.replicate (4 - (lg_sl ([.ref (a 0), .int x1, .int x2])).length) Slot.unset).toArray = ls at hl ⊢
  have hl : lv_has ls 4 [(0, .ref (a 0)), (1, .int x1), (2, .int x2)] := hl
  refine wk_start hHe hlo ?_
  rw [f_X8_fewestForb] at hf
  refine lv_iload_n hx hb dX8_fewestFor_0 rfl (lv_at hl 1 rfl) ?_
  refine lv_if_eq (tgt := 10) hx hb dX8_fewestFor_1 (by decide) (fun q1 => ?_) (fun q1 => ?_)
  · have hf := wk_t hf q1
    refine lv_iconst (v := 0) hx hb dX8_fewestFor_10 (by decide) ?_
    obtain ⟨e0, e1⟩ := wke2 hf
    subst e0
    subst e1
    have hP9 := hP.sub (ws' := (wX8 Y a E_count E_open E_sums E_groups E_transfers)) [0, 1, 2, 3, 4] rfl
    have hD9 := hD.sub (ws' := (wX8 Y a E_count E_open E_sums E_groups E_transfers)) [0, 1, 2, 3, 4] (by decide) rfl
    exact W.iret (v := 0) hx hb hr (fun t ht hW => ⟨⟨0, (), rfl, rfl, by rw [ht]; exact hP9, va_K.moved hW.alike hK, hD9⟩, hS.F ht⟩) hS.2.2 dX8_fewestFor_11
  · have hf := wk_f hf q1
    refine lv_iload_n hx hb dX8_fewestFor_4 rfl (lv_at hl 2 rfl) ?_
    refine lv_bipush (v := 11) hx hb dX8_fewestFor_5 (by decide) ?_
    refine lv_icmp_le (tgt := 12) hx hb dX8_fewestFor_7 (by decide) (fun q2 => ?_) (fun q2 => ?_)
    · have hf := wk_t hf q2
      refine lv_aload_n hx hb dX8_fewestFor_12 rfl (lv_at hl 0 rfl) ?_
      refine va_get (D := (dC, dI)) (ci := 8) (v := .ref (a 4)) (C := RX8) (T := TX8) (N := 5) hx hb hts in_X8_fewestForb_X8 hown hK hP 0 rfl rfl 4 (by decide) (hts _ lk_X8_fewestForb_RX8_21) (fun _ h9 => h9) rfl dX8_fewestFor_13 ?_
      refine lv_iload_n hx hb dX8_fewestFor_16 rfl (lv_at hl 1 rfl) ?_
      obtain ⟨h3, hf⟩ := gin_s hf
      refine wk_iald hx hb hK hP 4 0 rfl rfl h3 rfl dX8_fewestFor_17 ?_
      refine lv_iconst (v := (-1)) hx hb dX8_fewestFor_18 (by decide) ?_
      refine lv_icmp_ne (tgt := 62) hx hb dX8_fewestFor_19 (by decide) (fun q4 => ?_) (fun q4 => ?_)
      · have hf := wk_f hf q4
        refine lv_aload_n hx hb dX8_fewestFor_62 rfl (lv_at hl 0 rfl) ?_
        refine va_get (D := (dC, dI)) (ci := 8) (v := .ref (a 4)) (C := RX8) (T := TX8) (N := 5) hx hb hts in_X8_fewestForb_X8 hown hK hP 0 rfl rfl 4 (by decide) (hts _ lk_X8_fewestForb_RX8_21) (fun _ h9 => h9) rfl dX8_fewestFor_63 ?_
        refine lv_iload_n hx hb dX8_fewestFor_66 rfl (lv_at hl 1 rfl) ?_
        obtain ⟨h5, hf⟩ := gin_s hf
        refine wk_iald hx hb hK hP 4 0 rfl rfl h5 rfl dX8_fewestFor_67 ?_
        obtain ⟨e0, e1⟩ := wke2 hf
        subst e0
        subst e1
        have hP9 := hP.sub (ws' := (wX8 Y a E_count E_open E_sums E_groups E_transfers)) [0, 1, 2, 3, 4] rfl
        have hD9 := hD.sub (ws' := (wX8 Y a E_count E_open E_sums E_groups E_transfers)) [0, 1, 2, 3, 4] (by decide) rfl
        exact W.iret (v := (E_transfers x1.toNatClampNeg)) hx hb hr (fun t ht hW => ⟨⟨(E_transfers x1.toNatClampNeg), (), rfl, rfl, by rw [ht]; exact hP9, va_K.moved hW.alike hK, hD9⟩, hS.F ht⟩) hS.2.2 dX8_fewestFor_68
      · have hf := wk_t hf q4
        refine lv_aload_n hx hb dX8_fewestFor_22 rfl (lv_at hl 0 rfl) ?_
        refine va_get (D := (dC, dI)) (ci := 8) (v := .ref (a 2)) (C := RX8) (T := TX8) (N := 5) hx hb hts in_X8_fewestForb_X8 hown hK hP 0 rfl rfl 2 (by decide) (hts _ lk_X8_fewestForb_RX8_15) (fun _ h9 => h9) rfl dX8_fewestFor_23 ?_
        refine lv_iload_n hx hb dX8_fewestFor_26 rfl (lv_at hl 1 rfl) ?_
        obtain ⟨h6, hf⟩ := gin_s hf
        refine wk_iald hx hb hK hP 2 0 rfl rfl h6 rfl dX8_fewestFor_27 ?_
        refine lv_ineg hx hb dX8_fewestFor_28 ?_
        refine lv_istore_n (lv' := [(3, .int (-(E_sums x1.toNatClampNeg))), (0, .ref (a 0)), (1, .int x1), (2, .int x2)]) hx hb dX8_fewestFor_29 rfl hl (by decide) rfl (fun ls hl => ?_)
        refine lv_aload_n hx hb dX8_fewestFor_30 rfl (lv_at hl 1 rfl) ?_
        refine va_get (D := (dC, dI)) (ci := 8) (v := .ref (a 4)) (C := RX8) (T := TX8) (N := 5) hx hb hts in_X8_fewestForb_X8 hown hK hP 0 rfl rfl 4 (by decide) (hts _ lk_X8_fewestForb_RX8_21) (fun _ h9 => h9) rfl dX8_fewestFor_31 ?_
        refine lv_iload_n hx hb dX8_fewestFor_34 rfl (lv_at hl 2 rfl) ?_
        refine lv_iload_n hx hb dX8_fewestFor_35 rfl (lv_at hl 0 rfl) ?_
        refine lv_if_ne (tgt := 54) hx hb dX8_fewestFor_36 (by decide) (fun q7 => ?_) (fun q7 => ?_)
        · have hf := wk_f hf q7
          refine lv_aload_n hx hb dX8_fewestFor_54 rfl (lv_at hl 1 rfl) ?_
          refine lv_iload_n hx hb dX8_fewestFor_55 rfl (lv_at hl 2 rfl) ?_
          refine lv_iload_n hx hb dX8_fewestFor_56 rfl (lv_at hl 0 rfl) ?_
          refine lv_iload_n hx hb dX8_fewestFor_57 rfl (lv_at hl 3 rfl) ?_
          obtain ⟨r8, w9, hr10, hf⟩ := wkb2_s hf
          refine wk_esi (As := [.ref (a 0), .int x1, .int (-(E_sums x1.toNatClampNeg)), .int x2]) (rest := [.int x1, .ref (a 4)]) (wc := (wX8 Y a E_count E_open E_sums E_groups E_transfers)) (w1 := (wX8 Y a E_count E_open E_sums E_groups w9)) (wr := []) ⟨hx, hb, hml, hown, hts⟩ (c_X8_fewestWithEachOther l dC dI Y F fr lo a E_count E_open E_sums E_groups E_transfers hF x1 (-(E_sums x1.toNatClampNeg)) x2 H.size r8 w9 hr10) (va_cwS 4 hts gX8_fewestFor_X8_fewestWithEachOther rfl rfl rfl (by decide +kernel) ⟨show fr + 4 + 1 ≤ fr + 8 by omega, show 8 + (7 + 11) + (lo + 120) ≤ lo + 300 by omega⟩) hK hP hD hS hA [0, 1, 2, 3, 4] [] rfl rfl (by decide) (by decide) (by decide) rfl hl.1 rfl (Nat.le_of_ble_eq_true rfl) dX8_fewestFor_58 ⟨Nat.le_of_ble_eq_true rfl, Nat.le_of_ble_eq_true rfl⟩ (fun H locs hP hD hS => ?_)
          have hP : va_P (dC, dI) vwCl [(a 0, .inr (8, [.int E_count, .ref (a 1), .ref (a 2), .ref (a 3), .ref (a 4)])), (a 1, .inl (Y 0, 11, .inl E_open)), (a 2, .inl (Y 0, 2048, .inl E_sums)), (a 3, .inl (Y 0, 2048, .inl E_groups)), (a 4, .inl (Y 0, 2048, .inl w9))] H := hP
          have hD : va_D A [(a 0, .inr (8, [.int E_count, .ref (a 1), .ref (a 2), .ref (a 3), .ref (a 4)])), (a 1, .inl (Y 0, 11, .inl E_open)), (a 2, .inl (Y 0, 2048, .inl E_sums)), (a 3, .inl (Y 0, 2048, .inl E_groups)), (a 4, .inl (Y 0, 2048, .inl w9))] := hD
          obtain ⟨h12, hf⟩ := gin_s hf
          refine wk_iast hx hb hK hP hD hS 4 0 (k := x1.toNatClampNeg) rfl rfl h12 rfl dX8_fewestFor_61 (fun g11 H locs eg11 hP hD hS => ?_)
          have hP : va_P (dC, dI) vwCl [(a 0, .inr (8, [.int E_count, .ref (a 1), .ref (a 2), .ref (a 3), .ref (a 4)])), (a 1, .inl (Y 0, 11, .inl E_open)), (a 2, .inl (Y 0, 2048, .inl E_sums)), (a 3, .inl (Y 0, 2048, .inl E_groups)), (a 4, .inl (Y 0, 2048, .inl g11))] H := hP
          have hD : va_D A [(a 0, .inr (8, [.int E_count, .ref (a 1), .ref (a 2), .ref (a 3), .ref (a 4)])), (a 1, .inl (Y 0, 11, .inl E_open)), (a 2, .inl (Y 0, 2048, .inl E_sums)), (a 3, .inl (Y 0, 2048, .inl E_groups)), (a 4, .inl (Y 0, 2048, .inl g11))] := hD
          have hf := wkl_s hf eg11
          refine lv_aload_n hx hb dX8_fewestFor_62 rfl (lv_at hl 1 rfl) ?_
          refine va_get (D := (dC, dI)) (ci := 8) (v := .ref (a 4)) (C := RX8) (T := TX8) (N := 5) hx hb hts in_X8_fewestForb_X8 hown hK hP 0 rfl rfl 4 (by decide) (hts _ lk_X8_fewestForb_RX8_21) (fun _ h9 => h9) rfl dX8_fewestFor_63 ?_
          refine lv_iload_n hx hb dX8_fewestFor_66 rfl (lv_at hl 2 rfl) ?_
          obtain ⟨h13, hf⟩ := gin_s hf
          refine wk_iald hx hb hK hP 4 0 rfl rfl h13 rfl dX8_fewestFor_67 ?_
          obtain ⟨e0, e1⟩ := wke2 hf
          subst e0
          subst e1
          have hP9 := hP.sub (ws' := (wX8 Y a E_count E_open E_sums E_groups g11)) [0, 1, 2, 3, 4] rfl
          have hD9 := hD.sub (ws' := (wX8 Y a E_count E_open E_sums E_groups g11)) [0, 1, 2, 3, 4] (by decide) rfl
          exact W.iret (v := (g11 x1.toNatClampNeg)) hx hb hr (fun t ht hW => ⟨⟨(g11 x1.toNatClampNeg), (), rfl, rfl, by rw [ht]; exact hP9, va_K.moved hW.alike hK, hD9⟩, hS.F ht⟩) hS.2.2 dX8_fewestFor_68
        · have hf := wk_t hf q7
          refine lv_aload_n hx hb dX8_fewestFor_39 rfl (lv_at hl 1 rfl) ?_
          refine lv_iload_n hx hb dX8_fewestFor_40 rfl (lv_at hl 2 rfl) ?_
          refine lv_iload_n hx hb dX8_fewestFor_41 rfl (lv_at hl 2 rfl) ?_
          refine lv_iconst (v := 1) hx hb dX8_fewestFor_42 (by decide) ?_
          refine lv_isub hx hb dX8_fewestFor_43 ?_
          refine lv_iand hx hb dX8_fewestFor_44 ?_
          refine lv_iload_n hx hb dX8_fewestFor_45 rfl (lv_at hl 3 rfl) ?_
          refine lv_iconst (v := 1) hx hb dX8_fewestFor_46 (by decide) ?_
          refine lv_iadd hx hb dX8_fewestFor_47 ?_
          obtain ⟨r14, w15, hr16, hf⟩ := wkb2_s hf
          refine wk_esi (As := [.ref (a 0), .int (x1 &&& (x1 - 1)), .int (x2 + 1)]) (rest := [.int x1, .ref (a 4)]) (wc := (wX8 Y a E_count E_open E_sums E_groups E_transfers)) (w1 := (wX8 Y a E_count E_open E_sums E_groups w15)) (wr := []) ⟨hx, hb, hml, hown, hts⟩ (hF (x1 &&& (x1 - 1)) (x2 + 1) E_transfers H.size r14 w15 hr16) (va_cwS 3 hts gX8_fewestFor_X8_fewestFor rfl rfl rfl (by decide +kernel) ⟨show fr + 1 ≤ fr + 8 by omega, show 8 + (4 + 11) + lo ≤ lo + 300 by omega⟩) hK hP hD hS hA [0, 1, 2, 3, 4] [] rfl rfl (by decide) (by decide) (by decide) rfl hl.1 rfl (Nat.le_of_ble_eq_true rfl) dX8_fewestFor_48 ⟨Nat.zero_le _, Nat.zero_le _⟩ (fun H locs hP hD hS => ?_)
          have hP : va_P (dC, dI) vwCl [(a 0, .inr (8, [.int E_count, .ref (a 1), .ref (a 2), .ref (a 3), .ref (a 4)])), (a 1, .inl (Y 0, 11, .inl E_open)), (a 2, .inl (Y 0, 2048, .inl E_sums)), (a 3, .inl (Y 0, 2048, .inl E_groups)), (a 4, .inl (Y 0, 2048, .inl w15))] H := hP
          have hD : va_D A [(a 0, .inr (8, [.int E_count, .ref (a 1), .ref (a 2), .ref (a 3), .ref (a 4)])), (a 1, .inl (Y 0, 11, .inl E_open)), (a 2, .inl (Y 0, 2048, .inl E_sums)), (a 3, .inl (Y 0, 2048, .inl E_groups)), (a 4, .inl (Y 0, 2048, .inl w15))] := hD
          refine lv_goto (tgt := 61) hx hb dX8_fewestFor_51 (by decide) ?_
          obtain ⟨h18, hf⟩ := gin_s hf
          refine wk_iast hx hb hK hP hD hS 4 0 (k := x1.toNatClampNeg) rfl rfl h18 rfl dX8_fewestFor_61 (fun g17 H locs eg17 hP hD hS => ?_)
          have hP : va_P (dC, dI) vwCl [(a 0, .inr (8, [.int E_count, .ref (a 1), .ref (a 2), .ref (a 3), .ref (a 4)])), (a 1, .inl (Y 0, 11, .inl E_open)), (a 2, .inl (Y 0, 2048, .inl E_sums)), (a 3, .inl (Y 0, 2048, .inl E_groups)), (a 4, .inl (Y 0, 2048, .inl g17))] H := hP
          have hD : va_D A [(a 0, .inr (8, [.int E_count, .ref (a 1), .ref (a 2), .ref (a 3), .ref (a 4)])), (a 1, .inl (Y 0, 11, .inl E_open)), (a 2, .inl (Y 0, 2048, .inl E_sums)), (a 3, .inl (Y 0, 2048, .inl E_groups)), (a 4, .inl (Y 0, 2048, .inl g17))] := hD
          have hf := wkl_s hf eg17
          refine lv_aload_n hx hb dX8_fewestFor_62 rfl (lv_at hl 1 rfl) ?_
          refine va_get (D := (dC, dI)) (ci := 8) (v := .ref (a 4)) (C := RX8) (T := TX8) (N := 5) hx hb hts in_X8_fewestForb_X8 hown hK hP 0 rfl rfl 4 (by decide) (hts _ lk_X8_fewestForb_RX8_21) (fun _ h9 => h9) rfl dX8_fewestFor_63 ?_
          refine lv_iload_n hx hb dX8_fewestFor_66 rfl (lv_at hl 2 rfl) ?_
          obtain ⟨h19, hf⟩ := gin_s hf
          refine wk_iald hx hb hK hP 4 0 rfl rfl h19 rfl dX8_fewestFor_67 ?_
          obtain ⟨e0, e1⟩ := wke2 hf
          subst e0
          subst e1
          have hP9 := hP.sub (ws' := (wX8 Y a E_count E_open E_sums E_groups g17)) [0, 1, 2, 3, 4] rfl
          have hD9 := hD.sub (ws' := (wX8 Y a E_count E_open E_sums E_groups g17)) [0, 1, 2, 3, 4] (by decide) rfl
          exact W.iret (v := (g17 x1.toNatClampNeg)) hx hb hr (fun t ht hW => ⟨⟨(g17 x1.toNatClampNeg), (), rfl, rfl, by rw [ht]; exact hP9, va_K.moved hW.alike hK, hD9⟩, hS.F ht⟩) hS.2.2 dX8_fewestFor_68
    · have hf := wk_f hf q2
      refine lv_iconst (v := 0) hx hb dX8_fewestFor_10 (by decide) ?_
      obtain ⟨e0, e1⟩ := wke2 hf
      subst e0
      subst e1
      have hP9 := hP.sub (ws' := (wX8 Y a E_count E_open E_sums E_groups E_transfers)) [0, 1, 2, 3, 4] rfl
      have hD9 := hD.sub (ws' := (wX8 Y a E_count E_open E_sums E_groups E_transfers)) [0, 1, 2, 3, 4] (by decide) rfl
      exact W.iret (v := 0) hx hb hr (fun t ht hW => ⟨⟨0, (), rfl, rfl, by rw [ht]; exact hP9, va_K.moved hW.alike hK, hD9⟩, hS.F ht⟩) hS.2.2 dX8_fewestFor_11
def f_X8_fewestFor (E_count : Int32) (E_open : Nat → Int32) (E_sums : Nat → Int32) : Nat → Int32 → Int32 → (Nat → Int32) → Option (Int32 × (Nat → Int32))
  | 0, _, _, _ => none
  | rd + 1, x1, x2, E_transfers => f_X8_fewestForb (f_X8_fewestFor E_count E_open E_sums rd) E_count E_open E_sums E_transfers x1 x2
theorem c_X8_fewestFor (l : Launch) (dC : Nat → ClassId) (dI : Nat → Nat → Nat) (Y : Nat → ClassId) : ∀ (rd : Nat) (a : Nat → Nat) (E_count : Int32) (E_open : Nat → Int32) (E_sums : Nat → Int32) (E_groups : Nat → Int32) (E_transfers : Nat → Int32) (x1 : Int32) (x2 : Int32) (sz : Nat) (r : Int32) (zE_transfers : Nat → Int32), f_X8_fewestFor E_count E_open E_sums rd x1 x2 E_transfers = some (r, zE_transfers) → Met l yX8_fewestFor wsX8_fewestFor ({ frames := 8 * rd, cells := 0, slots := 0, locals := 300 * rd } : Room) (va_Pc [.ref (a 0), .int x1, .int x2] (wk_E (dC, dI) Y (wX8 Y a E_count E_open E_sums E_groups E_transfers) sz)) (va_Qi (fun r2 (_ : Unit) => r2 = r) (fun _ t => wk_X (dC, dI) Y (wX8 Y a E_count E_open E_sums E_groups zE_transfers) (va_A (wX8 Y a E_count E_open E_sums E_groups E_transfers) sz) t) (va_A (wX8 Y a E_count E_open E_sums E_groups E_transfers) sz)) 0 0 (va_A (wX8 Y a E_count E_open E_sums E_groups E_transfers) sz) := by
  intro rd
  induction rd with
  | zero =>
    intro a E_count E_open E_sums E_groups E_transfers x1 x2 sz r zE_transfers hf
    rw [f_X8_fewestFor] at hf
    cases hf
  | succ rd ih =>
    intro a E_count E_open E_sums E_groups E_transfers x1 x2 sz r zE_transfers hf
    exact c_X8_fewestForb l dC dI Y (f_X8_fewestFor E_count E_open E_sums rd) (8 * rd) (300 * rd) a E_count E_open E_sums E_groups E_transfers (fun k0 k1 hE_transfers sz r zE_transfers hf => ih a E_count E_open E_sums E_groups hE_transfers k0 k1 sz r zE_transfers hf) x1 x2 sz r zE_transfers hf
theorem lk_X8_fewestBySearch_RX8_21 : Cond.fieldLink RX8 21 "CircusLedger$Settling" "transfers" "[I" ∈ wsX8_fewestBySearch := by decide +kernel
theorem lk_X8_fewestBySearch_RX8_28 : Cond.fieldLink RX8 28 "CircusLedger$Settling" "count" "I" ∈ wsX8_fewestBySearch := by decide +kernel
theorem in_X8_fewestBySearch_X8 : ∀ w ∈ u_ws RX8 TX8 5, w ∈ wsX8_fewestBySearch := by decide +kernel
def f_X8_fewestBySearch (E_count : Int32) (E_open : Nat → Int32) (E_sums : Nat → Int32) (E_transfers : Nat → Int32) (B_accounts : Int32) (B_balances : Nat → Int32) : Option (Int32 × Int32 × (Nat → Int32) × (Nat → Int32) × (Nat → Int32)) :=
  wkb3 (f_X8_takeOpenBalances E_count E_open E_sums B_accounts B_balances) (fun w1 w2 w3 =>
  wkb1 (f_J7_fill_53178_2048 E_transfers (-1)) (fun w6 =>
  wkb2 (f_X8_fewestFor w1 w2 w3 14 (((1 : Int32) <<< (w1 &&& 31)) - 1) 0 w6) (fun r9 w10 =>
  some (r9, w1, w2, w3, w10))))
set_option maxHeartbeats 4000000 in
set_option maxRecDepth 100000 in
theorem c_X8_fewestBySearch (l : Launch) (dC : Nat → ClassId) (dI : Nat → Nat → Nat) (Y : Nat → ClassId) (a : Nat → Nat) (b : Nat → Nat) (E_count : Int32) (E_open : Nat → Int32) (E_sums : Nat → Int32) (E_groups : Nat → Int32) (E_transfers : Nat → Int32) (B_accounts : Int32) (B_balances : Nat → Int32) (B_balancesAtClosing : Nat → Int32) (B_entries : Int32) (B_debited : Nat → Int32) (B_credited : Nat → Int32) (B_amounts : Nat → Int32)  (sz : Nat) (r : Int32) (zE_count : Int32) (zE_open : Nat → Int32) (zE_sums : Nat → Int32) (zE_transfers : Nat → Int32) (hf : f_X8_fewestBySearch E_count E_open E_sums E_transfers B_accounts B_balances = some (r, zE_count, zE_open, zE_sums, zE_transfers)) : Met l yX8_fewestBySearch wsX8_fewestBySearch ({ frames := 113, cells := 0, slots := 0, locals := 4223 } : Room) (va_Pc [.ref (a 0), .ref (b 0)] (wk_E (dC, dI) Y ((wX8 Y a E_count E_open E_sums E_groups E_transfers) ++ (wX2 Y b B_accounts B_balances B_balancesAtClosing B_entries B_debited B_credited B_amounts)) sz)) (va_Qi (fun r2 (_ : Unit) => r2 = r) (fun _ t => wk_X (dC, dI) Y ((wX8 Y a zE_count zE_open zE_sums E_groups zE_transfers) ++ (wX2 Y b B_accounts B_balances B_balancesAtClosing B_entries B_debited B_credited B_amounts)) (va_A ((wX8 Y a E_count E_open E_sums E_groups E_transfers) ++ (wX2 Y b B_accounts B_balances B_balancesAtClosing B_entries B_debited B_credited B_amounts)) sz) t) (va_A ((wX8 Y a E_count E_open E_sums E_groups E_transfers) ++ (wX2 Y b B_accounts B_balances B_balancesAtClosing B_entries B_debited B_credited B_amounts)) sz)) 0 0 (va_A ((wX8 Y a E_count E_open E_sums E_groups E_transfers) ++ (wX2 Y b B_accounts B_balances B_balancesAtClosing B_entries B_debited B_credited B_amounts)) sz) := by
  refine Met.ofW (cc := cX8_fewestBySearch) (maxL := 2) (ret := (some .int)) (by decide) rfl ?_
  intro p e s m args below meth c s₁ B hml hv
  obtain ⟨rfl, hsz, hP, hK, hD0⟩ := hv
  have hx := B.exec
  have hb := B.bytes
  have hr := B.returns
  have hts := atoms_spec (ws := wsX8_fewestBySearch) B.pre
  have hown : s.vm.findClass RX8 = some m.cls := findClass_of_methodNamed B.named
  have hlocks := B.notSynchronized
  have C0 : wk_C p s m _ meth c cX8_fewestBySearch 2 (some .int) wsX8_fewestBySearch RX8 := ⟨hx, hb, hml, hr, hlocks, hown, hts⟩
  subst hsz
  have hD := hD0.self (sz := s.heap.size)
  generalize hAe : va_A ((wX8 Y a E_count E_open E_sums E_groups E_transfers) ++ (wX2 Y b B_accounts B_balances B_balancesAtClosing B_entries B_debited B_credited B_amounts)) s.heap.size = A at hD ⊢
  have hA : ∀ q : Nat, s.heap.size ≤ q → A q := fun q h => by rw [← hAe]; exact Or.inr h
  have hS : va_S A s.heap s.heap [] := va_S.rf
  obtain ⟨H, hHe⟩ : ∃ H, H = s.heap := ⟨_, rfl⟩
  have hS : va_S A s.heap H [] := by rw [hHe]; exact hS
  have hP : va_P (dC, dI) vwCl [(a 0, .inr (8, [.int E_count, .ref (a 1), .ref (a 2), .ref (a 3), .ref (a 4)])), (a 1, .inl (Y 0, 11, .inl E_open)), (a 2, .inl (Y 0, 2048, .inl E_sums)), (a 3, .inl (Y 0, 2048, .inl E_groups)), (a 4, .inl (Y 0, 2048, .inl E_transfers)), (b 0, .inr (4, [.int B_accounts, .ref (b 1), .ref (b 2), .int B_entries, .ref (b 3), .ref (b 4), .ref (b 5)])), (b 1, .inl (Y 0, 11, .inl B_balances)), (b 2, .inl (Y 0, 11, .inl B_balancesAtClosing)), (b 3, .inl (Y 0, 60, .inl B_debited)), (b 4, .inl (Y 0, 60, .inl B_credited)), (b 5, .inl (Y 0, 60, .inl B_amounts))] H := by rw [hHe]; exact hP
  have hD : va_D A [(a 0, .inr (8, [.int E_count, .ref (a 1), .ref (a 2), .ref (a 3), .ref (a 4)])), (a 1, .inl (Y 0, 11, .inl E_open)), (a 2, .inl (Y 0, 2048, .inl E_sums)), (a 3, .inl (Y 0, 2048, .inl E_groups)), (a 4, .inl (Y 0, 2048, .inl E_transfers)), (b 0, .inr (4, [.int B_accounts, .ref (b 1), .ref (b 2), .int B_entries, .ref (b 3), .ref (b 4), .ref (b 5)])), (b 1, .inl (Y 0, 11, .inl B_balances)), (b 2, .inl (Y 0, 11, .inl B_balancesAtClosing)), (b 3, .inl (Y 0, 60, .inl B_debited)), (b 4, .inl (Y 0, 60, .inl B_credited)), (b 5, .inl (Y 0, 60, .inl B_amounts))] := hD
  obtain ⟨locs, hlo⟩ : ∃ locs : List Loc, locs = [] := ⟨_, rfl⟩
  have hS : va_S A s.heap H locs := by rw [hlo]; exact hS
  have hl := lv_entry ([.ref (a 0), .ref (b 0)]) (n := 2) (Nat.le_of_ble_eq_true rfl)
  rw [lg_entry_eq]
  generalize (lg_sl ([.ref (a 0), .ref (b 0)]) ++ List.replicate (2 - (lg_sl ([.ref (a 0), .ref (b 0)])).length) Slot.unset).toArray = ls at hl ⊢
  have hl : lv_has ls 2 [(0, .ref (a 0)), (1, .ref (b 0))] := hl
  refine wk_start hHe hlo ?_
  rw [f_X8_fewestBySearch] at hf
  refine lv_aload_n hx hb dX8_fewestBySearch_0 rfl (lv_at hl 0 rfl) ?_
  refine lv_aload_n hx hb dX8_fewestBySearch_1 rfl (lv_at hl 1 rfl) ?_
  obtain ⟨w1, w2, w3, hr4, hf⟩ := wkb3_s hf
  refine wk_evv (As := [.ref (b 0)]) (rest := []) (wc := ((wX8 Y a E_count E_open E_sums E_groups E_transfers) ++ (wX2 Y b B_accounts B_balances B_balancesAtClosing B_entries B_debited B_credited B_amounts))) (w1 := ((wX8 Y a w1 w2 w3 E_groups E_transfers) ++ (wX2 Y b B_accounts B_balances B_balancesAtClosing B_entries B_debited B_credited B_amounts))) (wr := []) ⟨hx, hb, hml, hown, hts⟩ (c_X8_takeOpenBalances l dC dI Y a b E_count E_open E_sums E_groups E_transfers B_accounts B_balances B_balancesAtClosing B_entries B_debited B_credited B_amounts H.size w1 w2 w3 hr4) (cwV 1 hts gX8_fewestBySearch_X8_takeOpenBalances rfl rfl rfl (by decide +kernel) ⟨Nat.le_of_ble_eq_true rfl, Nat.le_of_ble_eq_true rfl⟩) hK hP hD hS hA [0, 1, 2, 3, 4, 5, 6, 7, 8, 9, 10] [] rfl rfl (by decide) (by decide) (by decide) (va_recv hK hP (ci := 8) (q0 := 0) rfl rfl) rfl hl.1 rfl (Nat.le_of_ble_eq_true rfl) dX8_fewestBySearch_2 ⟨Nat.le_of_ble_eq_true rfl, Nat.le_of_ble_eq_true rfl⟩ (fun H locs hP hD hS => ?_)
  have hP : va_P (dC, dI) vwCl [(a 0, .inr (8, [.int w1, .ref (a 1), .ref (a 2), .ref (a 3), .ref (a 4)])), (a 1, .inl (Y 0, 11, .inl w2)), (a 2, .inl (Y 0, 2048, .inl w3)), (a 3, .inl (Y 0, 2048, .inl E_groups)), (a 4, .inl (Y 0, 2048, .inl E_transfers)), (b 0, .inr (4, [.int B_accounts, .ref (b 1), .ref (b 2), .int B_entries, .ref (b 3), .ref (b 4), .ref (b 5)])), (b 1, .inl (Y 0, 11, .inl B_balances)), (b 2, .inl (Y 0, 11, .inl B_balancesAtClosing)), (b 3, .inl (Y 0, 60, .inl B_debited)), (b 4, .inl (Y 0, 60, .inl B_credited)), (b 5, .inl (Y 0, 60, .inl B_amounts))] H := hP
  have hD : va_D A [(a 0, .inr (8, [.int w1, .ref (a 1), .ref (a 2), .ref (a 3), .ref (a 4)])), (a 1, .inl (Y 0, 11, .inl w2)), (a 2, .inl (Y 0, 2048, .inl w3)), (a 3, .inl (Y 0, 2048, .inl E_groups)), (a 4, .inl (Y 0, 2048, .inl E_transfers)), (b 0, .inr (4, [.int B_accounts, .ref (b 1), .ref (b 2), .int B_entries, .ref (b 3), .ref (b 4), .ref (b 5)])), (b 1, .inl (Y 0, 11, .inl B_balances)), (b 2, .inl (Y 0, 11, .inl B_balancesAtClosing)), (b 3, .inl (Y 0, 60, .inl B_debited)), (b 4, .inl (Y 0, 60, .inl B_credited)), (b 5, .inl (Y 0, 60, .inl B_amounts))] := hD
  refine lv_aload_n hx hb dX8_fewestBySearch_5 rfl (lv_at hl 0 rfl) ?_
  refine va_get (D := (dC, dI)) (ci := 8) (v := .ref (a 4)) (C := RX8) (T := TX8) (N := 5) hx hb hts in_X8_fewestBySearch_X8 hown hK hP 0 rfl rfl 4 (by decide) (hts _ lk_X8_fewestBySearch_RX8_21) (fun _ h9 => h9) rfl dX8_fewestBySearch_6 ?_
  refine lv_iconst (v := (-1)) hx hb dX8_fewestBySearch_9 (by decide) ?_
  obtain ⟨w6, hr7, hf⟩ := wkb1_s hf
  refine wk_esv (As := [.ref (a 4), .int (-1)]) (rest := []) (wc := [(a 4, .inl (Y 0, 2048, .inl E_transfers))]) (w1 := [(a 4, .inl (Y 0, 2048, .inl w6))]) (wr := [(a 0, .inr (8, [.int w1, .ref (a 1), .ref (a 2), .ref (a 3), .ref (a 4)])), (a 1, .inl (Y 0, 11, .inl w2)), (a 2, .inl (Y 0, 2048, .inl w3)), (a 3, .inl (Y 0, 2048, .inl E_groups)), (b 0, .inr (4, [.int B_accounts, .ref (b 1), .ref (b 2), .int B_entries, .ref (b 3), .ref (b 4), .ref (b 5)])), (b 1, .inl (Y 0, 11, .inl B_balances)), (b 2, .inl (Y 0, 11, .inl B_balancesAtClosing)), (b 3, .inl (Y 0, 60, .inl B_debited)), (b 4, .inl (Y 0, 60, .inl B_credited)), (b 5, .inl (Y 0, 60, .inl B_amounts))]) ⟨hx, hb, hml, hown, hts⟩ (c_J7_fill_53178_2048 l dC dI Y (fun _ => a 4) E_transfers (-1) H.size w6 hr7) (va_cwS 2 hts gX8_fewestBySearch_J7_fill_53178 rfl rfl rfl (by decide +kernel) ⟨Nat.le_of_ble_eq_true rfl, Nat.le_of_ble_eq_true rfl⟩) hK hP hD hS hA [4] [0, 1, 2, 3, 5, 6, 7, 8, 9, 10] rfl rfl (by decide) (by decide) (by decide) rfl hl.1 rfl (Nat.le_of_ble_eq_true rfl) dX8_fewestBySearch_10 ⟨Nat.le_of_ble_eq_true rfl, Nat.le_of_ble_eq_true rfl⟩ (fun H locs hP hD hS => ?_)
  have hP : va_P (dC, dI) vwCl [(a 0, .inr (8, [.int w1, .ref (a 1), .ref (a 2), .ref (a 3), .ref (a 4)])), (a 1, .inl (Y 0, 11, .inl w2)), (a 2, .inl (Y 0, 2048, .inl w3)), (a 3, .inl (Y 0, 2048, .inl E_groups)), (b 0, .inr (4, [.int B_accounts, .ref (b 1), .ref (b 2), .int B_entries, .ref (b 3), .ref (b 4), .ref (b 5)])), (b 1, .inl (Y 0, 11, .inl B_balances)), (b 2, .inl (Y 0, 11, .inl B_balancesAtClosing)), (b 3, .inl (Y 0, 60, .inl B_debited)), (b 4, .inl (Y 0, 60, .inl B_credited)), (b 5, .inl (Y 0, 60, .inl B_amounts)), (a 4, .inl (Y 0, 2048, .inl w6))] H := hP
  have hD : va_D A [(a 0, .inr (8, [.int w1, .ref (a 1), .ref (a 2), .ref (a 3), .ref (a 4)])), (a 1, .inl (Y 0, 11, .inl w2)), (a 2, .inl (Y 0, 2048, .inl w3)), (a 3, .inl (Y 0, 2048, .inl E_groups)), (b 0, .inr (4, [.int B_accounts, .ref (b 1), .ref (b 2), .int B_entries, .ref (b 3), .ref (b 4), .ref (b 5)])), (b 1, .inl (Y 0, 11, .inl B_balances)), (b 2, .inl (Y 0, 11, .inl B_balancesAtClosing)), (b 3, .inl (Y 0, 60, .inl B_debited)), (b 4, .inl (Y 0, 60, .inl B_credited)), (b 5, .inl (Y 0, 60, .inl B_amounts)), (a 4, .inl (Y 0, 2048, .inl w6))] := hD
  refine lv_aload_n hx hb dX8_fewestBySearch_13 rfl (lv_at hl 0 rfl) ?_
  refine lv_iconst (v := 1) hx hb dX8_fewestBySearch_14 (by decide) ?_
  refine lv_aload_n hx hb dX8_fewestBySearch_15 rfl (lv_at hl 0 rfl) ?_
  refine va_get (D := (dC, dI)) (ci := 8) (v := .int w1) (C := RX8) (T := TX8) (N := 5) hx hb hts in_X8_fewestBySearch_X8 hown hK hP 0 rfl rfl 0 (by decide) (hts _ lk_X8_fewestBySearch_RX8_28) (fun _ h9 => h9) rfl dX8_fewestBySearch_16 ?_
  refine lv_ishl hx hb dX8_fewestBySearch_19 ?_
  refine lv_iconst (v := 1) hx hb dX8_fewestBySearch_20 (by decide) ?_
  refine lv_isub hx hb dX8_fewestBySearch_21 ?_
  refine lv_iconst (v := 0) hx hb dX8_fewestBySearch_22 (by decide) ?_
  obtain ⟨r9, w10, hr11, hf⟩ := wkb2_s hf
  refine wk_esi (As := [.ref (a 0), .int (((1 : Int32) <<< (w1 &&& 31)) - 1), .int 0]) (rest := []) (wc := (wX8 Y a w1 w2 w3 E_groups w6)) (w1 := (wX8 Y a w1 w2 w3 E_groups w10)) (wr := [(b 0, .inr (4, [.int B_accounts, .ref (b 1), .ref (b 2), .int B_entries, .ref (b 3), .ref (b 4), .ref (b 5)])), (b 1, .inl (Y 0, 11, .inl B_balances)), (b 2, .inl (Y 0, 11, .inl B_balancesAtClosing)), (b 3, .inl (Y 0, 60, .inl B_debited)), (b 4, .inl (Y 0, 60, .inl B_credited)), (b 5, .inl (Y 0, 60, .inl B_amounts))]) ⟨hx, hb, hml, hown, hts⟩ (c_X8_fewestFor l dC dI Y 14 a w1 w2 w3 E_groups w6 (((1 : Int32) <<< (w1 &&& 31)) - 1) 0 H.size r9 w10 hr11) (va_cwS 3 hts gX8_fewestBySearch_X8_fewestFor rfl rfl rfl (by decide +kernel) ⟨Nat.le_of_ble_eq_true rfl, Nat.le_of_ble_eq_true rfl⟩) hK hP hD hS hA [0, 1, 2, 3, 10] [4, 5, 6, 7, 8, 9] rfl rfl (by decide) (by decide) (by decide) rfl hl.1 rfl (Nat.le_of_ble_eq_true rfl) dX8_fewestBySearch_23 ⟨Nat.le_of_ble_eq_true rfl, Nat.le_of_ble_eq_true rfl⟩ (fun H locs hP hD hS => ?_)
  have hP : va_P (dC, dI) vwCl [(b 0, .inr (4, [.int B_accounts, .ref (b 1), .ref (b 2), .int B_entries, .ref (b 3), .ref (b 4), .ref (b 5)])), (b 1, .inl (Y 0, 11, .inl B_balances)), (b 2, .inl (Y 0, 11, .inl B_balancesAtClosing)), (b 3, .inl (Y 0, 60, .inl B_debited)), (b 4, .inl (Y 0, 60, .inl B_credited)), (b 5, .inl (Y 0, 60, .inl B_amounts)), (a 0, .inr (8, [.int w1, .ref (a 1), .ref (a 2), .ref (a 3), .ref (a 4)])), (a 1, .inl (Y 0, 11, .inl w2)), (a 2, .inl (Y 0, 2048, .inl w3)), (a 3, .inl (Y 0, 2048, .inl E_groups)), (a 4, .inl (Y 0, 2048, .inl w10))] H := hP
  have hD : va_D A [(b 0, .inr (4, [.int B_accounts, .ref (b 1), .ref (b 2), .int B_entries, .ref (b 3), .ref (b 4), .ref (b 5)])), (b 1, .inl (Y 0, 11, .inl B_balances)), (b 2, .inl (Y 0, 11, .inl B_balancesAtClosing)), (b 3, .inl (Y 0, 60, .inl B_debited)), (b 4, .inl (Y 0, 60, .inl B_credited)), (b 5, .inl (Y 0, 60, .inl B_amounts)), (a 0, .inr (8, [.int w1, .ref (a 1), .ref (a 2), .ref (a 3), .ref (a 4)])), (a 1, .inl (Y 0, 11, .inl w2)), (a 2, .inl (Y 0, 2048, .inl w3)), (a 3, .inl (Y 0, 2048, .inl E_groups)), (a 4, .inl (Y 0, 2048, .inl w10))] := hD
  obtain ⟨e0, e1, e2, e3, e4⟩ := wke5 hf
  subst e0
  subst e1
  subst e2
  subst e3
  subst e4
  have hP9 := hP.sub (ws' := ((wX8 Y a w1 w2 w3 E_groups w10) ++ (wX2 Y b B_accounts B_balances B_balancesAtClosing B_entries B_debited B_credited B_amounts))) [6, 7, 8, 9, 10, 0, 1, 2, 3, 4, 5] rfl
  have hD9 := hD.sub (ws' := ((wX8 Y a w1 w2 w3 E_groups w10) ++ (wX2 Y b B_accounts B_balances B_balancesAtClosing B_entries B_debited B_credited B_amounts))) [6, 7, 8, 9, 10, 0, 1, 2, 3, 4, 5] (by decide) rfl
  exact W.iret (v := r9) hx hb hr (fun t ht hW => ⟨⟨r9, (), rfl, rfl, by rw [ht]; exact hP9, va_K.moved hW.alike hK, hD9⟩, hS.F ht⟩) hS.2.2 dX8_fewestBySearch_26
