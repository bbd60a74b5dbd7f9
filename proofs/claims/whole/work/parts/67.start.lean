/-! what the Statement gives of the start -/
abbrev wk_NN (args : Array Value) (s : State) : Prop := narrow_1_1.before args s = true ∧ narrow_1_2.before args s = true ∧ narrow_1_3.before args s = true ∧ narrow_1_4.before args s = true
theorem wk_NNof {args : Array Value} {s : State} (h : (Jvm.Cond.and given_1 narrow_1).before args s = true) : wk_NN args s := by
  rw [narrow_1] at h
  simp only [Cond.before_and, Bool.and_eq_true] at h
  exact ⟨h.2.1.1, h.2.1.2, h.2.2.1, h.2.2.2⟩
theorem nat1 {args : Array Value} {s : State} (h : wk_NN args s) (i : Nat) {x : Cond} (hi : (flatC narrow_1_1)[i]? = some x) : x.before args s = true := flat_of_before _ h.1 x (List.mem_of_getElem? hi)
theorem nat2 {args : Array Value} {s : State} (h : wk_NN args s) (i : Nat) {x : Cond} (hi : (flatC narrow_1_2)[i]? = some x) : x.before args s = true := flat_of_before _ h.2.1 x (List.mem_of_getElem? hi)
theorem nat3 {args : Array Value} {s : State} (h : wk_NN args s) (i : Nat) {x : Cond} (hi : (flatC narrow_1_3)[i]? = some x) : x.before args s = true := flat_of_before _ h.2.2.1 x (List.mem_of_getElem? hi)
theorem nat4 {args : Array Value} {s : State} (h : wk_NN args s) (i : Nat) {x : Cond} (hi : (flatC narrow_1_4)[i]? = some x) : x.before args s = true := flat_of_before _ h.2.2.2 x (List.mem_of_getElem? hi)
theorem tb_1 : ∀ w ∈ tables_1_1, w ∈ lw_tbl := fun w h => List.mem_append_right _ (by rw [tables_1]; exact List.mem_append_left _ h)
theorem tb_2 : ∀ w ∈ tables_1_2, w ∈ lw_tbl := fun w h => List.mem_append_right _ (by rw [tables_1]; exact List.mem_append_right _ (List.mem_append_left _ h))
theorem tb_3 : ∀ w ∈ tables_1_3, w ∈ lw_tbl := fun w h => List.mem_append_right _ (by rw [tables_1]; exact List.mem_append_right _ (List.mem_append_right _ (List.mem_append_left _ h)))
theorem tb_4 : ∀ w ∈ tables_1_4, w ∈ lw_tbl := fun w h => List.mem_append_right _ (by rw [tables_1]; exact List.mem_append_right _ (List.mem_append_right _ (List.mem_append_right _ (List.mem_append_left _ h))))
theorem tb_5 : ∀ w ∈ tables_1_5, w ∈ lw_tbl := fun w h => List.mem_append_right _ (by rw [tables_1]; exact List.mem_append_right _ (List.mem_append_right _ (List.mem_append_right _ (List.mem_append_right _ (List.mem_append_left _ h)))))
theorem tb_6 : ∀ w ∈ tables_1_6, w ∈ lw_tbl := fun w h => List.mem_append_right _ (by rw [tables_1]; exact List.mem_append_right _ (List.mem_append_right _ (List.mem_append_right _ (List.mem_append_right _ (List.mem_append_right _ (List.mem_append_left _ h))))))
theorem tb_7 : ∀ w ∈ tables_1_7, w ∈ lw_tbl := fun w h => List.mem_append_right _ (by rw [tables_1]; exact List.mem_append_right _ (List.mem_append_right _ (List.mem_append_right _ (List.mem_append_right _ (List.mem_append_right _ (List.mem_append_right _ (List.mem_append_left _ h)))))))
theorem tb_8 : ∀ w ∈ tables_1_8, w ∈ lw_tbl := fun w h => List.mem_append_right _ (by rw [tables_1]; exact List.mem_append_right _ (List.mem_append_right _ (List.mem_append_right _ (List.mem_append_right _ (List.mem_append_right _ (List.mem_append_right _ (List.mem_append_right _ (List.mem_append_left _ h))))))))
theorem tb_9 : ∀ w ∈ tables_1_9, w ∈ lw_tbl := fun w h => List.mem_append_right _ (by rw [tables_1]; exact List.mem_append_right _ (List.mem_append_right _ (List.mem_append_right _ (List.mem_append_right _ (List.mem_append_right _ (List.mem_append_right _ (List.mem_append_right _ (List.mem_append_right _ (List.mem_append_left _ h)))))))))
theorem tb_10 : ∀ w ∈ tables_1_10, w ∈ lw_tbl := fun w h => List.mem_append_right _ (by rw [tables_1]; exact List.mem_append_right _ (List.mem_append_right _ (List.mem_append_right _ (List.mem_append_right _ (List.mem_append_right _ (List.mem_append_right _ (List.mem_append_right _ (List.mem_append_right _ (List.mem_append_right _ (h))))))))))
theorem fch {P : Nat → Nat → Prop} {n : Nat} (h : ∀ i, i < n → ∃ a, P i a) : ∃ f : Nat → Nat, ∀ i, i < n → P i (f i) := by
  have h0 : ∀ i, ∃ a, i < n → P i a := fun i => by
    by_cases q : i < n
    · obtain ⟨a, ha⟩ := h i q
      exact ⟨a, fun _ => ha⟩
    · exact ⟨0, fun h => absurd h q⟩
  obtain ⟨f, hf⟩ := Classical.axiomOfChoice h0
  exact ⟨f, hf⟩
theorem wk_OFof {args : Array Value} {s : State} {tm : Term} {a : Nat} {o n d : String} {v : Value} {A : Nat → Prop} (ht : tm.eval args s none [] s = some (.ref a)) (hv : (Term.field tm o n d).eval args s none [] s = some v) (hA : ∀ a : Nat, a < s.heap.size → ¬ A a) : va_OF o n d v a A s s.heap := by
  cases hfo : s.fieldFound? o n d with
  | none =>
    rw [va_fe ht] at hv
    simp [State.fieldOf?, State.fieldNamed?, hfo] at hv
  | some x =>
    obtain ⟨cf, k, fi, f⟩ := x
    obtain ⟨g1, cell, g2, g3, -, -, g6⟩ := Term.field_spec hfo ht hv
    exact ⟨cf, k, fi, f, cell, hfo, g1, g2, g3, g6, hA _ (Array.getElem?_eq_some_iff.mp g2).1⟩
theorem wk_ref {args : Array Value} {s : State} {tm : Term} {nm : String} (h : (Cond.exactly tm nm).before args s = true) : ∃ a : Nat, tm.eval args s none [] s = some (.ref a) := by
  obtain ⟨a, c, cell, k, q1, -⟩ := Cond.exactly_spec h
  exact ⟨a, q1⟩
theorem wk_strof {args : Array Value} {s : State} {tm : Term} {n : Nat} {f : Nat → Int32} {A : Nat → Prop} (hn : n < 2 ^ 31) (hex : (Cond.exactly tm "java/lang/String").before args s = true) (hco : (Cond.eq (.field tm "java/lang/String" "coder" "B") (.int 0)).before args s = true) (harr : (Cond.arrayOf (.field tm "java/lang/String" "value" "[B") .byte).before args s = true) (hlen : (Cond.eq (.length (.field tm "java/lang/String" "value" "[B")) (.int (Int32.ofNat n))).before args s = true)
    (hel : ∀ j : Nat, j < n → (Cond.eq (.elem (.field tm "java/lang/String" "value" "[B") (.int (Int32.ofNat j))) (.int (f j))).before args s = true) (hA : ∀ a : Nat, a < s.heap.size → ¬ A a) {a : Nat} (ht : tm.eval args s none [] s = some (.ref a)) : ∃ v : Nat, wk_Str a v n f A s s.heap := by
  obtain ⟨v, hv, hT⟩ := va_Tof (f := fun j => .int (f j)) hn harr (va_eqt hlen) (fun j hj => va_eqt (hel j hj)) hA
  exact ⟨v, va_Oof hex ht hA, wk_OFof ht (va_eqt hco) hA, wk_OFof ht hv hA, hT⟩
theorem wk_Zqof {args : Array Value} {s : State} {C n d : String} {A : Nat → Prop} (hl : (Cond.laysStatic C n d).before args s = true) (hini : (Cond.initialized C).before args s = true) (hr : (Cond.isRef (.static C n d)).before args s = true) (hA : ∀ a : Nat, a < s.heap.size → ¬ A a) : va_Zq C n d A s s.heap := by
  obtain ⟨v, hv, hvr⟩ := Cond.isRef_spec hr
  cases v with
  | ref t => exact Or.inr ⟨t, va_Zref hl hini hv hA⟩
  | _ => first | exact Or.inl (va_Zof hl hini hv hA) | cases hvr | exact absurd hvr (by simp [Value.isRef])
theorem wk_xLof {args : Array Value} {s : State} {C n d : String} {A : Nat → Prop} (hl : (Cond.laysStatic C n d).before args s = true) (hA : ∀ a : Nat, a < s.heap.size → ¬ A a) : vx_L C n d A s s.heap := by
  obtain ⟨c, k, i, f, a, cell, hc, hi, hst, ha, hcell, hs, hcls, hlt, hty⟩ := Cond.laysStatic_spec hl
  exact ⟨c, k, i, f, a, cell, hc, hi, hst, ha, hcell, hs, hcls, hlt, hty, hA a (Array.getElem?_eq_some_iff.mp hcell).1⟩
theorem wk_tyP {args : Array Value} {s : State} {ty : FieldType} (h : (Cond.arrayClass ty).before args s = true) : ∃ cA : ClassId, ArrOfT s cA ty ∧ s.vm.findClass ("[" ++ ty.toString) = some cA := by
  obtain ⟨c, k, comp, h1, h2, h3⟩ := Cond.arrayClass_spec h
  exact ⟨c, fun n z => ⟨fun k h => (by cases h), k, h2, comp, h3⟩, h1⟩
theorem wk_tyO {s : State} {C : String} (h : va_AO C s) : ∃ cA : ClassId, ArrOfT s cA (.object C) ∧ va_RA s cA (.object C) := by
  obtain ⟨comp, c, k, h1, h2, h3, h4, h5⟩ := Cond.arrayOver_spec (va_AO.use (A := #[]) h)
  exact ⟨c, fun n z => ⟨fun k h => (by cases h), k, h3, comp, h4⟩, k, comp, h3, h4, h1, h5⟩
theorem st_ref {args : Array Value} {s : State} {A : Nat → Prop} (hn : wk_NN args s) (hts : ∀ w ∈ lw_tbl, w.before args s = true) (hA : ∀ a : Nat, a < s.heap.size → ¬ A a) : ∃ ad : Nat → Nat, va_En "CircusLedger$Refusal" "LCircusLedger$Refusal;" sRef [] ad A s s.heap := by
  refine va_Enof (fun i hi => ?_) (hts _ (tb_1 _ (List.mem_of_getElem? (i := 14) (by decide +kernel)))) (fun i hi => ?_) (fun q hq => absurd hq List.not_mem_nil) (fun i j hi hj hij => ?_) hA
  · have hi : i < 5 := hi
    rcases (show i = 0 ∨ i = 1 ∨ i = 2 ∨ i = 3 ∨ i = 4 by omega) with rfl | rfl | rfl | rfl | rfl
    · exact hts _ (tb_3 _ (List.mem_of_getElem? (i := 9) (by decide +kernel)))
    · exact hts _ (tb_3 _ (List.mem_of_getElem? (i := 14) (by decide +kernel)))
    · exact hts _ (tb_3 _ (List.mem_of_getElem? (i := 5) (by decide +kernel)))
    · exact hts _ (tb_3 _ (List.mem_of_getElem? (i := 7) (by decide +kernel)))
    · exact hts _ (tb_3 _ (List.mem_of_getElem? (i := 122) (by decide +kernel)))
  · have hi : i < 5 := hi
    rcases (show i = 0 ∨ i = 1 ∨ i = 2 ∨ i = 3 ∨ i = 4 by omega) with rfl | rfl | rfl | rfl | rfl
    · exact nat1 hn 8 (by decide +kernel)
    · exact nat1 hn 12 (by decide +kernel)
    · exact nat1 hn 3 (by decide +kernel)
    · exact nat1 hn 5 (by decide +kernel)
    · exact nat1 hn 19 (by decide +kernel)
  · have hi : i < 5 := hi
    have hj : j < 5 := hj
    rcases (show i = 0 ∨ i = 1 ∨ i = 2 ∨ i = 3 ∨ i = 4 by omega) with rfl | rfl | rfl | rfl | rfl
    · rcases (show j = 0 ∨ j = 1 ∨ j = 2 ∨ j = 3 ∨ j = 4 by omega) with rfl | rfl | rfl | rfl | rfl
      · exact absurd rfl hij
      · exact Or.inl (nat1 hn 16 (by decide +kernel))
      · exact Or.inr (nat1 hn 10 (by decide +kernel))
      · exact Or.inr (nat1 hn 11 (by decide +kernel))
      · exact Or.inl (nat1 hn 23 (by decide +kernel))
    · rcases (show j = 0 ∨ j = 1 ∨ j = 2 ∨ j = 3 ∨ j = 4 by omega) with rfl | rfl | rfl | rfl | rfl
      · exact Or.inr (nat1 hn 16 (by decide +kernel))
      · exact absurd rfl hij
      · exact Or.inr (nat1 hn 14 (by decide +kernel))
      · exact Or.inr (nat1 hn 15 (by decide +kernel))
      · exact Or.inl (nat1 hn 24 (by decide +kernel))
    · rcases (show j = 0 ∨ j = 1 ∨ j = 2 ∨ j = 3 ∨ j = 4 by omega) with rfl | rfl | rfl | rfl | rfl
      · exact Or.inl (nat1 hn 10 (by decide +kernel))
      · exact Or.inl (nat1 hn 14 (by decide +kernel))
      · exact absurd rfl hij
      · exact Or.inl (nat1 hn 7 (by decide +kernel))
      · exact Or.inl (nat1 hn 21 (by decide +kernel))
    · rcases (show j = 0 ∨ j = 1 ∨ j = 2 ∨ j = 3 ∨ j = 4 by omega) with rfl | rfl | rfl | rfl | rfl
      · exact Or.inl (nat1 hn 11 (by decide +kernel))
      · exact Or.inl (nat1 hn 15 (by decide +kernel))
      · exact Or.inr (nat1 hn 7 (by decide +kernel))
      · exact absurd rfl hij
      · exact Or.inl (nat1 hn 22 (by decide +kernel))
    · rcases (show j = 0 ∨ j = 1 ∨ j = 2 ∨ j = 3 ∨ j = 4 by omega) with rfl | rfl | rfl | rfl | rfl
      · exact Or.inr (nat1 hn 23 (by decide +kernel))
      · exact Or.inr (nat1 hn 24 (by decide +kernel))
      · exact Or.inr (nat1 hn 21 (by decide +kernel))
      · exact Or.inr (nat1 hn 22 (by decide +kernel))
      · exact absurd rfl hij
theorem st_cmd {args : Array Value} {s : State} {A : Nat → Prop} (hn : wk_NN args s) (hts : ∀ w ∈ lw_tbl, w.before args s = true) (hA : ∀ a : Nat, a < s.heap.size → ¬ A a) : ∃ ad : Nat → Nat, (∀ i, i < 8 → (Term.static "CircusLedger$Command" (sCmd.getD i "") "LCircusLedger$Command;").eval args s none [] s = some (.ref (ad i))) ∧ wk_Cm ad A s s.heap := by
  have hex : ∀ i, i < 8 → (Cond.exactly (.static "CircusLedger$Command" (sCmd.getD i "") "LCircusLedger$Command;") "CircusLedger$Command").before args s = true := by
    intro i hi
    rcases (show i = 0 ∨ i = 1 ∨ i = 2 ∨ i = 3 ∨ i = 4 ∨ i = 5 ∨ i = 6 ∨ i = 7 by omega) with rfl | rfl | rfl | rfl | rfl | rfl | rfl | rfl
    · exact nat1 hn 259 (by decide +kernel)
    · exact nat1 hn 267 (by decide +kernel)
    · exact nat1 hn 276 (by decide +kernel)
    · exact nat1 hn 286 (by decide +kernel)
    · exact nat1 hn 297 (by decide +kernel)
    · exact nat1 hn 309 (by decide +kernel)
    · exact nat1 hn 322 (by decide +kernel)
    · exact nat1 hn 336 (by decide +kernel)
  have hor : ∀ i, i < 8 → (Cond.eq (.field (.static "CircusLedger$Command" (sCmd.getD i "") "LCircusLedger$Command;") "java/lang/Enum" "ordinal" "I") (.int (([0, 1, 2, 3, 4, 5, 6, 7] : List Int32).getD i 0))).before args s = true := by
    intro i hi
    rcases (show i = 0 ∨ i = 1 ∨ i = 2 ∨ i = 3 ∨ i = 4 ∨ i = 5 ∨ i = 6 ∨ i = 7 by omega) with rfl | rfl | rfl | rfl | rfl | rfl | rfl | rfl
    · exact nat1 hn 260 (by decide +kernel)
    · exact nat1 hn 268 (by decide +kernel)
    · exact nat1 hn 277 (by decide +kernel)
    · exact nat1 hn 287 (by decide +kernel)
    · exact nat1 hn 298 (by decide +kernel)
    · exact nat1 hn 310 (by decide +kernel)
    · exact nat1 hn 323 (by decide +kernel)
    · exact nat1 hn 337 (by decide +kernel)
  obtain ⟨ad, had⟩ := fch (fun i hi => wk_ref (hex i hi))
  exact ⟨ad, had, fun i hi => ⟨va_Oof (hex i hi) (had i hi) hA, wk_OFof (had i hi) (va_eqt (hor i hi)) hA⟩⟩
def stT (i : Nat) : Term := ([.string "CircusLedger$Command" 52, .string "CircusLedger$Command" 58, .string "CircusLedger$Command" 61, .string "CircusLedger$Command" 64, .string "CircusLedger$Command" 67, .string "CircusLedger$Command" 70, .string "CircusLedger$Command" 73, .string "CircusLedger$Command" 76, .string "CircusLedgerModel" 224, .string "CircusLedgerModel" 233, .string "CircusLedgerModel" 235, .string "CircusLedgerModel" 237, .string "CircusLedgerModel" 245, .string "CircusLedgerModel" 247, .string "CircusLedgerModel" 249, .string "CircusLedgerModel" 251] : List Term).getD i (.int 0)
theorem st_str0 {args : Array Value} {s : State} {A : Nat → Prop} (hn : wk_NN args s) (hts : ∀ w ∈ lw_tbl, w.before args s = true) (hA : ∀ a : Nat, a < s.heap.size → ¬ A a) {a : Nat} (ht : (Term.string "CircusLedger$Command" 52).eval args s none [] s = some (.ref a)) : ∃ v : Nat, wk_Str a v (sLen 0) (sByt 0) A s s.heap := by
  refine wk_strof (n := 15) (by decide) (nat4 hn 118 (by decide +kernel)) (nat4 hn 119 (by decide +kernel)) (nat4 hn 120 (by decide +kernel)) (nat4 hn 121 (by decide +kernel)) (fun j hj => ?_) hA ht
  rcases (show j = 0 ∨ j = 1 ∨ j = 2 ∨ j = 3 ∨ j = 4 ∨ j = 5 ∨ j = 6 ∨ j = 7 ∨ j = 8 ∨ j = 9 ∨ j = 10 ∨ j = 11 ∨ j = 12 ∨ j = 13 ∨ j = 14 by omega) with rfl | rfl | rfl | rfl | rfl | rfl | rfl | rfl | rfl | rfl | rfl | rfl | rfl | rfl | rfl
  · exact nat4 hn 122 (by decide +kernel)
  · exact nat4 hn 123 (by decide +kernel)
  · exact nat4 hn 124 (by decide +kernel)
  · exact nat4 hn 125 (by decide +kernel)
  · exact nat4 hn 126 (by decide +kernel)
  · exact nat4 hn 127 (by decide +kernel)
  · exact nat4 hn 128 (by decide +kernel)
  · exact nat4 hn 129 (by decide +kernel)
  · exact nat4 hn 130 (by decide +kernel)
  · exact nat4 hn 131 (by decide +kernel)
  · exact nat4 hn 132 (by decide +kernel)
  · exact nat4 hn 133 (by decide +kernel)
  · exact nat4 hn 134 (by decide +kernel)
  · exact nat4 hn 135 (by decide +kernel)
  · exact nat4 hn 136 (by decide +kernel)
theorem st_str1 {args : Array Value} {s : State} {A : Nat → Prop} (hn : wk_NN args s) (hts : ∀ w ∈ lw_tbl, w.before args s = true) (hA : ∀ a : Nat, a < s.heap.size → ¬ A a) {a : Nat} (ht : (Term.string "CircusLedger$Command" 58).eval args s none [] s = some (.ref a)) : ∃ v : Nat, wk_Str a v (sLen 1) (sByt 1) A s s.heap := by
  refine wk_strof (n := 10) (by decide) (nat4 hn 137 (by decide +kernel)) (nat4 hn 138 (by decide +kernel)) (nat4 hn 139 (by decide +kernel)) (nat4 hn 140 (by decide +kernel)) (fun j hj => ?_) hA ht
  rcases (show j = 0 ∨ j = 1 ∨ j = 2 ∨ j = 3 ∨ j = 4 ∨ j = 5 ∨ j = 6 ∨ j = 7 ∨ j = 8 ∨ j = 9 by omega) with rfl | rfl | rfl | rfl | rfl | rfl | rfl | rfl | rfl | rfl
  · exact nat4 hn 141 (by decide +kernel)
  · exact nat4 hn 142 (by decide +kernel)
  · exact nat4 hn 143 (by decide +kernel)
  · exact nat4 hn 144 (by decide +kernel)
  · exact nat4 hn 145 (by decide +kernel)
  · exact nat4 hn 146 (by decide +kernel)
  · exact nat4 hn 147 (by decide +kernel)
  · exact nat4 hn 148 (by decide +kernel)
  · exact nat4 hn 149 (by decide +kernel)
  · exact nat4 hn 150 (by decide +kernel)
theorem st_str2 {args : Array Value} {s : State} {A : Nat → Prop} (hn : wk_NN args s) (hts : ∀ w ∈ lw_tbl, w.before args s = true) (hA : ∀ a : Nat, a < s.heap.size → ¬ A a) {a : Nat} (ht : (Term.string "CircusLedger$Command" 61).eval args s none [] s = some (.ref a)) : ∃ v : Nat, wk_Str a v (sLen 2) (sByt 2) A s s.heap := by
  refine wk_strof (n := 7) (by decide) (nat4 hn 151 (by decide +kernel)) (nat4 hn 152 (by decide +kernel)) (nat4 hn 153 (by decide +kernel)) (nat4 hn 154 (by decide +kernel)) (fun j hj => ?_) hA ht
  rcases (show j = 0 ∨ j = 1 ∨ j = 2 ∨ j = 3 ∨ j = 4 ∨ j = 5 ∨ j = 6 by omega) with rfl | rfl | rfl | rfl | rfl | rfl | rfl
  · exact nat4 hn 155 (by decide +kernel)
  · exact nat4 hn 156 (by decide +kernel)
  · exact nat4 hn 157 (by decide +kernel)
  · exact nat4 hn 158 (by decide +kernel)
  · exact nat4 hn 159 (by decide +kernel)
  · exact nat4 hn 160 (by decide +kernel)
  · exact nat4 hn 161 (by decide +kernel)
theorem st_str3 {args : Array Value} {s : State} {A : Nat → Prop} (hn : wk_NN args s) (hts : ∀ w ∈ lw_tbl, w.before args s = true) (hA : ∀ a : Nat, a < s.heap.size → ¬ A a) {a : Nat} (ht : (Term.string "CircusLedger$Command" 64).eval args s none [] s = some (.ref a)) : ∃ v : Nat, wk_Str a v (sLen 3) (sByt 3) A s s.heap := by
  refine wk_strof (n := 6) (by decide) (nat4 hn 162 (by decide +kernel)) (nat4 hn 163 (by decide +kernel)) (nat4 hn 164 (by decide +kernel)) (nat4 hn 165 (by decide +kernel)) (fun j hj => ?_) hA ht
  rcases (show j = 0 ∨ j = 1 ∨ j = 2 ∨ j = 3 ∨ j = 4 ∨ j = 5 by omega) with rfl | rfl | rfl | rfl | rfl | rfl
  · exact nat4 hn 166 (by decide +kernel)
  · exact nat4 hn 167 (by decide +kernel)
  · exact nat4 hn 168 (by decide +kernel)
  · exact nat4 hn 169 (by decide +kernel)
  · exact nat4 hn 170 (by decide +kernel)
  · exact nat4 hn 171 (by decide +kernel)
theorem st_str4 {args : Array Value} {s : State} {A : Nat → Prop} (hn : wk_NN args s) (hts : ∀ w ∈ lw_tbl, w.before args s = true) (hA : ∀ a : Nat, a < s.heap.size → ¬ A a) {a : Nat} (ht : (Term.string "CircusLedger$Command" 67).eval args s none [] s = some (.ref a)) : ∃ v : Nat, wk_Str a v (sLen 4) (sByt 4) A s s.heap := by
  refine wk_strof (n := 5) (by decide) (nat4 hn 172 (by decide +kernel)) (nat4 hn 173 (by decide +kernel)) (nat4 hn 174 (by decide +kernel)) (nat4 hn 175 (by decide +kernel)) (fun j hj => ?_) hA ht
  rcases (show j = 0 ∨ j = 1 ∨ j = 2 ∨ j = 3 ∨ j = 4 by omega) with rfl | rfl | rfl | rfl | rfl
  · exact nat4 hn 176 (by decide +kernel)
  · exact nat4 hn 177 (by decide +kernel)
  · exact nat4 hn 178 (by decide +kernel)
  · exact nat4 hn 179 (by decide +kernel)
  · exact nat4 hn 180 (by decide +kernel)
theorem st_str5 {args : Array Value} {s : State} {A : Nat → Prop} (hn : wk_NN args s) (hts : ∀ w ∈ lw_tbl, w.before args s = true) (hA : ∀ a : Nat, a < s.heap.size → ¬ A a) {a : Nat} (ht : (Term.string "CircusLedger$Command" 70).eval args s none [] s = some (.ref a)) : ∃ v : Nat, wk_Str a v (sLen 5) (sByt 5) A s s.heap := by
  refine wk_strof (n := 6) (by decide) (nat4 hn 181 (by decide +kernel)) (nat4 hn 182 (by decide +kernel)) (nat4 hn 183 (by decide +kernel)) (nat4 hn 184 (by decide +kernel)) (fun j hj => ?_) hA ht
  rcases (show j = 0 ∨ j = 1 ∨ j = 2 ∨ j = 3 ∨ j = 4 ∨ j = 5 by omega) with rfl | rfl | rfl | rfl | rfl | rfl
  · exact nat4 hn 185 (by decide +kernel)
  · exact nat4 hn 186 (by decide +kernel)
  · exact nat4 hn 187 (by decide +kernel)
  · exact nat4 hn 188 (by decide +kernel)
  · exact nat4 hn 189 (by decide +kernel)
  · exact nat4 hn 190 (by decide +kernel)
theorem st_str6 {args : Array Value} {s : State} {A : Nat → Prop} (hn : wk_NN args s) (hts : ∀ w ∈ lw_tbl, w.before args s = true) (hA : ∀ a : Nat, a < s.heap.size → ¬ A a) {a : Nat} (ht : (Term.string "CircusLedger$Command" 73).eval args s none [] s = some (.ref a)) : ∃ v : Nat, wk_Str a v (sLen 6) (sByt 6) A s s.heap := by
  refine wk_strof (n := 5) (by decide) (nat4 hn 191 (by decide +kernel)) (nat4 hn 192 (by decide +kernel)) (nat4 hn 193 (by decide +kernel)) (nat4 hn 194 (by decide +kernel)) (fun j hj => ?_) hA ht
  rcases (show j = 0 ∨ j = 1 ∨ j = 2 ∨ j = 3 ∨ j = 4 by omega) with rfl | rfl | rfl | rfl | rfl
  · exact nat4 hn 195 (by decide +kernel)
  · exact nat4 hn 196 (by decide +kernel)
  · exact nat4 hn 197 (by decide +kernel)
  · exact nat4 hn 198 (by decide +kernel)
  · exact nat4 hn 199 (by decide +kernel)
theorem st_str7 {args : Array Value} {s : State} {A : Nat → Prop} (hn : wk_NN args s) (hts : ∀ w ∈ lw_tbl, w.before args s = true) (hA : ∀ a : Nat, a < s.heap.size → ¬ A a) {a : Nat} (ht : (Term.string "CircusLedger$Command" 76).eval args s none [] s = some (.ref a)) : ∃ v : Nat, wk_Str a v (sLen 7) (sByt 7) A s s.heap := by
  refine wk_strof (n := 10) (by decide) (nat4 hn 200 (by decide +kernel)) (nat4 hn 201 (by decide +kernel)) (nat4 hn 202 (by decide +kernel)) (nat4 hn 203 (by decide +kernel)) (fun j hj => ?_) hA ht
  rcases (show j = 0 ∨ j = 1 ∨ j = 2 ∨ j = 3 ∨ j = 4 ∨ j = 5 ∨ j = 6 ∨ j = 7 ∨ j = 8 ∨ j = 9 by omega) with rfl | rfl | rfl | rfl | rfl | rfl | rfl | rfl | rfl | rfl
  · exact nat4 hn 204 (by decide +kernel)
  · exact nat4 hn 205 (by decide +kernel)
  · exact nat4 hn 206 (by decide +kernel)
  · exact nat4 hn 207 (by decide +kernel)
  · exact nat4 hn 208 (by decide +kernel)
  · exact nat4 hn 209 (by decide +kernel)
  · exact nat4 hn 210 (by decide +kernel)
  · exact nat4 hn 211 (by decide +kernel)
  · exact nat4 hn 212 (by decide +kernel)
  · exact nat4 hn 213 (by decide +kernel)
theorem st_str8 {args : Array Value} {s : State} {A : Nat → Prop} (hn : wk_NN args s) (hts : ∀ w ∈ lw_tbl, w.before args s = true) (hA : ∀ a : Nat, a < s.heap.size → ¬ A a) {a : Nat} (ht : (Term.string "CircusLedgerModel" 224).eval args s none [] s = some (.ref a)) : ∃ v : Nat, wk_Str a v (sLen 8) (sByt 8) A s s.heap := by
  refine wk_strof (n := 1) (by decide) (nat4 hn 77 (by decide +kernel)) (nat4 hn 78 (by decide +kernel)) (nat4 hn 79 (by decide +kernel)) (nat4 hn 80 (by decide +kernel)) (fun j hj => ?_) hA ht
  obtain rfl : j = 0 := by omega
  · exact nat4 hn 81 (by decide +kernel)
theorem st_str9 {args : Array Value} {s : State} {A : Nat → Prop} (hn : wk_NN args s) (hts : ∀ w ∈ lw_tbl, w.before args s = true) (hA : ∀ a : Nat, a < s.heap.size → ¬ A a) {a : Nat} (ht : (Term.string "CircusLedgerModel" 233).eval args s none [] s = some (.ref a)) : ∃ v : Nat, wk_Str a v (sLen 9) (sByt 9) A s s.heap := by
  refine wk_strof (n := 4) (by decide) (nat4 hn 82 (by decide +kernel)) (nat4 hn 83 (by decide +kernel)) (nat4 hn 84 (by decide +kernel)) (nat4 hn 85 (by decide +kernel)) (fun j hj => ?_) hA ht
  rcases (show j = 0 ∨ j = 1 ∨ j = 2 ∨ j = 3 by omega) with rfl | rfl | rfl | rfl
  · exact nat4 hn 86 (by decide +kernel)
  · exact nat4 hn 87 (by decide +kernel)
  · exact nat4 hn 88 (by decide +kernel)
  · exact nat4 hn 89 (by decide +kernel)
theorem st_str10 {args : Array Value} {s : State} {A : Nat → Prop} (hn : wk_NN args s) (hts : ∀ w ∈ lw_tbl, w.before args s = true) (hA : ∀ a : Nat, a < s.heap.size → ¬ A a) {a : Nat} (ht : (Term.string "CircusLedgerModel" 235).eval args s none [] s = some (.ref a)) : ∃ v : Nat, wk_Str a v (sLen 10) (sByt 10) A s s.heap := by
  refine wk_strof (n := 6) (by decide) (nat4 hn 60 (by decide +kernel)) (nat4 hn 61 (by decide +kernel)) (nat4 hn 62 (by decide +kernel)) (nat4 hn 63 (by decide +kernel)) (fun j hj => ?_) hA ht
  rcases (show j = 0 ∨ j = 1 ∨ j = 2 ∨ j = 3 ∨ j = 4 ∨ j = 5 by omega) with rfl | rfl | rfl | rfl | rfl | rfl
  · exact nat4 hn 64 (by decide +kernel)
  · exact nat4 hn 65 (by decide +kernel)
  · exact nat4 hn 66 (by decide +kernel)
  · exact nat4 hn 67 (by decide +kernel)
  · exact nat4 hn 68 (by decide +kernel)
  · exact nat4 hn 69 (by decide +kernel)
theorem st_str11 {args : Array Value} {s : State} {A : Nat → Prop} (hn : wk_NN args s) (hts : ∀ w ∈ lw_tbl, w.before args s = true) (hA : ∀ a : Nat, a < s.heap.size → ¬ A a) {a : Nat} (ht : (Term.string "CircusLedgerModel" 237).eval args s none [] s = some (.ref a)) : ∃ v : Nat, wk_Str a v (sLen 11) (sByt 11) A s s.heap := by
  refine wk_strof (n := 3) (by decide) (nat4 hn 70 (by decide +kernel)) (nat4 hn 71 (by decide +kernel)) (nat4 hn 72 (by decide +kernel)) (nat4 hn 73 (by decide +kernel)) (fun j hj => ?_) hA ht
  rcases (show j = 0 ∨ j = 1 ∨ j = 2 by omega) with rfl | rfl | rfl
  · exact nat4 hn 74 (by decide +kernel)
  · exact nat4 hn 75 (by decide +kernel)
  · exact nat4 hn 76 (by decide +kernel)
theorem st_str12 {args : Array Value} {s : State} {A : Nat → Prop} (hn : wk_NN args s) (hts : ∀ w ∈ lw_tbl, w.before args s = true) (hA : ∀ a : Nat, a < s.heap.size → ¬ A a) {a : Nat} (ht : (Term.string "CircusLedgerModel" 245).eval args s none [] s = some (.ref a)) : ∃ v : Nat, wk_Str a v (sLen 12) (sByt 12) A s s.heap := by
  refine wk_strof (n := 3) (by decide) (nat4 hn 90 (by decide +kernel)) (nat4 hn 91 (by decide +kernel)) (nat4 hn 92 (by decide +kernel)) (nat4 hn 93 (by decide +kernel)) (fun j hj => ?_) hA ht
  rcases (show j = 0 ∨ j = 1 ∨ j = 2 by omega) with rfl | rfl | rfl
  · exact nat4 hn 94 (by decide +kernel)
  · exact nat4 hn 95 (by decide +kernel)
  · exact nat4 hn 96 (by decide +kernel)
theorem st_str13 {args : Array Value} {s : State} {A : Nat → Prop} (hn : wk_NN args s) (hts : ∀ w ∈ lw_tbl, w.before args s = true) (hA : ∀ a : Nat, a < s.heap.size → ¬ A a) {a : Nat} (ht : (Term.string "CircusLedgerModel" 247).eval args s none [] s = some (.ref a)) : ∃ v : Nat, wk_Str a v (sLen 13) (sByt 13) A s s.heap := by
  refine wk_strof (n := 5) (by decide) (nat4 hn 97 (by decide +kernel)) (nat4 hn 98 (by decide +kernel)) (nat4 hn 99 (by decide +kernel)) (nat4 hn 100 (by decide +kernel)) (fun j hj => ?_) hA ht
  rcases (show j = 0 ∨ j = 1 ∨ j = 2 ∨ j = 3 ∨ j = 4 by omega) with rfl | rfl | rfl | rfl | rfl
  · exact nat4 hn 101 (by decide +kernel)
  · exact nat4 hn 102 (by decide +kernel)
  · exact nat4 hn 103 (by decide +kernel)
  · exact nat4 hn 104 (by decide +kernel)
  · exact nat4 hn 105 (by decide +kernel)
theorem st_str14 {args : Array Value} {s : State} {A : Nat → Prop} (hn : wk_NN args s) (hts : ∀ w ∈ lw_tbl, w.before args s = true) (hA : ∀ a : Nat, a < s.heap.size → ¬ A a) {a : Nat} (ht : (Term.string "CircusLedgerModel" 249).eval args s none [] s = some (.ref a)) : ∃ v : Nat, wk_Str a v (sLen 14) (sByt 14) A s s.heap := by
  refine wk_strof (n := 2) (by decide) (nat4 hn 106 (by decide +kernel)) (nat4 hn 107 (by decide +kernel)) (nat4 hn 108 (by decide +kernel)) (nat4 hn 109 (by decide +kernel)) (fun j hj => ?_) hA ht
  rcases (show j = 0 ∨ j = 1 by omega) with rfl | rfl
  · exact nat4 hn 110 (by decide +kernel)
  · exact nat4 hn 111 (by decide +kernel)
theorem st_str15 {args : Array Value} {s : State} {A : Nat → Prop} (hn : wk_NN args s) (hts : ∀ w ∈ lw_tbl, w.before args s = true) (hA : ∀ a : Nat, a < s.heap.size → ¬ A a) {a : Nat} (ht : (Term.string "CircusLedgerModel" 251).eval args s none [] s = some (.ref a)) : ∃ v : Nat, wk_Str a v (sLen 15) (sByt 15) A s s.heap := by
  refine wk_strof (n := 2) (by decide) (nat4 hn 112 (by decide +kernel)) (nat4 hn 113 (by decide +kernel)) (nat4 hn 114 (by decide +kernel)) (nat4 hn 115 (by decide +kernel)) (fun j hj => ?_) hA ht
  rcases (show j = 0 ∨ j = 1 by omega) with rfl | rfl
  · exact nat4 hn 116 (by decide +kernel)
  · exact nat4 hn 117 (by decide +kernel)
theorem st_strs {args : Array Value} {s : State} {A : Nat → Prop} (hn : wk_NN args s) (hts : ∀ w ∈ lw_tbl, w.before args s = true) (hA : ∀ a : Nat, a < s.heap.size → ¬ A a) : ∃ a2 a3 : Nat → Nat, (∀ i, i < 16 → (stT i).eval args s none [] s = some (.ref (a2 i))) ∧ ∀ i, i < 16 → wk_Str (a2 i) (a3 i) (sLen i) (sByt i) A s s.heap := by
  have h1 : ∀ i, i < 16 → ∃ a : Nat, (stT i).eval args s none [] s = some (.ref a) := by
    intro i hi
    rcases (show i = 0 ∨ i = 1 ∨ i = 2 ∨ i = 3 ∨ i = 4 ∨ i = 5 ∨ i = 6 ∨ i = 7 ∨ i = 8 ∨ i = 9 ∨ i = 10 ∨ i = 11 ∨ i = 12 ∨ i = 13 ∨ i = 14 ∨ i = 15 by omega) with rfl | rfl | rfl | rfl | rfl | rfl | rfl | rfl | rfl | rfl | rfl | rfl | rfl | rfl | rfl | rfl
    · exact wk_ref (tm := .string "CircusLedger$Command" 52) (nm := "java/lang/String") (nat4 hn 118 (by decide +kernel))
    · exact wk_ref (tm := .string "CircusLedger$Command" 58) (nm := "java/lang/String") (nat4 hn 137 (by decide +kernel))
    · exact wk_ref (tm := .string "CircusLedger$Command" 61) (nm := "java/lang/String") (nat4 hn 151 (by decide +kernel))
    · exact wk_ref (tm := .string "CircusLedger$Command" 64) (nm := "java/lang/String") (nat4 hn 162 (by decide +kernel))
    · exact wk_ref (tm := .string "CircusLedger$Command" 67) (nm := "java/lang/String") (nat4 hn 172 (by decide +kernel))
    · exact wk_ref (tm := .string "CircusLedger$Command" 70) (nm := "java/lang/String") (nat4 hn 181 (by decide +kernel))
    · exact wk_ref (tm := .string "CircusLedger$Command" 73) (nm := "java/lang/String") (nat4 hn 191 (by decide +kernel))
    · exact wk_ref (tm := .string "CircusLedger$Command" 76) (nm := "java/lang/String") (nat4 hn 200 (by decide +kernel))
    · exact wk_ref (tm := .string "CircusLedgerModel" 224) (nm := "java/lang/String") (nat4 hn 77 (by decide +kernel))
    · exact wk_ref (tm := .string "CircusLedgerModel" 233) (nm := "java/lang/String") (nat4 hn 82 (by decide +kernel))
    · exact wk_ref (tm := .string "CircusLedgerModel" 235) (nm := "java/lang/String") (nat4 hn 60 (by decide +kernel))
    · exact wk_ref (tm := .string "CircusLedgerModel" 237) (nm := "java/lang/String") (nat4 hn 70 (by decide +kernel))
    · exact wk_ref (tm := .string "CircusLedgerModel" 245) (nm := "java/lang/String") (nat4 hn 90 (by decide +kernel))
    · exact wk_ref (tm := .string "CircusLedgerModel" 247) (nm := "java/lang/String") (nat4 hn 97 (by decide +kernel))
    · exact wk_ref (tm := .string "CircusLedgerModel" 249) (nm := "java/lang/String") (nat4 hn 106 (by decide +kernel))
    · exact wk_ref (tm := .string "CircusLedgerModel" 251) (nm := "java/lang/String") (nat4 hn 112 (by decide +kernel))
  obtain ⟨a2, h2⟩ := fch h1
  have h3 : ∀ i, i < 16 → ∃ v : Nat, wk_Str (a2 i) v (sLen i) (sByt i) A s s.heap := by
    intro i hi
    rcases (show i = 0 ∨ i = 1 ∨ i = 2 ∨ i = 3 ∨ i = 4 ∨ i = 5 ∨ i = 6 ∨ i = 7 ∨ i = 8 ∨ i = 9 ∨ i = 10 ∨ i = 11 ∨ i = 12 ∨ i = 13 ∨ i = 14 ∨ i = 15 by omega) with rfl | rfl | rfl | rfl | rfl | rfl | rfl | rfl | rfl | rfl | rfl | rfl | rfl | rfl | rfl | rfl
    · exact st_str0 hn hts hA (h2 0 (by decide))
    · exact st_str1 hn hts hA (h2 1 (by decide))
    · exact st_str2 hn hts hA (h2 2 (by decide))
    · exact st_str3 hn hts hA (h2 3 (by decide))
    · exact st_str4 hn hts hA (h2 4 (by decide))
    · exact st_str5 hn hts hA (h2 5 (by decide))
    · exact st_str6 hn hts hA (h2 6 (by decide))
    · exact st_str7 hn hts hA (h2 7 (by decide))
    · exact st_str8 hn hts hA (h2 8 (by decide))
    · exact st_str9 hn hts hA (h2 9 (by decide))
    · exact st_str10 hn hts hA (h2 10 (by decide))
    · exact st_str11 hn hts hA (h2 11 (by decide))
    · exact st_str12 hn hts hA (h2 12 (by decide))
    · exact st_str13 hn hts hA (h2 13 (by decide))
    · exact st_str14 hn hts hA (h2 14 (by decide))
    · exact st_str15 hn hts hA (h2 15 (by decide))
  obtain ⟨a3, h4⟩ := fch h3
  exact ⟨a2, a3, h2, h4⟩
theorem st_form {args : Array Value} {s : State} {A : Nat → Prop} (hn : wk_NN args s) (hts : ∀ w ∈ lw_tbl, w.before args s = true) (hA : ∀ a : Nat, a < s.heap.size → ¬ A a) {ad a2 : Nat → Nat} (h1 : ∀ i, i < 8 → (Term.static "CircusLedger$Command" (sCmd.getD i "") "LCircusLedger$Command;").eval args s none [] s = some (.ref (ad i))) (h2 : ∀ i, i < 16 → (stT i).eval args s none [] s = some (.ref (a2 i))) : ∀ i : Nat, i < 8 → va_OF "CircusLedger$Command" "form" "Ljava/lang/String;" (.ref (a2 i)) (ad i) A s s.heap := by
  intro i hi
  have hf : (Cond.eq (.field (.static "CircusLedger$Command" (sCmd.getD i "") "LCircusLedger$Command;") "CircusLedger$Command" "form" "Ljava/lang/String;") (stT i)).before args s = true := by
    rcases (show i = 0 ∨ i = 1 ∨ i = 2 ∨ i = 3 ∨ i = 4 ∨ i = 5 ∨ i = 6 ∨ i = 7 by omega) with rfl | rfl | rfl | rfl | rfl | rfl | rfl | rfl
    · exact nat1 hn 261 (by decide +kernel)
    · exact nat1 hn 269 (by decide +kernel)
    · exact nat1 hn 278 (by decide +kernel)
    · exact nat1 hn 288 (by decide +kernel)
    · exact nat1 hn 299 (by decide +kernel)
    · exact nat1 hn 311 (by decide +kernel)
    · exact nat1 hn 324 (by decide +kernel)
    · exact nat1 hn 338 (by decide +kernel)
  exact wk_OFof (h1 i hi) (va_eqv hf (h2 i (by omega))) hA
theorem st_sw {args : Array Value} {s : State} {A : Nat → Prop} (hn : wk_NN args s) (hts : ∀ w ∈ lw_tbl, w.before args s = true) (hA : ∀ a : Nat, a < s.heap.size → ¬ A a) : ∃ t : Nat, va_Z "CircusLedger$1" "$SwitchMap$CircusLedger$Command" "[I" (.ref t) A s s.heap ∧ va_T .int t 8 (fun j => .int (sSw j)) A s s.heap := by
  have hx : ∀ j : Nat, j < 8 → (flatC narrow_1_1)[251 + j]? = some (.eq (.elem (.static "CircusLedger$1" "$SwitchMap$CircusLedger$Command" "[I") (.int (Int32.ofNat j))) (.int (sSw j))) := by decide +kernel
  obtain ⟨t, ht, hT⟩ := va_Tof (s := s) (tm := .static "CircusLedger$1" "$SwitchMap$CircusLedger$Command" "[I") (ty := .int) (N := 8) (f := fun j => .int (sSw j)) (A := A) (by decide) (nat1 hn 249 (by decide +kernel)) (va_eqt (nat1 hn 250 (by decide +kernel))) (fun j hj => va_eqt (nat1 hn (251 + j) (hx j hj))) hA
  exact ⟨t, va_Zref (hts _ (tb_7 _ (List.mem_of_getElem? (i := 78) (by decide +kernel)))) (hts _ (tb_1 _ (List.mem_of_getElem? (i := 37) (by decide +kernel)))) ht hA, hT⟩
theorem st_ten {args : Array Value} {s : State} {A : Nat → Prop} (hn : wk_NN args s) (hts : ∀ w ∈ lw_tbl, w.before args s = true) (hA : ∀ a : Nat, a < s.heap.size → ¬ A a) : ∃ t : Nat, va_Z "java/lang/Integer" "DigitTens" "[B" (.ref t) A s s.heap ∧ va_T .byte t 100 (fun j => .int (sTen j)) A s s.heap := by
  have hx : ∀ j : Nat, j < 100 → (flatC narrow_1_1)[135 + j]? = some (.eq (.elem (.static "java/lang/Integer" "DigitTens" "[B") (.int (Int32.ofNat j))) (.int (sTen j))) := by decide +kernel
  obtain ⟨t, ht, hT⟩ := va_Tof (s := s) (tm := .static "java/lang/Integer" "DigitTens" "[B") (ty := .byte) (N := 100) (f := fun j => .int (sTen j)) (A := A) (by decide) (nat1 hn 133 (by decide +kernel)) (va_eqt (nat1 hn 134 (by decide +kernel))) (fun j hj => va_eqt (nat1 hn (135 + j) (hx j hj))) hA
  exact ⟨t, va_Zref (hts _ (tb_6 _ (List.mem_of_getElem? (i := 61) (by decide +kernel)))) (hts _ (tb_1 _ (List.mem_of_getElem? (i := 26) (by decide +kernel)))) ht hA, hT⟩
theorem st_one {args : Array Value} {s : State} {A : Nat → Prop} (hn : wk_NN args s) (hts : ∀ w ∈ lw_tbl, w.before args s = true) (hA : ∀ a : Nat, a < s.heap.size → ¬ A a) : ∃ t : Nat, va_Z "java/lang/Integer" "DigitOnes" "[B" (.ref t) A s s.heap ∧ va_T .byte t 100 (fun j => .int (sOne j)) A s s.heap := by
  have hx : ∀ j : Nat, j < 100 → (flatC narrow_1_1)[32 + j]? = some (.eq (.elem (.static "java/lang/Integer" "DigitOnes" "[B") (.int (Int32.ofNat j))) (.int (sOne j))) := by decide +kernel
  obtain ⟨t, ht, hT⟩ := va_Tof (s := s) (tm := .static "java/lang/Integer" "DigitOnes" "[B") (ty := .byte) (N := 100) (f := fun j => .int (sOne j)) (A := A) (by decide) (nat1 hn 30 (by decide +kernel)) (va_eqt (nat1 hn 31 (by decide +kernel))) (fun j hj => va_eqt (nat1 hn (32 + j) (hx j hj))) hA
  exact ⟨t, va_Zref (hts _ (tb_6 _ (List.mem_of_getElem? (i := 59) (by decide +kernel)))) (hts _ (tb_1 _ (List.mem_of_getElem? (i := 26) (by decide +kernel)))) ht hA, hT⟩
theorem st_all {args : Array Value} {s : State} {A : Nat → Prop} (hn : wk_NN args s) (hts : ∀ w ∈ lw_tbl, w.before args s = true) (hA : ∀ a : Nat, a < s.heap.size → ¬ A a) {ad : Nat → Nat} (h1 : ∀ i, i < 8 → (Term.static "CircusLedger$Command" (sCmd.getD i "") "LCircusLedger$Command;").eval args s none [] s = some (.ref (ad i))) : ∃ t : Nat, va_Z "CircusLedger$Script" "ALL" "[LCircusLedger$Command;" (.ref t) A s s.heap ∧ va_T (.object "CircusLedger$Command") t 8 (fun j => .ref (ad j)) A s s.heap := by
  have he : ∀ j : Nat, j < 8 → (Cond.eq (.elem (.static "CircusLedger$Script" "ALL" "[LCircusLedger$Command;") (.int (Int32.ofNat j))) (.static "CircusLedger$Command" (sCmd.getD j "") "LCircusLedger$Command;")).before args s = true := by
    intro j hj
    rcases (show j = 0 ∨ j = 1 ∨ j = 2 ∨ j = 3 ∨ j = 4 ∨ j = 5 ∨ j = 6 ∨ j = 7 by omega) with rfl | rfl | rfl | rfl | rfl | rfl | rfl | rfl
    · exact nat1 hn 240 (by decide +kernel)
    · exact nat1 hn 241 (by decide +kernel)
    · exact nat1 hn 242 (by decide +kernel)
    · exact nat1 hn 243 (by decide +kernel)
    · exact nat1 hn 244 (by decide +kernel)
    · exact nat1 hn 245 (by decide +kernel)
    · exact nat1 hn 246 (by decide +kernel)
    · exact nat1 hn 247 (by decide +kernel)
  obtain ⟨t, ht, hT⟩ := va_Tof (s := s) (tm := .static "CircusLedger$Script" "ALL" "[LCircusLedger$Command;") (ty := .object "CircusLedger$Command") (N := 8) (f := fun j => .ref (ad j)) (A := A) (by decide) (nat1 hn 237 (by decide +kernel)) (va_eqt (nat1 hn 238 (by decide +kernel))) (fun j hj => va_eqv (he j hj) (h1 j hj)) hA
  exact ⟨t, va_Zref (hts _ (tb_7 _ (List.mem_of_getElem? (i := 15) (by decide +kernel)))) (hts _ (tb_1 _ (List.mem_of_getElem? (i := 7) (by decide +kernel)))) ht hA, hT⟩
theorem st_msg {args : Array Value} {s : State} {A : Nat → Prop} (hn : wk_NN args s) (hts : ∀ w ∈ lw_tbl, w.before args s = true) (hA : ∀ a : Nat, a < s.heap.size → ¬ A a) : ∃ a5 : Nat → Nat, ∀ i : Nat, i < 19 → vk_R "CircusLedger" (sMsg.getD i (0, "")).1 (sMsg.getD i (0, "")).2 (a5 i) s := by
  refine fch (P := fun i a => vk_R "CircusLedger" (sMsg.getD i (0, "")).1 (sMsg.getD i (0, "")).2 a s) (fun i hi => ?_)
  rcases (show i = 0 ∨ i = 1 ∨ i = 2 ∨ i = 3 ∨ i = 4 ∨ i = 5 ∨ i = 6 ∨ i = 7 ∨ i = 8 ∨ i = 9 ∨ i = 10 ∨ i = 11 ∨ i = 12 ∨ i = 13 ∨ i = 14 ∨ i = 15 ∨ i = 16 ∨ i = 17 ∨ i = 18 by omega) with rfl | rfl | rfl | rfl | rfl | rfl | rfl | rfl | rfl | rfl | rfl | rfl | rfl | rfl | rfl | rfl | rfl | rfl | rfl
  · obtain ⟨a, ha⟩ := wk_ref (nat2 hn 362 (by decide +kernel) : (Cond.exactly (.string "CircusLedger" 169) "java/lang/String").before args s = true)
    exact ⟨a, vk_R.of (hts _ (tb_4 _ (List.mem_of_getElem? (i := 209) (by decide +kernel)))) ha⟩
  · obtain ⟨a, ha⟩ := wk_ref (nat3 hn 228 (by decide +kernel) : (Cond.exactly (.string "CircusLedger" 295) "java/lang/String").before args s = true)
    exact ⟨a, vk_R.of (hts _ (tb_6 _ (List.mem_of_getElem? (i := 209) (by decide +kernel)))) ha⟩
  · obtain ⟨a, ha⟩ := wk_ref (nat3 hn 265 (by decide +kernel) : (Cond.exactly (.string "CircusLedger" 304) "java/lang/String").before args s = true)
    exact ⟨a, vk_R.of (hts _ (tb_6 _ (List.mem_of_getElem? (i := 227) (by decide +kernel)))) ha⟩
  · obtain ⟨a, ha⟩ := wk_ref (nat3 hn 299 (by decide +kernel) : (Cond.exactly (.string "CircusLedger" 310) "java/lang/String").before args s = true)
    exact ⟨a, vk_R.of (hts _ (tb_6 _ (List.mem_of_getElem? (i := 233) (by decide +kernel)))) ha⟩
  · obtain ⟨a, ha⟩ := wk_ref (nat3 hn 328 (by decide +kernel) : (Cond.exactly (.string "CircusLedger" 322) "java/lang/String").before args s = true)
    exact ⟨a, vk_R.of (hts _ (tb_7 _ (List.mem_of_getElem? (i := 71) (by decide +kernel)))) ha⟩
  · obtain ⟨a, ha⟩ := wk_ref (nat3 hn 374 (by decide +kernel) : (Cond.exactly (.string "CircusLedger" 341) "java/lang/String").before args s = true)
    exact ⟨a, vk_R.of (hts _ (tb_7 _ (List.mem_of_getElem? (i := 102) (by decide +kernel)))) ha⟩
  · obtain ⟨a, ha⟩ := wk_ref (nat4 hn 8 (by decide +kernel) : (Cond.exactly (.string "CircusLedger" 351) "java/lang/String").before args s = true)
    exact ⟨a, vk_R.of (hts _ (tb_7 _ (List.mem_of_getElem? (i := 137) (by decide +kernel)))) ha⟩
  · obtain ⟨a, ha⟩ := wk_ref (nat4 hn 36 (by decide +kernel) : (Cond.exactly (.string "CircusLedger" 364) "java/lang/String").before args s = true)
    exact ⟨a, vk_R.of (hts _ (tb_7 _ (List.mem_of_getElem? (i := 150) (by decide +kernel)))) ha⟩
  · obtain ⟨a, ha⟩ := wk_ref (nat2 hn 245 (by decide +kernel) : (Cond.exactly (.string "CircusLedger" 373) "java/lang/String").before args s = true)
    exact ⟨a, vk_R.of (hts _ (tb_4 _ (List.mem_of_getElem? (i := 120) (by decide +kernel)))) ha⟩
  · obtain ⟨a, ha⟩ := wk_ref (nat2 hn 273 (by decide +kernel) : (Cond.exactly (.string "CircusLedger" 378) "java/lang/String").before args s = true)
    exact ⟨a, vk_R.of (hts _ (tb_4 _ (List.mem_of_getElem? (i := 168) (by decide +kernel)))) ha⟩
  · obtain ⟨a, ha⟩ := wk_ref (nat3 hn 30 (by decide +kernel) : (Cond.exactly (.string "CircusLedger" 381) "java/lang/String").before args s = true)
    exact ⟨a, vk_R.of (hts _ (tb_5 _ (List.mem_of_getElem? (i := 55) (by decide +kernel)))) ha⟩
  · obtain ⟨a, ha⟩ := wk_ref (nat3 hn 58 (by decide +kernel) : (Cond.exactly (.string "CircusLedger" 383) "java/lang/String").before args s = true)
    exact ⟨a, vk_R.of (hts _ (tb_5 _ (List.mem_of_getElem? (i := 91) (by decide +kernel)))) ha⟩
  · obtain ⟨a, ha⟩ := wk_ref (nat3 hn 99 (by decide +kernel) : (Cond.exactly (.string "CircusLedger" 390) "java/lang/String").before args s = true)
    exact ⟨a, vk_R.of (hts _ (tb_5 _ (List.mem_of_getElem? (i := 136) (by decide +kernel)))) ha⟩
  · obtain ⟨a, ha⟩ := wk_ref (nat2 hn 395 (by decide +kernel) : (Cond.exactly (.string "CircusLedger" 393) "java/lang/String").before args s = true)
    exact ⟨a, vk_R.of (hts _ (tb_5 _ (List.mem_of_getElem? (i := 26) (by decide +kernel)))) ha⟩
  · obtain ⟨a, ha⟩ := wk_ref (nat2 hn 336 (by decide +kernel) : (Cond.exactly (.string "CircusLedger" 395) "java/lang/String").before args s = true)
    exact ⟨a, vk_R.of (hts _ (tb_4 _ (List.mem_of_getElem? (i := 194) (by decide +kernel)))) ha⟩
  · obtain ⟨a, ha⟩ := wk_ref (nat2 hn 103 (by decide +kernel) : (Cond.exactly (.string "CircusLedger" 400) "java/lang/String").before args s = true)
    exact ⟨a, vk_R.of (hts _ (tb_3 _ (List.mem_of_getElem? (i := 61) (by decide +kernel)))) ha⟩
  · obtain ⟨a, ha⟩ := wk_ref (nat2 hn 142 (by decide +kernel) : (Cond.exactly (.string "CircusLedger" 405) "java/lang/String").before args s = true)
    exact ⟨a, vk_R.of (hts _ (tb_3 _ (List.mem_of_getElem? (i := 97) (by decide +kernel)))) ha⟩
  · obtain ⟨a, ha⟩ := wk_ref (nat2 hn 172 (by decide +kernel) : (Cond.exactly (.string "CircusLedger" 410) "java/lang/String").before args s = true)
    exact ⟨a, vk_R.of (hts _ (tb_3 _ (List.mem_of_getElem? (i := 114) (by decide +kernel)))) ha⟩
  · obtain ⟨a, ha⟩ := wk_ref (nat2 hn 212 (by decide +kernel) : (Cond.exactly (.string "CircusLedger" 417) "java/lang/String").before args s = true)
    exact ⟨a, vk_R.of (hts _ (tb_3 _ (List.mem_of_getElem? (i := 132) (by decide +kernel)))) ha⟩
theorem st_wrd {args : Array Value} {s : State} {A : Nat → Prop} (hn : wk_NN args s) (hts : ∀ w ∈ lw_tbl, w.before args s = true) (hA : ∀ a : Nat, a < s.heap.size → ¬ A a) {a2 : Nat → Nat} (h2 : ∀ i, i < 16 → (stT i).eval args s none [] s = some (.ref (a2 i))) : ∀ i : Nat, i < 8 → vk_R "CircusLedgerModel" (sWrd.getD i (0, "")).1 (sWrd.getD i (0, "")).2 (a2 (8 + i)) s := by
  intro i hi
  rcases (show i = 0 ∨ i = 1 ∨ i = 2 ∨ i = 3 ∨ i = 4 ∨ i = 5 ∨ i = 6 ∨ i = 7 by omega) with rfl | rfl | rfl | rfl | rfl | rfl | rfl | rfl
  · exact vk_R.of (hts _ (tb_9 _ (List.mem_of_getElem? (i := 154) (by decide +kernel)))) (h2 8 (by decide))
  · exact vk_R.of (hts _ (tb_9 _ (List.mem_of_getElem? (i := 155) (by decide +kernel)))) (h2 9 (by decide))
  · exact vk_R.of (hts _ (tb_9 _ (List.mem_of_getElem? (i := 134) (by decide +kernel)))) (h2 10 (by decide))
  · exact vk_R.of (hts _ (tb_9 _ (List.mem_of_getElem? (i := 145) (by decide +kernel)))) (h2 11 (by decide))
  · exact vk_R.of (hts _ (tb_9 _ (List.mem_of_getElem? (i := 156) (by decide +kernel)))) (h2 12 (by decide))
  · exact vk_R.of (hts _ (tb_9 _ (List.mem_of_getElem? (i := 157) (by decide +kernel)))) (h2 13 (by decide))
  · exact vk_R.of (hts _ (tb_9 _ (List.mem_of_getElem? (i := 158) (by decide +kernel)))) (h2 14 (by decide))
  · exact vk_R.of (hts _ (tb_9 _ (List.mem_of_getElem? (i := 159) (by decide +kernel)))) (h2 15 (by decide))
theorem st_cast {args : Array Value} {s : State} {A : Nat → Prop} (hn : wk_NN args s) (hts : ∀ w ∈ lw_tbl, w.before args s = true) (hA : ∀ a : Nat, a < s.heap.size → ¬ A a) : ∀ i : Nat, i < 6 → va_Nw (.castable (sExc.getD i "") (sExc.getD i "")) s := by
  intro i hi
  rcases (show i = 0 ∨ i = 1 ∨ i = 2 ∨ i = 3 ∨ i = 4 ∨ i = 5 by omega) with rfl | rfl | rfl | rfl | rfl | rfl
  · exact va_tabs rfl rfl (hts _ (tb_3 _ (List.mem_of_getElem? (i := 17) (by decide +kernel))))
  · exact va_tabs rfl rfl (hts _ (tb_3 _ (List.mem_of_getElem? (i := 90) (by decide +kernel))))
  · exact va_tabs rfl rfl (hts _ (tb_3 _ (List.mem_of_getElem? (i := 107) (by decide +kernel))))
  · exact va_tabs rfl rfl (hts _ (tb_5 _ (List.mem_of_getElem? (i := 15) (by decide +kernel))))
  · exact va_tabs rfl rfl (hts _ (tb_3 _ (List.mem_of_getElem? (i := 125) (by decide +kernel))))
  · exact va_tabs rfl rfl (hts _ (tb_4 _ (List.mem_of_getElem? (i := 187) (by decide +kernel))))
theorem st_decl {args : Array Value} {s : State} {A : Nat → Prop} (hn : wk_NN args s) (hts : ∀ w ∈ lw_tbl, w.before args s = true) (hA : ∀ a : Nat, a < s.heap.size → ¬ A a) : ∀ i : Nat, i < 3 → va_Nw (.declares ⟨sThr.getD i "", "<init>", "(Ljava/lang/String;)V"⟩) s := by
  intro i hi
  rcases (show i = 0 ∨ i = 1 ∨ i = 2 by omega) with rfl | rfl | rfl
  · exact va_tabs rfl rfl (hts _ (tb_3 _ (List.mem_of_getElem? (i := 19) (by decide +kernel))))
  · exact va_tabs rfl rfl (hts _ (tb_3 _ (List.mem_of_getElem? (i := 21) (by decide +kernel))))
  · exact va_tabs rfl rfl (hts _ (tb_3 _ (List.mem_of_getElem? (i := 23) (by decide +kernel))))
theorem st_T {args : Array Value} {s : State} {A : Nat → Prop} (hn : wk_NN args s) (hts : ∀ w ∈ lw_tbl, w.before args s = true) (hA : ∀ a : Nat, a < s.heap.size → ¬ A a) : ∃ g : Nat → Nat → Nat, wk_T g A s s.heap := by
  obtain ⟨a0, t0⟩ := st_ref hn hts hA
  obtain ⟨a1, h1, t1⟩ := st_cmd hn hts hA
  obtain ⟨a2, a3, h2, t2⟩ := st_strs hn hts hA
  obtain ⟨b0, z0, y0⟩ := st_sw hn hts hA
  obtain ⟨b1, z1, y1⟩ := st_all hn hts hA h1
  obtain ⟨b2, z2, y2⟩ := st_ten hn hts hA
  obtain ⟨b3, z3, y3⟩ := st_one hn hts hA
  obtain ⟨a5, t5⟩ := st_msg hn hts hA
  refine ⟨fun k => if k = 0 then a0 else if k = 1 then a1 else if k = 2 then a2 else if k = 3 then a3 else if k = 4 then (fun i => if i = 0 then b0 else if i = 1 then b1 else if i = 2 then b2 else b3) else a5, ?_⟩
  exact ⟨t0, t1, st_form hn hts hA h1 h2, t2, z0, y0, z1, y1, va_Zof (hts _ (tb_1 _ (List.mem_of_getElem? (i := 207) (by decide +kernel)))) (hts _ (tb_1 _ (List.mem_of_getElem? (i := 10) (by decide +kernel)))) (va_eqt (nat1 hn 2 (by decide +kernel))) hA, z2, y2, z3, y3, ⟨wk_Zqof (hts _ (tb_3 _ (List.mem_of_getElem? (i := 42) (by decide +kernel)))) (hts _ (tb_1 _ (List.mem_of_getElem? (i := 15) (by decide +kernel)))) (nat1 hn 17 (by decide +kernel)) hA, wk_xLof (hts _ (tb_3 _ (List.mem_of_getElem? (i := 42) (by decide +kernel)))) hA⟩, ⟨wk_Zqof (hts _ (tb_3 _ (List.mem_of_getElem? (i := 44) (by decide +kernel)))) (hts _ (tb_1 _ (List.mem_of_getElem? (i := 15) (by decide +kernel)))) (nat1 hn 18 (by decide +kernel)) hA, wk_xLof (hts _ (tb_3 _ (List.mem_of_getElem? (i := 44) (by decide +kernel)))) hA⟩, t5, st_wrd hn hts hA h2, st_cast hn hts hA, wk_Zqof (hts _ (tb_5 _ (List.mem_of_getElem? (i := 229) (by decide +kernel)))) (hts _ (tb_1 _ (List.mem_of_getElem? (i := 35) (by decide +kernel)))) (nat1 hn 25 (by decide +kernel)) hA, st_decl hn hts hA⟩
theorem st_N {args : Array Value} {s : State} (hts : ∀ w ∈ lw_tbl, w.before args s = true) : wk_N s := ⟨va_tabs rfl rfl (hts _ (tb_1 _ (List.mem_of_getElem? (i := 54) (by decide +kernel)))), va_tabs rfl rfl (hts _ (tb_1 _ (List.mem_of_getElem? (i := 88) (by decide +kernel)))), va_tabs rfl rfl (hts _ (tb_1 _ (List.mem_of_getElem? (i := 157) (by decide +kernel)))), va_tabs rfl rfl (hts _ (tb_1 _ (List.mem_of_getElem? (i := 48) (by decide +kernel)))), va_tabs rfl rfl (hts _ (tb_1 _ (List.mem_of_getElem? (i := 171) (by decide +kernel)))), va_tabs rfl rfl (hts _ (tb_1 _ (List.mem_of_getElem? (i := 193) (by decide +kernel)))), va_AO.of (hts _ (tb_1 _ (List.mem_of_getElem? (i := 156) (by decide +kernel)))), va_AO.of (hts _ (tb_1 _ (List.mem_of_getElem? (i := 231) (by decide +kernel))))⟩
theorem st_ty {args : Array Value} {s : State} (hts : ∀ w ∈ lw_tbl, w.before args s = true) : ∃ Y : Nat → ClassId, ∀ (k : Nat) (q : ClassId × FieldType), (vTy Y)[k]? = some q → ArrOfT s q.1 q.2 ∧ va_RA s q.1 q.2 := by
  have hNn := st_N (args := args) hts
  obtain ⟨c0, p0, r0⟩ := wk_tyP (ty := .int) (hts _ (tb_1 _ (List.mem_of_getElem? (i := 85) (by decide +kernel))))
  obtain ⟨c1, p1, r1⟩ := wk_tyP (ty := .byte) (hts _ (tb_1 _ (List.mem_of_getElem? (i := 229) (by decide +kernel))))
  obtain ⟨c2, p2, r2⟩ := wk_tyP (ty := .char) (hts _ (tb_7 _ (List.mem_of_getElem? (i := 228) (by decide +kernel))))
  obtain ⟨c5, p5, r5⟩ := wk_tyP (ty := .long) (hts _ (tb_9 _ (List.mem_of_getElem? (i := 192) (by decide +kernel))))
  obtain ⟨c6, p6, r6⟩ := wk_tyP (ty := .double) (hts _ (tb_9 _ (List.mem_of_getElem? (i := 193) (by decide +kernel))))
  obtain ⟨c3, p3, r3⟩ := wk_tyO hNn.2.2.2.2.2.2.1
  obtain ⟨c4, p4, r4⟩ := wk_tyO hNn.2.2.2.2.2.2.2
  refine ⟨fun k => if k = 0 then c0 else if k = 1 then c1 else if k = 2 then c2 else if k = 3 then c3 else if k = 4 then c4 else if k = 5 then c5 else c6, fun k q hq => ?_⟩
  match k, hq with
  | 0, hq => cases hq; exact ⟨p0, r0⟩
  | 1, hq => cases hq; exact ⟨p1, r1⟩
  | 2, hq => cases hq; exact ⟨p2, r2⟩
  | 3, hq => cases hq; exact ⟨p3, r3⟩
  | 4, hq => cases hq; exact ⟨p4, r4⟩
  | 5, hq => cases hq; exact ⟨p5, r5⟩
  | 6, hq => cases hq; exact ⟨p6, r6⟩
  | k + 7, hq => simp [vTy] at hq
theorem st_NC {args : Array Value} {s : State} (hn : wk_NN args s) (hts : ∀ w ∈ lw_tbl, w.before args s = true) : wk_NC s := ⟨List.forall_mem_cons.mpr ⟨va_Nc.of (nat1 hn 362 (by decide +kernel)), List.forall_mem_cons.mpr ⟨va_Nc.of (nat1 hn 399 (by decide +kernel)), List.forall_mem_cons.mpr ⟨va_Nc.of (nat2 hn 0 (by decide +kernel)), List.forall_mem_cons.mpr ⟨va_Nc.of (nat2 hn 1 (by decide +kernel)), List.forall_mem_cons.mpr ⟨va_Nc.of (nat1 hn 363 (by decide +kernel)), List.forall_mem_cons.mpr ⟨va_Nc.of (nat1 hn 382 (by decide +kernel)), List.forall_mem_cons.mpr ⟨va_Nc.of (nat2 hn 18 (by decide +kernel)), List.forall_mem_cons.mpr ⟨va_Nc.of (nat1 hn 365 (by decide +kernel)), List.forall_mem_cons.mpr ⟨va_Nc.of (nat1 hn 366 (by decide +kernel)), (fun _ h => absurd h List.not_mem_nil)⟩⟩⟩⟩⟩⟩⟩⟩⟩, List.forall_mem_cons.mpr ⟨va_tabs rfl rfl (hts _ (tb_2 _ (List.mem_of_getElem? (i := 231) (by decide +kernel)))), List.forall_mem_cons.mpr ⟨va_tabs rfl rfl (hts _ (tb_2 _ (List.mem_of_getElem? (i := 232) (by decide +kernel)))), List.forall_mem_cons.mpr ⟨va_tabs rfl rfl (hts _ (tb_3 _ (List.mem_of_getElem? (i := 154) (by decide +kernel)))), List.forall_mem_cons.mpr ⟨va_tabs rfl rfl (hts _ (tb_3 _ (List.mem_of_getElem? (i := 175) (by decide +kernel)))), List.forall_mem_cons.mpr ⟨va_tabs rfl rfl (hts _ (tb_4 _ (List.mem_of_getElem? (i := 173) (by decide +kernel)))), List.forall_mem_cons.mpr ⟨va_tabs rfl rfl (hts _ (tb_5 _ (List.mem_of_getElem? (i := 3) (by decide +kernel)))), (fun _ h => absurd h List.not_mem_nil)⟩⟩⟩⟩⟩⟩⟩
