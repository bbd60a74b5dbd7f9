/-! PURE LAYER: the beginning, and the whole relation -/
def c0 : sC := (0, fun _ => 0, fun _ => 0, fun _ => 0, fun _ => 0, fun _ => 0, 5, fun _ => 0, fun _ => 0, 0, fun _ => 0, fun _ => 0, fun _ => 0, 0, 0, 0, 0)
theorem RC_init : RC 0 0 0 c0 (fun _ => 0) := by
  refine ⟨⟨rfl, ⟨by decide, rfl, fun k hk => absurd hk (by omega)⟩, fun k _ => ⟨rfl, rfl, rfl, rfl, rfl⟩, fun _ _ _ => rfl⟩, ⟨rfl, rfl, fun k _ => ⟨rfl, rfl⟩, fun k hk => absurd hk (by omega)⟩, ?_, ⟨rfl, rfl, rfl, rfl, 0, by decide, rfl⟩⟩
  refine ⟨⟨by decide, by decide, by decide, rfl⟩, ⟨by decide, by decide, ?_, ?_, fun _ _ _ => rfl⟩, fun k hk => absurd hk (by omega), fun k hk => ?_⟩
  · have : ∀ A, sB A (gb (fun _ => 0)) (fun _ => true) = 0 := by
      intro A
      induction A with
      | zero => rfl
      | succ A ih =>
        rw [sB_s, ih]
        rfl
    exact this 11
  · have : sab 11 (gb (fun _ => 0)) = 0 := by
      unfold sab
      exact sm_zero (fun k _ => rfl)
    omega
  · rw [js, js]
    exact (by decide : (0 : Int32) = 0 + 0 - 0)
theorem RH_init (Hc : Nat → sC) : RH 0 Hc 0 0 (fun _ => 0) 0 := ⟨by decide, rfl, 0, by decide, rfl, fun i hi => absurd hi (by omega)⟩
theorem OUT_init (sg : Nat → Int32) : OUT 16 0 (fun _ => 0) sg := ⟨Or.inl rfl, fun j _ => ⟨0, by decide, rfl⟩, by decide, by decide, fun k hk => absurd hk (by omega)⟩
theorem RI_init (tx : Nat → Int32) : RI 16 0 (fun _ => 0) tx := ⟨OUT_init tx, by decide, fun k hk => absurd hk (by omega)⟩
theorem RE_init : RE (-1) := Or.inl rfl
/-- the whole relation: the class's state on the left, the reference's on the right -/
def RelAll (Bd : Nat) (hs Lf Lc : Int32) (c : sC) (Hc : Nat → sC) (Hn Hk : Int32) (sv : sC) (Om on : Nat) (Of : Nat → Int32) (Zm L : Nat) (Zf Es Eg : Nat → Int32)
    (g kp sm_ : Nat → Int32) (ch : Nat) (is wn fault failed : Int32) (sg tx : Nat → Int32) : Prop :=
  RCt Bd c g ∧ RH Bd Hc Hn Hk kp ch ∧ RSv Bd hs sv sm_ is ∧ OUT Om on Of sg ∧ RI Zm L Zf tx ∧ (Lf = fault ∧ Lc = failed ∧ RE Lf ∧ RE Lc) ∧ Es 0 = 0 ∧ Eg 0 = 0 ∧ wn = 0
theorem RelAll_init (Hc : Nat → sC) (sv : sC) (sm_ sg tx : Nat → Int32) : RelAll 0 0 (-1) (-1) c0 Hc 0 0 sv 16 0 (fun _ => 0) 16 0 (fun _ => 0) (fun _ => 0) (fun _ => 0) (fun _ => 0) (fun _ => 0) sm_ 0 0 0 (-1) (-1) sg tx :=
  ⟨⟨0, 0, RC_init⟩, RH_init Hc, Or.inl ⟨rfl, rfl⟩, OUT_init sg, RI_init tx, ⟨rfl, rfl, RE_init, RE_init⟩, rfl, rfl, rfl⟩
