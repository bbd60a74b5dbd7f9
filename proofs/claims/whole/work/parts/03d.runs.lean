/-! cells of a world by runs of places: reads that cost its length, not its square -/
def wr_tk {α : Type _} : Nat → List α → List (Option α)
  | 0, _ => []
  | n + 1, [] => none :: wr_tk n []
  | n + 1, a :: as => some a :: wr_tk n as
def wr_go {α : Type _} : List (Nat × Nat) → List α → List (Option α)
  | [], _ => []
  | r :: t, ws => wr_tk r.2 (ws.drop r.1) ++ wr_go t ws
def wr_r : Nat → Nat → List Nat
  | _, 0 => []
  | s, n + 1 => s :: wr_r (s + 1) n
def wr_is : List (Nat × Nat) → List Nat
  | [] => []
  | r :: t => wr_r r.1 r.2 ++ wr_is t
theorem wr_hd {α : Type _} : ∀ (s : Nat) (ws : List α), ws[s]? = (ws.drop s).head?
  | 0, [] => rfl
  | 0, _ :: _ => rfl
  | _ + 1, [] => rfl
  | s + 1, a :: as => by
    rw [List.getElem?_cons_succ]
    exact wr_hd s as
theorem wr_tl {α : Type _} : ∀ (s : Nat) (ws : List α), ws.drop (s + 1) = (ws.drop s).tail
  | 0, [] => rfl
  | 0, _ :: _ => rfl
  | _ + 1, [] => rfl
  | s + 1, _ :: as => wr_tl s as
theorem wr_tk_eq {α : Type _} (ws : List α) : ∀ (n s : Nat), (wr_r s n).map (fun i => ws[i]?) = wr_tk n (ws.drop s)
  | 0, _ => by simp [wr_r, wr_tk]
  | n + 1, s => by
    have e := wr_tk_eq ws n (s + 1)
    rw [wr_tl] at e
    show ws[s]? :: (wr_r (s + 1) n).map (fun i => ws[i]?) = _
    rw [e, wr_hd]
    cases ws.drop s with
    | nil => rfl
    | cons a as => rfl
theorem wr_go_eq {α : Type _} (ws : List α) : ∀ rs : List (Nat × Nat), (wr_is rs).map (fun i => ws[i]?) = wr_go rs ws
  | [] => rfl
  | r :: t => by
    show (wr_r r.1 r.2 ++ wr_is t).map (fun i => ws[i]?) = wr_tk r.2 (ws.drop r.1) ++ wr_go t ws
    rw [List.map_append, wr_tk_eq, wr_go_eq ws t]
theorem wr_ix {α : Type _} {ws wc : List α} (rs : List (Nat × Nat)) (h : wr_go rs ws = wc.map some) : (wr_is rs).map (fun i => ws[i]?) = wc.map some := (wr_go_eq ws rs).trans h
