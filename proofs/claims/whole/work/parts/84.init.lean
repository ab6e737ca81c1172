/-! the memory that both constructors leave, and what it means -/
def z0 : Int → Int := fun _ => 0
def letR0 : Int → Int := (ur (ur (ur (ur (ur (ur (ur (ur (ur (ur (ur (ur (ur (ur (ur (ur (ur (fun _ => 0) 0 (108)) 1 (101)) 2 (102)) 3 (116)) 4 (114)) 5 (105)) 6 (103)) 7 (104)) 8 (116)) 9 (119)) 10 (105)) 11 (100)) 12 (101)) 13 (115)) 14 (107)) 15 (105)) 16 (112))
def sortR0 : Int → Int := (ur (ur (ur (ur (ur (ur (fun _ => 0) 0 (-1)) 1 (-1)) 2 (-1)) 3 (-1)) 4 (-1)) 5 (-1))
def V00 : MM := fun k =>
  if ([8, 15, 22] : List Nat).contains k then ur z0 2 43 else
  if ([43, 47, 51, 55, 59, 63, 67] : List Nat).contains k then ur z0 0 24 else
  if ([71, 73, 75, 77, 79, 81] : List Nat).contains k then ur z0 0 (-1) else
  if k = 83 then ur (ur z0 8 (-1)) 41 (-1) else
  if k = 97 then letR0 else
  if k = 122 then sortR0 else z0
def Z00 : ZT := (fsC V00 8, (24, 0, fun _ _ => 0), 0, (0, z0), snC V00 29, none, (0, z0), fun _ => (-1, 0, z0))
theorem z0_ (i : Int) : z0 i = 0 := rfl
theorem FInv00 : FInv 24 (fsC V00 8) := by
  refine ⟨by decide, by decide, fun d _ => ?_, fun d hd => ?_, fun i _ => ?_, fun i _ => ?_⟩
  · show (0 ≤ z0 d ∧ z0 d ≤ 6) ∧ (0 ≤ z0 d ∧ z0 d ≤ 9)
    rw [z0_]; decide
  · have h : d < 0 := hd.2
    omega
  · show 0 ≤ z0 i ∧ z0 i < 24
    rw [z0_]; decide
  · show 0 ≤ z0 i ∧ z0 i ≤ 9
    rw [z0_]; decide
theorem NInv00 (n : Int) : NInv n (snC V00 29) := by
  refine ⟨by decide, fun i hi => ?_, by decide, fun i hi => ?_, by decide, fun i hi => ?_⟩
  · have h : i < 0 := hi.2
    omega
  · have h : i < 0 := hi.2
    omega
  · have h : i < 0 := hi.2
    omega
theorem HInv00 : HInv V00 43 := by
  refine ⟨Or.inl rfl, by decide, by decide, by decide, fun i hi => ?_, fun i hi => ?_⟩
  · have h : i < 0 := hi.2
    omega
  · show -3 ≤ z0 i ∧ z0 i ≤ 1799
    rw [z0_]; decide
theorem CA00 : CA V00 Z00 := by
  refine ⟨⟨⟨Or.inl rfl, rfl, ⟨HInv00, ?_⟩, by decide, FInv00⟩, by decide, Or.inl rfl⟩, ⟨rfl, by decide, fun h hh i _ => ?_⟩, ⟨rfl, rfl, by decide, fun i _ => ?_⟩, ⟨rfl, NInv00 _⟩, Or.inl ⟨rfl, rfl⟩, ⟨rfl, rfl, by decide, by decide⟩, fun i hi => ?_⟩
  · show ((24, 0, fun _ _ => 0) : HS) = (24, 0, stepC V00 43)
    have e : stepC V00 43 = fun _ _ => 0 := by
      funext s d
      rfl
    rw [e]
  · rcases hh with rfl | rfl | rfl | rfl | rfl | rfl | rfl <;> (show -3 ≤ z0 i ∧ z0 i ≤ 1799; rw [z0_]; decide)
  · show 0 ≤ z0 i ∧ z0 i ≤ 127
    rw [z0_]; decide
  · match i, hi with
    | 0, _ => exact ⟨rfl, by decide, by decide, fun _ => rfl⟩
    | 1, _ => exact ⟨rfl, by decide, by decide, fun _ => rfl⟩
    | 2, _ => exact ⟨rfl, by decide, by decide, fun _ => rfl⟩
    | 3, _ => exact ⟨rfl, by decide, by decide, fun _ => rfl⟩
    | 4, _ => exact ⟨rfl, by decide, by decide, fun _ => rfl⟩
    | 5, _ => exact ⟨rfl, by decide, by decide, fun _ => rfl⟩
    | n + 6, h => exact absurd h (by omega)
theorem MA00 : MA V00 Z00 := by
  refine ⟨⟨⟨rfl, ?_, ⟨by decide, by decide, fun c hc => ?_⟩, FInv00⟩, by decide⟩, ⟨rfl, by decide, by decide⟩, ⟨rfl, rfl, by decide, fun i _ => ?_⟩, ⟨rfl, NInv00 _⟩, Or.inl ⟨rfl, rfl⟩, ⟨rfl, rfl, by decide, by decide⟩, fun i hi => ?_, fun j hj => ?_⟩
  · show ((24, 0, fun _ _ => 0) : HS) = hsT V00 (-1)
    have e : stepT V00 (-1) = fun _ _ => 0 := by
      funext s d
      rfl
    unfold hsT
    rw [e]
    rfl
  · have h1 : fstM (-1) ≤ c := hc.1
    have h2 : c < fstM (-1) + 0 := hc.2
    omega
  · show 0 ≤ z0 i ∧ z0 i ≤ 127
    rw [z0_]; decide
  · refine ⟨⟨?_, rfl, fun j _ => rfl⟩, by show (-1 : Int) ≤ -1 ∧ (-1 : Int) ≤ 4; decide, by show (0 : Int) ≤ 0 ∧ (0 : Int) ≤ 60; decide, fun _ => rfl⟩
    match i, hi with
    | 0, _ => rfl
    | 1, _ => rfl
    | 2, _ => rfl
    | 3, _ => rfl
    | 4, _ => rfl
    | 5, _ => rfl
    | n + 6, h => exact absurd h (by omega)
  · have h : j = 0 ∨ j = 1 ∨ j = 2 ∨ j = 3 ∨ j = 4 ∨ j = 5 ∨ j = 6 ∨ j = 7 ∨ j = 8 ∨ j = 9 ∨ j = 10 ∨ j = 11 ∨ j = 12 ∨ j = 13 ∨ j = 14 ∨ j = 15 ∨ j = 16 := by omega
    rcases h with rfl | rfl | rfl | rfl | rfl | rfl | rfl | rfl | rfl | rfl | rfl | rfl | rfl | rfl | rfl | rfl | rfl <;> rfl
