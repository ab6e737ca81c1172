/-! both objects of the law lie at the places of the one memory -/
theorem arrV_eq {cI : ClassId} {N : Nat} {f f' : Nat → Value} (h : ∀ j, j < N → f j = f' j) : arrV cI N f = arrV cI N f' := by
  unfold arrV
  exact congrArg (fun F => ({ cls := cI, slots := Array.ofFn (n := N) F, vm := .none } : Cell)) (funext fun j => h j.val j.isLt)
def adA (adR qs qs2 : Nat → Nat) : Nat → Nat := fun k => if k < 83 then qs k else if k < 126 then qs2 (k - 83) else adR k
def gA (g : GC) (qs qs2 : Nat → Nat) : GC := (g.1, g.2.1, adA g.2.2.1 qs qs2, g.2.2.2.1, g.2.2.2.2)
def qv6 (qs : Nat → Nat) (b s : Nat) : Nat → Option Nat := va_up (va_up (va_up (va_up (va_up (va_up (fun _ => none) (Int32.ofInt (0)).toNatClampNeg (some (qs b))) (Int32.ofInt (1)).toNatClampNeg (some (qs (b + s)))) (Int32.ofInt (2)).toNatClampNeg (some (qs (b + s + s)))) (Int32.ofInt (3)).toNatClampNeg (some (qs (b + s + s + s)))) (Int32.ofInt (4)).toNatClampNeg (some (qs (b + s + s + s + s)))) (Int32.ofInt (5)).toNatClampNeg (some (qs (b + s + s + s + s + s)))
def entX (g : GC) (qs qs2 : Nat → Nat) (k : Nat) : va_E := if k = 1 then .inl (g.2.2.2.2 4, 6, .inr (.inr (.inr (.inr (qv6 qs 47 4))))) else if k = 2 then .inl (g.2.2.2.2 5, 6, .inr (.inr (.inr (.inr (qv6 qs 71 2))))) else ent (gA g qs qs2) V00 k
def pos86 : List Nat := [0, 40, 69, 82, 65, 66, 67, 68, 5, 6, 7, 8, 9, 10, 11, 12, 13, 14, 15, 16, 17, 18, 19, 20, 21, 22, 23, 24, 25, 26, 27, 28, 29, 30, 31, 32, 33, 34, 35, 36, 37, 38, 39, 1, 2, 3, 4, 41, 42, 43, 44, 45, 46, 47, 48, 49, 50, 51, 52, 53, 54, 55, 56, 57, 58, 59, 60, 61, 62, 63, 64, 70, 71, 72, 73, 74, 75, 76, 77, 78, 79, 80, 81, 83, 84, 85, 86, 87, 88, 89, 90, 91, 92, 93, 94, 95, 96, 97, 98, 99, 100, 101, 102, 103, 104, 105, 106, 107, 108, 109, 110, 111, 112, 113, 114, 115, 116, 117, 118, 119, 120, 121, 122, 123, 124, 125]
theorem bstep {Q : Nat → Prop} {n : Nat} (h : ∀ k, k < n → Q k) (hn : Q n) : ∀ k, k < n + 1 → Q k := fun k hk => by
  by_cases e : k = n
  · rw [e]
    exact hn
  · exact h k (by omega)
theorem bnil {Q : Nat → Prop} : ∀ k, k < 0 → Q k := fun k hk => absurd hk (by omega)
def PlX (g : GC) (qs qs2 : Nat → Nat) (k : Nat) : Prop := (mkX6 g qs ++ mkX7 g qs2)[pos86.getD k 0]? = some (adA g.2.2.1 qs qs2 k, entX g qs qs2 k)
def fl83 : List (Nat × Nat) := [(0, 0), (0, 0), (1, 84), (1, 85), (1, 86), (1, 87), (1, 88), (0, 0), (0, 0), (0, 0), (0, 0), (0, 0), (1, 89), (1, 90), (1, 91), (1, 92), (1, 93), (1, 94), (1, 95), (1, 96), (0, 0), (0, 0), (0, 0), (1, 97), (1, 98), (1, 99), (1, 100), (0, 0), (1, 101), (1, 102), (1, 103), (0, 0), (1, 104), (1, 105), (1, 106), (0, 0), (0, 0), (1, 107), (1, 108), (1, 109), (0, 0), (0, 0), (0, 0), (0, 0), (0, 0), (0, 0), (0, 0), (1, 110), (1, 111), (1, 112), (1, 113), (1, 114), (1, 115), (1, 116), (1, 117), (1, 118), (1, 119), (1, 120), (0, 0), (1, 121), (1, 122), (1, 123), (1, 124), (1, 125)]
def rw83 (qs : Nat → Nat) : List Value := [.int (Int32.ofInt (0)), .int (Int32.ofInt (0)), .ref (qs 1), .ref (qs 2), .ref (qs 3), .ref (qs 4), .ref (qs 5), .int (Int32.ofInt (0)), .int (Int32.ofInt (-1)), .int (Int32.ofInt (0)), .int (Int32.ofInt (0)), .int (Int32.ofInt (0)), .ref (qs 6), .ref (qs 7), .ref (qs 8), .ref (qs 9), .ref (qs 10), .ref (qs 11), .ref (qs 12), .ref (qs 13), .int (Int32.ofInt (0)), .int (Int32.ofInt (0)), .int (Int32.ofInt (0)), .ref (qs 14), .ref (qs 15), .ref (qs 16), .ref (qs 17), .int (Int32.ofInt (0)), .ref (qs 18), .ref (qs 19), .ref (qs 20), .int (Int32.ofInt (0)), .ref (qs 21), .ref (qs 22), .ref (qs 23), .int (Int32.ofInt (0)), .int (Int32.ofInt (0)), .ref (qs 24), .ref (qs 25), .ref (qs 26), .int (Int32.ofInt (0)), .int (Int32.ofInt (-1)), .int (Int32.ofInt (0)), .int (Int32.ofInt (0)), .int (Int32.ofInt (0)), .int (Int32.ofInt (0)), .int (Int32.ofInt (0)), .ref (qs 27), .ref (qs 28), .ref (qs 29), .ref (qs 30), .ref (qs 31), .ref (qs 32), .ref (qs 33), .ref (qs 34), .ref (qs 35), .ref (qs 36), .ref (qs 37), .int (Int32.ofInt (0)), .ref (qs 38), .ref (qs 39), .ref (qs 40), .ref (qs 41), .ref (qs 42)]
theorem ml_is {F : Nat → Nat × Nat → Value} {l : List (Nat × Nat)} {r : List Value} (h : l.length = r.length) (hi : ∀ j, j < r.length → l[j]?.map (F j) = r[j]?) : l.mapIdx F = r := by
  apply List.ext_getElem?
  intro j
  rw [List.getElem?_mapIdx]
  by_cases hj : j < r.length
  · exact hi j hj
  · rw [List.getElem?_eq_none (by omega), List.getElem?_eq_none (by omega)]
    rfl
def Q83 (g : GC) (qs qs2 : Nat → Nat) (j : Nat) : Prop := fl83[j]?.map (fun q => fval (gA g qs qs2) q (V00 83 (j : Int))) = (rw83 qs2)[j]?
theorem q83_0 (g : GC) (qs qs2 : Nat → Nat) : Q83 g qs qs2 0 := rfl
theorem q83_1 (g : GC) (qs qs2 : Nat → Nat) : Q83 g qs qs2 1 := rfl
theorem q83_2 (g : GC) (qs qs2 : Nat → Nat) : Q83 g qs qs2 2 := rfl
theorem q83_3 (g : GC) (qs qs2 : Nat → Nat) : Q83 g qs qs2 3 := rfl
theorem q83_4 (g : GC) (qs qs2 : Nat → Nat) : Q83 g qs qs2 4 := rfl
theorem q83_5 (g : GC) (qs qs2 : Nat → Nat) : Q83 g qs qs2 5 := rfl
theorem q83_6 (g : GC) (qs qs2 : Nat → Nat) : Q83 g qs qs2 6 := rfl
theorem q83_7 (g : GC) (qs qs2 : Nat → Nat) : Q83 g qs qs2 7 := rfl
theorem q83_8 (g : GC) (qs qs2 : Nat → Nat) : Q83 g qs qs2 8 := rfl
theorem q83_9 (g : GC) (qs qs2 : Nat → Nat) : Q83 g qs qs2 9 := rfl
theorem q83_10 (g : GC) (qs qs2 : Nat → Nat) : Q83 g qs qs2 10 := rfl
theorem q83_11 (g : GC) (qs qs2 : Nat → Nat) : Q83 g qs qs2 11 := rfl
theorem q83_12 (g : GC) (qs qs2 : Nat → Nat) : Q83 g qs qs2 12 := rfl
theorem q83_13 (g : GC) (qs qs2 : Nat → Nat) : Q83 g qs qs2 13 := rfl
theorem q83_14 (g : GC) (qs qs2 : Nat → Nat) : Q83 g qs qs2 14 := rfl
theorem q83_15 (g : GC) (qs qs2 : Nat → Nat) : Q83 g qs qs2 15 := rfl
theorem q83_16 (g : GC) (qs qs2 : Nat → Nat) : Q83 g qs qs2 16 := rfl
theorem q83_17 (g : GC) (qs qs2 : Nat → Nat) : Q83 g qs qs2 17 := rfl
theorem q83_18 (g : GC) (qs qs2 : Nat → Nat) : Q83 g qs qs2 18 := rfl
theorem q83_19 (g : GC) (qs qs2 : Nat → Nat) : Q83 g qs qs2 19 := rfl
theorem q83_20 (g : GC) (qs qs2 : Nat → Nat) : Q83 g qs qs2 20 := rfl
theorem q83_21 (g : GC) (qs qs2 : Nat → Nat) : Q83 g qs qs2 21 := rfl
theorem q83_22 (g : GC) (qs qs2 : Nat → Nat) : Q83 g qs qs2 22 := rfl
theorem q83_23 (g : GC) (qs qs2 : Nat → Nat) : Q83 g qs qs2 23 := rfl
theorem q83_24 (g : GC) (qs qs2 : Nat → Nat) : Q83 g qs qs2 24 := rfl
theorem q83_25 (g : GC) (qs qs2 : Nat → Nat) : Q83 g qs qs2 25 := rfl
theorem q83_26 (g : GC) (qs qs2 : Nat → Nat) : Q83 g qs qs2 26 := rfl
theorem q83_27 (g : GC) (qs qs2 : Nat → Nat) : Q83 g qs qs2 27 := rfl
theorem q83_28 (g : GC) (qs qs2 : Nat → Nat) : Q83 g qs qs2 28 := rfl
theorem q83_29 (g : GC) (qs qs2 : Nat → Nat) : Q83 g qs qs2 29 := rfl
theorem q83_30 (g : GC) (qs qs2 : Nat → Nat) : Q83 g qs qs2 30 := rfl
theorem q83_31 (g : GC) (qs qs2 : Nat → Nat) : Q83 g qs qs2 31 := rfl
theorem q83_32 (g : GC) (qs qs2 : Nat → Nat) : Q83 g qs qs2 32 := rfl
theorem q83_33 (g : GC) (qs qs2 : Nat → Nat) : Q83 g qs qs2 33 := rfl
theorem q83_34 (g : GC) (qs qs2 : Nat → Nat) : Q83 g qs qs2 34 := rfl
theorem q83_35 (g : GC) (qs qs2 : Nat → Nat) : Q83 g qs qs2 35 := rfl
theorem q83_36 (g : GC) (qs qs2 : Nat → Nat) : Q83 g qs qs2 36 := rfl
theorem q83_37 (g : GC) (qs qs2 : Nat → Nat) : Q83 g qs qs2 37 := rfl
theorem q83_38 (g : GC) (qs qs2 : Nat → Nat) : Q83 g qs qs2 38 := rfl
theorem q83_39 (g : GC) (qs qs2 : Nat → Nat) : Q83 g qs qs2 39 := rfl
theorem q83_40 (g : GC) (qs qs2 : Nat → Nat) : Q83 g qs qs2 40 := rfl
theorem q83_41 (g : GC) (qs qs2 : Nat → Nat) : Q83 g qs qs2 41 := rfl
theorem q83_42 (g : GC) (qs qs2 : Nat → Nat) : Q83 g qs qs2 42 := rfl
theorem q83_43 (g : GC) (qs qs2 : Nat → Nat) : Q83 g qs qs2 43 := rfl
theorem q83_44 (g : GC) (qs qs2 : Nat → Nat) : Q83 g qs qs2 44 := rfl
theorem q83_45 (g : GC) (qs qs2 : Nat → Nat) : Q83 g qs qs2 45 := rfl
theorem q83_46 (g : GC) (qs qs2 : Nat → Nat) : Q83 g qs qs2 46 := rfl
theorem q83_47 (g : GC) (qs qs2 : Nat → Nat) : Q83 g qs qs2 47 := rfl
theorem q83_48 (g : GC) (qs qs2 : Nat → Nat) : Q83 g qs qs2 48 := rfl
theorem q83_49 (g : GC) (qs qs2 : Nat → Nat) : Q83 g qs qs2 49 := rfl
theorem q83_50 (g : GC) (qs qs2 : Nat → Nat) : Q83 g qs qs2 50 := rfl
theorem q83_51 (g : GC) (qs qs2 : Nat → Nat) : Q83 g qs qs2 51 := rfl
theorem q83_52 (g : GC) (qs qs2 : Nat → Nat) : Q83 g qs qs2 52 := rfl
theorem q83_53 (g : GC) (qs qs2 : Nat → Nat) : Q83 g qs qs2 53 := rfl
theorem q83_54 (g : GC) (qs qs2 : Nat → Nat) : Q83 g qs qs2 54 := rfl
theorem q83_55 (g : GC) (qs qs2 : Nat → Nat) : Q83 g qs qs2 55 := rfl
theorem q83_56 (g : GC) (qs qs2 : Nat → Nat) : Q83 g qs qs2 56 := rfl
theorem q83_57 (g : GC) (qs qs2 : Nat → Nat) : Q83 g qs qs2 57 := rfl
theorem q83_58 (g : GC) (qs qs2 : Nat → Nat) : Q83 g qs qs2 58 := rfl
theorem q83_59 (g : GC) (qs qs2 : Nat → Nat) : Q83 g qs qs2 59 := rfl
theorem q83_60 (g : GC) (qs qs2 : Nat → Nat) : Q83 g qs qs2 60 := rfl
theorem q83_61 (g : GC) (qs qs2 : Nat → Nat) : Q83 g qs qs2 61 := rfl
theorem q83_62 (g : GC) (qs qs2 : Nat → Nat) : Q83 g qs qs2 62 := rfl
theorem q83_63 (g : GC) (qs qs2 : Nat → Nat) : Q83 g qs qs2 63 := rfl
theorem q83_all (g : GC) (qs qs2 : Nat → Nat) : ∀ j, j < 64 → Q83 g qs qs2 j := by
  have h0 : ∀ j, j < 0 → Q83 g qs qs2 j := bnil
  have h1 : ∀ j, j < 1 → Q83 g qs qs2 j := bstep h0 (q83_0 g qs qs2)
  have h2 : ∀ j, j < 2 → Q83 g qs qs2 j := bstep h1 (q83_1 g qs qs2)
  have h3 : ∀ j, j < 3 → Q83 g qs qs2 j := bstep h2 (q83_2 g qs qs2)
  have h4 : ∀ j, j < 4 → Q83 g qs qs2 j := bstep h3 (q83_3 g qs qs2)
  have h5 : ∀ j, j < 5 → Q83 g qs qs2 j := bstep h4 (q83_4 g qs qs2)
  have h6 : ∀ j, j < 6 → Q83 g qs qs2 j := bstep h5 (q83_5 g qs qs2)
  have h7 : ∀ j, j < 7 → Q83 g qs qs2 j := bstep h6 (q83_6 g qs qs2)
  have h8 : ∀ j, j < 8 → Q83 g qs qs2 j := bstep h7 (q83_7 g qs qs2)
  have h9 : ∀ j, j < 9 → Q83 g qs qs2 j := bstep h8 (q83_8 g qs qs2)
  have h10 : ∀ j, j < 10 → Q83 g qs qs2 j := bstep h9 (q83_9 g qs qs2)
  have h11 : ∀ j, j < 11 → Q83 g qs qs2 j := bstep h10 (q83_10 g qs qs2)
  have h12 : ∀ j, j < 12 → Q83 g qs qs2 j := bstep h11 (q83_11 g qs qs2)
  have h13 : ∀ j, j < 13 → Q83 g qs qs2 j := bstep h12 (q83_12 g qs qs2)
  have h14 : ∀ j, j < 14 → Q83 g qs qs2 j := bstep h13 (q83_13 g qs qs2)
  have h15 : ∀ j, j < 15 → Q83 g qs qs2 j := bstep h14 (q83_14 g qs qs2)
  have h16 : ∀ j, j < 16 → Q83 g qs qs2 j := bstep h15 (q83_15 g qs qs2)
  have h17 : ∀ j, j < 17 → Q83 g qs qs2 j := bstep h16 (q83_16 g qs qs2)
  have h18 : ∀ j, j < 18 → Q83 g qs qs2 j := bstep h17 (q83_17 g qs qs2)
  have h19 : ∀ j, j < 19 → Q83 g qs qs2 j := bstep h18 (q83_18 g qs qs2)
  have h20 : ∀ j, j < 20 → Q83 g qs qs2 j := bstep h19 (q83_19 g qs qs2)
  have h21 : ∀ j, j < 21 → Q83 g qs qs2 j := bstep h20 (q83_20 g qs qs2)
  have h22 : ∀ j, j < 22 → Q83 g qs qs2 j := bstep h21 (q83_21 g qs qs2)
  have h23 : ∀ j, j < 23 → Q83 g qs qs2 j := bstep h22 (q83_22 g qs qs2)
  have h24 : ∀ j, j < 24 → Q83 g qs qs2 j := bstep h23 (q83_23 g qs qs2)
  have h25 : ∀ j, j < 25 → Q83 g qs qs2 j := bstep h24 (q83_24 g qs qs2)
  have h26 : ∀ j, j < 26 → Q83 g qs qs2 j := bstep h25 (q83_25 g qs qs2)
  have h27 : ∀ j, j < 27 → Q83 g qs qs2 j := bstep h26 (q83_26 g qs qs2)
  have h28 : ∀ j, j < 28 → Q83 g qs qs2 j := bstep h27 (q83_27 g qs qs2)
  have h29 : ∀ j, j < 29 → Q83 g qs qs2 j := bstep h28 (q83_28 g qs qs2)
  have h30 : ∀ j, j < 30 → Q83 g qs qs2 j := bstep h29 (q83_29 g qs qs2)
  have h31 : ∀ j, j < 31 → Q83 g qs qs2 j := bstep h30 (q83_30 g qs qs2)
  have h32 : ∀ j, j < 32 → Q83 g qs qs2 j := bstep h31 (q83_31 g qs qs2)
  have h33 : ∀ j, j < 33 → Q83 g qs qs2 j := bstep h32 (q83_32 g qs qs2)
  have h34 : ∀ j, j < 34 → Q83 g qs qs2 j := bstep h33 (q83_33 g qs qs2)
  have h35 : ∀ j, j < 35 → Q83 g qs qs2 j := bstep h34 (q83_34 g qs qs2)
  have h36 : ∀ j, j < 36 → Q83 g qs qs2 j := bstep h35 (q83_35 g qs qs2)
  have h37 : ∀ j, j < 37 → Q83 g qs qs2 j := bstep h36 (q83_36 g qs qs2)
  have h38 : ∀ j, j < 38 → Q83 g qs qs2 j := bstep h37 (q83_37 g qs qs2)
  have h39 : ∀ j, j < 39 → Q83 g qs qs2 j := bstep h38 (q83_38 g qs qs2)
  have h40 : ∀ j, j < 40 → Q83 g qs qs2 j := bstep h39 (q83_39 g qs qs2)
  have h41 : ∀ j, j < 41 → Q83 g qs qs2 j := bstep h40 (q83_40 g qs qs2)
  have h42 : ∀ j, j < 42 → Q83 g qs qs2 j := bstep h41 (q83_41 g qs qs2)
  have h43 : ∀ j, j < 43 → Q83 g qs qs2 j := bstep h42 (q83_42 g qs qs2)
  have h44 : ∀ j, j < 44 → Q83 g qs qs2 j := bstep h43 (q83_43 g qs qs2)
  have h45 : ∀ j, j < 45 → Q83 g qs qs2 j := bstep h44 (q83_44 g qs qs2)
  have h46 : ∀ j, j < 46 → Q83 g qs qs2 j := bstep h45 (q83_45 g qs qs2)
  have h47 : ∀ j, j < 47 → Q83 g qs qs2 j := bstep h46 (q83_46 g qs qs2)
  have h48 : ∀ j, j < 48 → Q83 g qs qs2 j := bstep h47 (q83_47 g qs qs2)
  have h49 : ∀ j, j < 49 → Q83 g qs qs2 j := bstep h48 (q83_48 g qs qs2)
  have h50 : ∀ j, j < 50 → Q83 g qs qs2 j := bstep h49 (q83_49 g qs qs2)
  have h51 : ∀ j, j < 51 → Q83 g qs qs2 j := bstep h50 (q83_50 g qs qs2)
  have h52 : ∀ j, j < 52 → Q83 g qs qs2 j := bstep h51 (q83_51 g qs qs2)
  have h53 : ∀ j, j < 53 → Q83 g qs qs2 j := bstep h52 (q83_52 g qs qs2)
  have h54 : ∀ j, j < 54 → Q83 g qs qs2 j := bstep h53 (q83_53 g qs qs2)
  have h55 : ∀ j, j < 55 → Q83 g qs qs2 j := bstep h54 (q83_54 g qs qs2)
  have h56 : ∀ j, j < 56 → Q83 g qs qs2 j := bstep h55 (q83_55 g qs qs2)
  have h57 : ∀ j, j < 57 → Q83 g qs qs2 j := bstep h56 (q83_56 g qs qs2)
  have h58 : ∀ j, j < 58 → Q83 g qs qs2 j := bstep h57 (q83_57 g qs qs2)
  have h59 : ∀ j, j < 59 → Q83 g qs qs2 j := bstep h58 (q83_58 g qs qs2)
  have h60 : ∀ j, j < 60 → Q83 g qs qs2 j := bstep h59 (q83_59 g qs qs2)
  have h61 : ∀ j, j < 61 → Q83 g qs qs2 j := bstep h60 (q83_60 g qs qs2)
  have h62 : ∀ j, j < 62 → Q83 g qs qs2 j := bstep h61 (q83_61 g qs qs2)
  have h63 : ∀ j, j < 63 → Q83 g qs qs2 j := bstep h62 (q83_62 g qs qs2)
  have h64 : ∀ j, j < 64 → Q83 g qs qs2 j := bstep h63 (q83_63 g qs qs2)
  exact h64
theorem sh_83 : sh 83 = .inl (7, fl83) := rfl
theorem en_83 (g : GC) (qs qs2 : Nat → Nat) : ent (gA g qs qs2) V00 83 = .inr (7, rw83 qs2) := by
  rw [ent_o (o := (7, fl83)) sh_83]
  exact congrArg (fun r => Sum.inr (7, r)) (ml_is (l := fl83) (r := rw83 qs2) rfl (fun j hj => q83_all g qs qs2 j hj))
set_option maxRecDepth 100000 in
theorem pl_0 (g : GC) (qs qs2 : Nat → Nat) : PlX g qs qs2 0 := rfl
set_option maxRecDepth 100000 in
theorem pl_1 (g : GC) (qs qs2 : Nat → Nat) : PlX g qs qs2 1 := rfl
set_option maxRecDepth 100000 in
theorem pl_2 (g : GC) (qs qs2 : Nat → Nat) : PlX g qs qs2 2 := rfl
set_option maxRecDepth 100000 in
theorem pl_3 (g : GC) (qs qs2 : Nat → Nat) : PlX g qs qs2 3 := rfl
set_option maxRecDepth 100000 in
theorem pl_4 (g : GC) (qs qs2 : Nat → Nat) : PlX g qs qs2 4 := rfl
set_option maxRecDepth 100000 in
theorem pl_5 (g : GC) (qs qs2 : Nat → Nat) : PlX g qs qs2 5 := rfl
set_option maxRecDepth 100000 in
theorem pl_6 (g : GC) (qs qs2 : Nat → Nat) : PlX g qs qs2 6 := rfl
set_option maxRecDepth 100000 in
theorem pl_7 (g : GC) (qs qs2 : Nat → Nat) : PlX g qs qs2 7 := rfl
set_option maxRecDepth 100000 in
theorem pl_8 (g : GC) (qs qs2 : Nat → Nat) : PlX g qs qs2 8 := rfl
set_option maxRecDepth 100000 in
theorem pl_9 (g : GC) (qs qs2 : Nat → Nat) : PlX g qs qs2 9 := rfl
set_option maxRecDepth 100000 in
theorem pl_10 (g : GC) (qs qs2 : Nat → Nat) : PlX g qs qs2 10 := rfl
set_option maxRecDepth 100000 in
theorem pl_11 (g : GC) (qs qs2 : Nat → Nat) : PlX g qs qs2 11 := rfl
set_option maxRecDepth 100000 in
theorem pl_12 (g : GC) (qs qs2 : Nat → Nat) : PlX g qs qs2 12 := rfl
set_option maxRecDepth 100000 in
theorem pl_13 (g : GC) (qs qs2 : Nat → Nat) : PlX g qs qs2 13 := rfl
set_option maxRecDepth 100000 in
theorem pl_14 (g : GC) (qs qs2 : Nat → Nat) : PlX g qs qs2 14 := rfl
set_option maxRecDepth 100000 in
theorem pl_15 (g : GC) (qs qs2 : Nat → Nat) : PlX g qs qs2 15 := rfl
set_option maxRecDepth 100000 in
theorem pl_16 (g : GC) (qs qs2 : Nat → Nat) : PlX g qs qs2 16 := rfl
set_option maxRecDepth 100000 in
theorem pl_17 (g : GC) (qs qs2 : Nat → Nat) : PlX g qs qs2 17 := rfl
set_option maxRecDepth 100000 in
theorem pl_18 (g : GC) (qs qs2 : Nat → Nat) : PlX g qs qs2 18 := rfl
set_option maxRecDepth 100000 in
theorem pl_19 (g : GC) (qs qs2 : Nat → Nat) : PlX g qs qs2 19 := rfl
set_option maxRecDepth 100000 in
theorem pl_20 (g : GC) (qs qs2 : Nat → Nat) : PlX g qs qs2 20 := rfl
set_option maxRecDepth 100000 in
theorem pl_21 (g : GC) (qs qs2 : Nat → Nat) : PlX g qs qs2 21 := rfl
set_option maxRecDepth 100000 in
theorem pl_22 (g : GC) (qs qs2 : Nat → Nat) : PlX g qs qs2 22 := rfl
set_option maxRecDepth 100000 in
theorem pl_23 (g : GC) (qs qs2 : Nat → Nat) : PlX g qs qs2 23 := rfl
set_option maxRecDepth 100000 in
theorem pl_24 (g : GC) (qs qs2 : Nat → Nat) : PlX g qs qs2 24 := rfl
set_option maxRecDepth 100000 in
theorem pl_25 (g : GC) (qs qs2 : Nat → Nat) : PlX g qs qs2 25 := rfl
set_option maxRecDepth 100000 in
theorem pl_26 (g : GC) (qs qs2 : Nat → Nat) : PlX g qs qs2 26 := rfl
set_option maxRecDepth 100000 in
theorem pl_27 (g : GC) (qs qs2 : Nat → Nat) : PlX g qs qs2 27 := rfl
set_option maxRecDepth 100000 in
theorem pl_28 (g : GC) (qs qs2 : Nat → Nat) : PlX g qs qs2 28 := rfl
set_option maxRecDepth 100000 in
theorem pl_29 (g : GC) (qs qs2 : Nat → Nat) : PlX g qs qs2 29 := rfl
set_option maxRecDepth 100000 in
theorem pl_30 (g : GC) (qs qs2 : Nat → Nat) : PlX g qs qs2 30 := rfl
set_option maxRecDepth 100000 in
theorem pl_31 (g : GC) (qs qs2 : Nat → Nat) : PlX g qs qs2 31 := rfl
set_option maxRecDepth 100000 in
theorem pl_32 (g : GC) (qs qs2 : Nat → Nat) : PlX g qs qs2 32 := rfl
set_option maxRecDepth 100000 in
theorem pl_33 (g : GC) (qs qs2 : Nat → Nat) : PlX g qs qs2 33 := rfl
set_option maxRecDepth 100000 in
theorem pl_34 (g : GC) (qs qs2 : Nat → Nat) : PlX g qs qs2 34 := rfl
set_option maxRecDepth 100000 in
theorem pl_35 (g : GC) (qs qs2 : Nat → Nat) : PlX g qs qs2 35 := rfl
set_option maxRecDepth 100000 in
theorem pl_36 (g : GC) (qs qs2 : Nat → Nat) : PlX g qs qs2 36 := rfl
set_option maxRecDepth 100000 in
theorem pl_37 (g : GC) (qs qs2 : Nat → Nat) : PlX g qs qs2 37 := rfl
set_option maxRecDepth 100000 in
theorem pl_38 (g : GC) (qs qs2 : Nat → Nat) : PlX g qs qs2 38 := rfl
set_option maxRecDepth 100000 in
theorem pl_39 (g : GC) (qs qs2 : Nat → Nat) : PlX g qs qs2 39 := rfl
set_option maxRecDepth 100000 in
theorem pl_40 (g : GC) (qs qs2 : Nat → Nat) : PlX g qs qs2 40 := rfl
set_option maxRecDepth 100000 in
theorem pl_41 (g : GC) (qs qs2 : Nat → Nat) : PlX g qs qs2 41 := rfl
set_option maxRecDepth 100000 in
theorem pl_42 (g : GC) (qs qs2 : Nat → Nat) : PlX g qs qs2 42 := rfl
set_option maxRecDepth 100000 in
theorem pl_43 (g : GC) (qs qs2 : Nat → Nat) : PlX g qs qs2 43 := rfl
set_option maxRecDepth 100000 in
theorem pl_44 (g : GC) (qs qs2 : Nat → Nat) : PlX g qs qs2 44 := rfl
set_option maxRecDepth 100000 in
theorem pl_45 (g : GC) (qs qs2 : Nat → Nat) : PlX g qs qs2 45 := rfl
set_option maxRecDepth 100000 in
theorem pl_46 (g : GC) (qs qs2 : Nat → Nat) : PlX g qs qs2 46 := rfl
set_option maxRecDepth 100000 in
theorem pl_47 (g : GC) (qs qs2 : Nat → Nat) : PlX g qs qs2 47 := rfl
set_option maxRecDepth 100000 in
theorem pl_48 (g : GC) (qs qs2 : Nat → Nat) : PlX g qs qs2 48 := rfl
set_option maxRecDepth 100000 in
theorem pl_49 (g : GC) (qs qs2 : Nat → Nat) : PlX g qs qs2 49 := rfl
set_option maxRecDepth 100000 in
theorem pl_50 (g : GC) (qs qs2 : Nat → Nat) : PlX g qs qs2 50 := rfl
set_option maxRecDepth 100000 in
theorem pl_51 (g : GC) (qs qs2 : Nat → Nat) : PlX g qs qs2 51 := rfl
set_option maxRecDepth 100000 in
theorem pl_52 (g : GC) (qs qs2 : Nat → Nat) : PlX g qs qs2 52 := rfl
set_option maxRecDepth 100000 in
theorem pl_53 (g : GC) (qs qs2 : Nat → Nat) : PlX g qs qs2 53 := rfl
set_option maxRecDepth 100000 in
theorem pl_54 (g : GC) (qs qs2 : Nat → Nat) : PlX g qs qs2 54 := rfl
set_option maxRecDepth 100000 in
theorem pl_55 (g : GC) (qs qs2 : Nat → Nat) : PlX g qs qs2 55 := rfl
set_option maxRecDepth 100000 in
theorem pl_56 (g : GC) (qs qs2 : Nat → Nat) : PlX g qs qs2 56 := rfl
set_option maxRecDepth 100000 in
theorem pl_57 (g : GC) (qs qs2 : Nat → Nat) : PlX g qs qs2 57 := rfl
set_option maxRecDepth 100000 in
theorem pl_58 (g : GC) (qs qs2 : Nat → Nat) : PlX g qs qs2 58 := rfl
set_option maxRecDepth 100000 in
theorem pl_59 (g : GC) (qs qs2 : Nat → Nat) : PlX g qs qs2 59 := rfl
set_option maxRecDepth 100000 in
theorem pl_60 (g : GC) (qs qs2 : Nat → Nat) : PlX g qs qs2 60 := rfl
set_option maxRecDepth 100000 in
theorem pl_61 (g : GC) (qs qs2 : Nat → Nat) : PlX g qs qs2 61 := rfl
set_option maxRecDepth 100000 in
theorem pl_62 (g : GC) (qs qs2 : Nat → Nat) : PlX g qs qs2 62 := rfl
set_option maxRecDepth 100000 in
theorem pl_63 (g : GC) (qs qs2 : Nat → Nat) : PlX g qs qs2 63 := rfl
set_option maxRecDepth 100000 in
theorem pl_64 (g : GC) (qs qs2 : Nat → Nat) : PlX g qs qs2 64 := rfl
set_option maxRecDepth 100000 in
theorem pl_65 (g : GC) (qs qs2 : Nat → Nat) : PlX g qs qs2 65 := rfl
set_option maxRecDepth 100000 in
theorem pl_66 (g : GC) (qs qs2 : Nat → Nat) : PlX g qs qs2 66 := rfl
set_option maxRecDepth 100000 in
theorem pl_67 (g : GC) (qs qs2 : Nat → Nat) : PlX g qs qs2 67 := rfl
set_option maxRecDepth 100000 in
theorem pl_68 (g : GC) (qs qs2 : Nat → Nat) : PlX g qs qs2 68 := rfl
set_option maxRecDepth 100000 in
theorem pl_69 (g : GC) (qs qs2 : Nat → Nat) : PlX g qs qs2 69 := rfl
set_option maxRecDepth 100000 in
theorem pl_70 (g : GC) (qs qs2 : Nat → Nat) : PlX g qs qs2 70 := rfl
set_option maxRecDepth 100000 in
theorem pl_71 (g : GC) (qs qs2 : Nat → Nat) : PlX g qs qs2 71 := rfl
set_option maxRecDepth 100000 in
theorem pl_72 (g : GC) (qs qs2 : Nat → Nat) : PlX g qs qs2 72 := rfl
set_option maxRecDepth 100000 in
theorem pl_73 (g : GC) (qs qs2 : Nat → Nat) : PlX g qs qs2 73 := rfl
set_option maxRecDepth 100000 in
theorem pl_74 (g : GC) (qs qs2 : Nat → Nat) : PlX g qs qs2 74 := rfl
set_option maxRecDepth 100000 in
theorem pl_75 (g : GC) (qs qs2 : Nat → Nat) : PlX g qs qs2 75 := rfl
set_option maxRecDepth 100000 in
theorem pl_76 (g : GC) (qs qs2 : Nat → Nat) : PlX g qs qs2 76 := rfl
set_option maxRecDepth 100000 in
theorem pl_77 (g : GC) (qs qs2 : Nat → Nat) : PlX g qs qs2 77 := rfl
set_option maxRecDepth 100000 in
theorem pl_78 (g : GC) (qs qs2 : Nat → Nat) : PlX g qs qs2 78 := rfl
set_option maxRecDepth 100000 in
theorem pl_79 (g : GC) (qs qs2 : Nat → Nat) : PlX g qs qs2 79 := rfl
set_option maxRecDepth 100000 in
theorem pl_80 (g : GC) (qs qs2 : Nat → Nat) : PlX g qs qs2 80 := rfl
set_option maxRecDepth 100000 in
theorem pl_81 (g : GC) (qs qs2 : Nat → Nat) : PlX g qs qs2 81 := rfl
set_option maxRecDepth 100000 in
theorem pl_82 (g : GC) (qs qs2 : Nat → Nat) : PlX g qs qs2 82 := rfl
set_option maxRecDepth 100000 in
theorem pl_83 (g : GC) (qs qs2 : Nat → Nat) : PlX g qs qs2 83 := by
  unfold PlX entX
  rw [if_neg (by decide), if_neg (by decide), en_83]
  rfl
set_option maxRecDepth 100000 in
theorem pl_84 (g : GC) (qs qs2 : Nat → Nat) : PlX g qs qs2 84 := rfl
set_option maxRecDepth 100000 in
theorem pl_85 (g : GC) (qs qs2 : Nat → Nat) : PlX g qs qs2 85 := rfl
set_option maxRecDepth 100000 in
theorem pl_86 (g : GC) (qs qs2 : Nat → Nat) : PlX g qs qs2 86 := rfl
set_option maxRecDepth 100000 in
theorem pl_87 (g : GC) (qs qs2 : Nat → Nat) : PlX g qs qs2 87 := rfl
set_option maxRecDepth 100000 in
theorem pl_88 (g : GC) (qs qs2 : Nat → Nat) : PlX g qs qs2 88 := rfl
set_option maxRecDepth 100000 in
theorem pl_89 (g : GC) (qs qs2 : Nat → Nat) : PlX g qs qs2 89 := rfl
set_option maxRecDepth 100000 in
theorem pl_90 (g : GC) (qs qs2 : Nat → Nat) : PlX g qs qs2 90 := rfl
set_option maxRecDepth 100000 in
theorem pl_91 (g : GC) (qs qs2 : Nat → Nat) : PlX g qs qs2 91 := rfl
set_option maxRecDepth 100000 in
theorem pl_92 (g : GC) (qs qs2 : Nat → Nat) : PlX g qs qs2 92 := rfl
set_option maxRecDepth 100000 in
theorem pl_93 (g : GC) (qs qs2 : Nat → Nat) : PlX g qs qs2 93 := rfl
set_option maxRecDepth 100000 in
theorem pl_94 (g : GC) (qs qs2 : Nat → Nat) : PlX g qs qs2 94 := rfl
set_option maxRecDepth 100000 in
theorem pl_95 (g : GC) (qs qs2 : Nat → Nat) : PlX g qs qs2 95 := rfl
set_option maxRecDepth 100000 in
theorem pl_96 (g : GC) (qs qs2 : Nat → Nat) : PlX g qs qs2 96 := rfl
set_option maxRecDepth 100000 in
theorem pl_97 (g : GC) (qs qs2 : Nat → Nat) : PlX g qs qs2 97 := rfl
set_option maxRecDepth 100000 in
theorem pl_98 (g : GC) (qs qs2 : Nat → Nat) : PlX g qs qs2 98 := rfl
set_option maxRecDepth 100000 in
theorem pl_99 (g : GC) (qs qs2 : Nat → Nat) : PlX g qs qs2 99 := rfl
set_option maxRecDepth 100000 in
theorem pl_100 (g : GC) (qs qs2 : Nat → Nat) : PlX g qs qs2 100 := rfl
set_option maxRecDepth 100000 in
theorem pl_101 (g : GC) (qs qs2 : Nat → Nat) : PlX g qs qs2 101 := rfl
set_option maxRecDepth 100000 in
theorem pl_102 (g : GC) (qs qs2 : Nat → Nat) : PlX g qs qs2 102 := rfl
set_option maxRecDepth 100000 in
theorem pl_103 (g : GC) (qs qs2 : Nat → Nat) : PlX g qs qs2 103 := rfl
set_option maxRecDepth 100000 in
theorem pl_104 (g : GC) (qs qs2 : Nat → Nat) : PlX g qs qs2 104 := rfl
set_option maxRecDepth 100000 in
theorem pl_105 (g : GC) (qs qs2 : Nat → Nat) : PlX g qs qs2 105 := rfl
set_option maxRecDepth 100000 in
theorem pl_106 (g : GC) (qs qs2 : Nat → Nat) : PlX g qs qs2 106 := rfl
set_option maxRecDepth 100000 in
theorem pl_107 (g : GC) (qs qs2 : Nat → Nat) : PlX g qs qs2 107 := rfl
set_option maxRecDepth 100000 in
theorem pl_108 (g : GC) (qs qs2 : Nat → Nat) : PlX g qs qs2 108 := rfl
set_option maxRecDepth 100000 in
theorem pl_109 (g : GC) (qs qs2 : Nat → Nat) : PlX g qs qs2 109 := rfl
set_option maxRecDepth 100000 in
theorem pl_110 (g : GC) (qs qs2 : Nat → Nat) : PlX g qs qs2 110 := rfl
set_option maxRecDepth 100000 in
theorem pl_111 (g : GC) (qs qs2 : Nat → Nat) : PlX g qs qs2 111 := rfl
set_option maxRecDepth 100000 in
theorem pl_112 (g : GC) (qs qs2 : Nat → Nat) : PlX g qs qs2 112 := rfl
set_option maxRecDepth 100000 in
theorem pl_113 (g : GC) (qs qs2 : Nat → Nat) : PlX g qs qs2 113 := rfl
set_option maxRecDepth 100000 in
theorem pl_114 (g : GC) (qs qs2 : Nat → Nat) : PlX g qs qs2 114 := rfl
set_option maxRecDepth 100000 in
theorem pl_115 (g : GC) (qs qs2 : Nat → Nat) : PlX g qs qs2 115 := rfl
set_option maxRecDepth 100000 in
theorem pl_116 (g : GC) (qs qs2 : Nat → Nat) : PlX g qs qs2 116 := rfl
set_option maxRecDepth 100000 in
theorem pl_117 (g : GC) (qs qs2 : Nat → Nat) : PlX g qs qs2 117 := rfl
set_option maxRecDepth 100000 in
theorem pl_118 (g : GC) (qs qs2 : Nat → Nat) : PlX g qs qs2 118 := rfl
set_option maxRecDepth 100000 in
theorem pl_119 (g : GC) (qs qs2 : Nat → Nat) : PlX g qs qs2 119 := rfl
set_option maxRecDepth 100000 in
theorem pl_120 (g : GC) (qs qs2 : Nat → Nat) : PlX g qs qs2 120 := rfl
set_option maxRecDepth 100000 in
theorem pl_121 (g : GC) (qs qs2 : Nat → Nat) : PlX g qs qs2 121 := rfl
set_option maxRecDepth 100000 in
theorem pl_122 (g : GC) (qs qs2 : Nat → Nat) : PlX g qs qs2 122 := rfl
set_option maxRecDepth 100000 in
theorem pl_123 (g : GC) (qs qs2 : Nat → Nat) : PlX g qs qs2 123 := rfl
set_option maxRecDepth 100000 in
theorem pl_124 (g : GC) (qs qs2 : Nat → Nat) : PlX g qs qs2 124 := rfl
set_option maxRecDepth 100000 in
theorem pl_125 (g : GC) (qs qs2 : Nat → Nat) : PlX g qs qs2 125 := rfl
set_option maxRecDepth 100000 in
theorem pl_all (g : GC) (qs qs2 : Nat → Nat) : ∀ k, k < 126 → PlX g qs qs2 k := by
  have h0 : ∀ k, k < 0 → PlX g qs qs2 k := bnil
  have h1 : ∀ k, k < 1 → PlX g qs qs2 k := bstep h0 (pl_0 g qs qs2)
  have h2 : ∀ k, k < 2 → PlX g qs qs2 k := bstep h1 (pl_1 g qs qs2)
  have h3 : ∀ k, k < 3 → PlX g qs qs2 k := bstep h2 (pl_2 g qs qs2)
  have h4 : ∀ k, k < 4 → PlX g qs qs2 k := bstep h3 (pl_3 g qs qs2)
  have h5 : ∀ k, k < 5 → PlX g qs qs2 k := bstep h4 (pl_4 g qs qs2)
  have h6 : ∀ k, k < 6 → PlX g qs qs2 k := bstep h5 (pl_5 g qs qs2)
  have h7 : ∀ k, k < 7 → PlX g qs qs2 k := bstep h6 (pl_6 g qs qs2)
  have h8 : ∀ k, k < 8 → PlX g qs qs2 k := bstep h7 (pl_7 g qs qs2)
  have h9 : ∀ k, k < 9 → PlX g qs qs2 k := bstep h8 (pl_8 g qs qs2)
  have h10 : ∀ k, k < 10 → PlX g qs qs2 k := bstep h9 (pl_9 g qs qs2)
  have h11 : ∀ k, k < 11 → PlX g qs qs2 k := bstep h10 (pl_10 g qs qs2)
  have h12 : ∀ k, k < 12 → PlX g qs qs2 k := bstep h11 (pl_11 g qs qs2)
  have h13 : ∀ k, k < 13 → PlX g qs qs2 k := bstep h12 (pl_12 g qs qs2)
  have h14 : ∀ k, k < 14 → PlX g qs qs2 k := bstep h13 (pl_13 g qs qs2)
  have h15 : ∀ k, k < 15 → PlX g qs qs2 k := bstep h14 (pl_14 g qs qs2)
  have h16 : ∀ k, k < 16 → PlX g qs qs2 k := bstep h15 (pl_15 g qs qs2)
  have h17 : ∀ k, k < 17 → PlX g qs qs2 k := bstep h16 (pl_16 g qs qs2)
  have h18 : ∀ k, k < 18 → PlX g qs qs2 k := bstep h17 (pl_17 g qs qs2)
  have h19 : ∀ k, k < 19 → PlX g qs qs2 k := bstep h18 (pl_18 g qs qs2)
  have h20 : ∀ k, k < 20 → PlX g qs qs2 k := bstep h19 (pl_19 g qs qs2)
  have h21 : ∀ k, k < 21 → PlX g qs qs2 k := bstep h20 (pl_20 g qs qs2)
  have h22 : ∀ k, k < 22 → PlX g qs qs2 k := bstep h21 (pl_21 g qs qs2)
  have h23 : ∀ k, k < 23 → PlX g qs qs2 k := bstep h22 (pl_22 g qs qs2)
  have h24 : ∀ k, k < 24 → PlX g qs qs2 k := bstep h23 (pl_23 g qs qs2)
  have h25 : ∀ k, k < 25 → PlX g qs qs2 k := bstep h24 (pl_24 g qs qs2)
  have h26 : ∀ k, k < 26 → PlX g qs qs2 k := bstep h25 (pl_25 g qs qs2)
  have h27 : ∀ k, k < 27 → PlX g qs qs2 k := bstep h26 (pl_26 g qs qs2)
  have h28 : ∀ k, k < 28 → PlX g qs qs2 k := bstep h27 (pl_27 g qs qs2)
  have h29 : ∀ k, k < 29 → PlX g qs qs2 k := bstep h28 (pl_28 g qs qs2)
  have h30 : ∀ k, k < 30 → PlX g qs qs2 k := bstep h29 (pl_29 g qs qs2)
  have h31 : ∀ k, k < 31 → PlX g qs qs2 k := bstep h30 (pl_30 g qs qs2)
  have h32 : ∀ k, k < 32 → PlX g qs qs2 k := bstep h31 (pl_31 g qs qs2)
  have h33 : ∀ k, k < 33 → PlX g qs qs2 k := bstep h32 (pl_32 g qs qs2)
  have h34 : ∀ k, k < 34 → PlX g qs qs2 k := bstep h33 (pl_33 g qs qs2)
  have h35 : ∀ k, k < 35 → PlX g qs qs2 k := bstep h34 (pl_34 g qs qs2)
  have h36 : ∀ k, k < 36 → PlX g qs qs2 k := bstep h35 (pl_35 g qs qs2)
  have h37 : ∀ k, k < 37 → PlX g qs qs2 k := bstep h36 (pl_36 g qs qs2)
  have h38 : ∀ k, k < 38 → PlX g qs qs2 k := bstep h37 (pl_37 g qs qs2)
  have h39 : ∀ k, k < 39 → PlX g qs qs2 k := bstep h38 (pl_38 g qs qs2)
  have h40 : ∀ k, k < 40 → PlX g qs qs2 k := bstep h39 (pl_39 g qs qs2)
  have h41 : ∀ k, k < 41 → PlX g qs qs2 k := bstep h40 (pl_40 g qs qs2)
  have h42 : ∀ k, k < 42 → PlX g qs qs2 k := bstep h41 (pl_41 g qs qs2)
  have h43 : ∀ k, k < 43 → PlX g qs qs2 k := bstep h42 (pl_42 g qs qs2)
  have h44 : ∀ k, k < 44 → PlX g qs qs2 k := bstep h43 (pl_43 g qs qs2)
  have h45 : ∀ k, k < 45 → PlX g qs qs2 k := bstep h44 (pl_44 g qs qs2)
  have h46 : ∀ k, k < 46 → PlX g qs qs2 k := bstep h45 (pl_45 g qs qs2)
  have h47 : ∀ k, k < 47 → PlX g qs qs2 k := bstep h46 (pl_46 g qs qs2)
  have h48 : ∀ k, k < 48 → PlX g qs qs2 k := bstep h47 (pl_47 g qs qs2)
  have h49 : ∀ k, k < 49 → PlX g qs qs2 k := bstep h48 (pl_48 g qs qs2)
  have h50 : ∀ k, k < 50 → PlX g qs qs2 k := bstep h49 (pl_49 g qs qs2)
  have h51 : ∀ k, k < 51 → PlX g qs qs2 k := bstep h50 (pl_50 g qs qs2)
  have h52 : ∀ k, k < 52 → PlX g qs qs2 k := bstep h51 (pl_51 g qs qs2)
  have h53 : ∀ k, k < 53 → PlX g qs qs2 k := bstep h52 (pl_52 g qs qs2)
  have h54 : ∀ k, k < 54 → PlX g qs qs2 k := bstep h53 (pl_53 g qs qs2)
  have h55 : ∀ k, k < 55 → PlX g qs qs2 k := bstep h54 (pl_54 g qs qs2)
  have h56 : ∀ k, k < 56 → PlX g qs qs2 k := bstep h55 (pl_55 g qs qs2)
  have h57 : ∀ k, k < 57 → PlX g qs qs2 k := bstep h56 (pl_56 g qs qs2)
  have h58 : ∀ k, k < 58 → PlX g qs qs2 k := bstep h57 (pl_57 g qs qs2)
  have h59 : ∀ k, k < 59 → PlX g qs qs2 k := bstep h58 (pl_58 g qs qs2)
  have h60 : ∀ k, k < 60 → PlX g qs qs2 k := bstep h59 (pl_59 g qs qs2)
  have h61 : ∀ k, k < 61 → PlX g qs qs2 k := bstep h60 (pl_60 g qs qs2)
  have h62 : ∀ k, k < 62 → PlX g qs qs2 k := bstep h61 (pl_61 g qs qs2)
  have h63 : ∀ k, k < 63 → PlX g qs qs2 k := bstep h62 (pl_62 g qs qs2)
  have h64 : ∀ k, k < 64 → PlX g qs qs2 k := bstep h63 (pl_63 g qs qs2)
  have h65 : ∀ k, k < 65 → PlX g qs qs2 k := bstep h64 (pl_64 g qs qs2)
  have h66 : ∀ k, k < 66 → PlX g qs qs2 k := bstep h65 (pl_65 g qs qs2)
  have h67 : ∀ k, k < 67 → PlX g qs qs2 k := bstep h66 (pl_66 g qs qs2)
  have h68 : ∀ k, k < 68 → PlX g qs qs2 k := bstep h67 (pl_67 g qs qs2)
  have h69 : ∀ k, k < 69 → PlX g qs qs2 k := bstep h68 (pl_68 g qs qs2)
  have h70 : ∀ k, k < 70 → PlX g qs qs2 k := bstep h69 (pl_69 g qs qs2)
  have h71 : ∀ k, k < 71 → PlX g qs qs2 k := bstep h70 (pl_70 g qs qs2)
  have h72 : ∀ k, k < 72 → PlX g qs qs2 k := bstep h71 (pl_71 g qs qs2)
  have h73 : ∀ k, k < 73 → PlX g qs qs2 k := bstep h72 (pl_72 g qs qs2)
  have h74 : ∀ k, k < 74 → PlX g qs qs2 k := bstep h73 (pl_73 g qs qs2)
  have h75 : ∀ k, k < 75 → PlX g qs qs2 k := bstep h74 (pl_74 g qs qs2)
  have h76 : ∀ k, k < 76 → PlX g qs qs2 k := bstep h75 (pl_75 g qs qs2)
  have h77 : ∀ k, k < 77 → PlX g qs qs2 k := bstep h76 (pl_76 g qs qs2)
  have h78 : ∀ k, k < 78 → PlX g qs qs2 k := bstep h77 (pl_77 g qs qs2)
  have h79 : ∀ k, k < 79 → PlX g qs qs2 k := bstep h78 (pl_78 g qs qs2)
  have h80 : ∀ k, k < 80 → PlX g qs qs2 k := bstep h79 (pl_79 g qs qs2)
  have h81 : ∀ k, k < 81 → PlX g qs qs2 k := bstep h80 (pl_80 g qs qs2)
  have h82 : ∀ k, k < 82 → PlX g qs qs2 k := bstep h81 (pl_81 g qs qs2)
  have h83 : ∀ k, k < 83 → PlX g qs qs2 k := bstep h82 (pl_82 g qs qs2)
  have h84 : ∀ k, k < 84 → PlX g qs qs2 k := bstep h83 (pl_83 g qs qs2)
  have h85 : ∀ k, k < 85 → PlX g qs qs2 k := bstep h84 (pl_84 g qs qs2)
  have h86 : ∀ k, k < 86 → PlX g qs qs2 k := bstep h85 (pl_85 g qs qs2)
  have h87 : ∀ k, k < 87 → PlX g qs qs2 k := bstep h86 (pl_86 g qs qs2)
  have h88 : ∀ k, k < 88 → PlX g qs qs2 k := bstep h87 (pl_87 g qs qs2)
  have h89 : ∀ k, k < 89 → PlX g qs qs2 k := bstep h88 (pl_88 g qs qs2)
  have h90 : ∀ k, k < 90 → PlX g qs qs2 k := bstep h89 (pl_89 g qs qs2)
  have h91 : ∀ k, k < 91 → PlX g qs qs2 k := bstep h90 (pl_90 g qs qs2)
  have h92 : ∀ k, k < 92 → PlX g qs qs2 k := bstep h91 (pl_91 g qs qs2)
  have h93 : ∀ k, k < 93 → PlX g qs qs2 k := bstep h92 (pl_92 g qs qs2)
  have h94 : ∀ k, k < 94 → PlX g qs qs2 k := bstep h93 (pl_93 g qs qs2)
  have h95 : ∀ k, k < 95 → PlX g qs qs2 k := bstep h94 (pl_94 g qs qs2)
  have h96 : ∀ k, k < 96 → PlX g qs qs2 k := bstep h95 (pl_95 g qs qs2)
  have h97 : ∀ k, k < 97 → PlX g qs qs2 k := bstep h96 (pl_96 g qs qs2)
  have h98 : ∀ k, k < 98 → PlX g qs qs2 k := bstep h97 (pl_97 g qs qs2)
  have h99 : ∀ k, k < 99 → PlX g qs qs2 k := bstep h98 (pl_98 g qs qs2)
  have h100 : ∀ k, k < 100 → PlX g qs qs2 k := bstep h99 (pl_99 g qs qs2)
  have h101 : ∀ k, k < 101 → PlX g qs qs2 k := bstep h100 (pl_100 g qs qs2)
  have h102 : ∀ k, k < 102 → PlX g qs qs2 k := bstep h101 (pl_101 g qs qs2)
  have h103 : ∀ k, k < 103 → PlX g qs qs2 k := bstep h102 (pl_102 g qs qs2)
  have h104 : ∀ k, k < 104 → PlX g qs qs2 k := bstep h103 (pl_103 g qs qs2)
  have h105 : ∀ k, k < 105 → PlX g qs qs2 k := bstep h104 (pl_104 g qs qs2)
  have h106 : ∀ k, k < 106 → PlX g qs qs2 k := bstep h105 (pl_105 g qs qs2)
  have h107 : ∀ k, k < 107 → PlX g qs qs2 k := bstep h106 (pl_106 g qs qs2)
  have h108 : ∀ k, k < 108 → PlX g qs qs2 k := bstep h107 (pl_107 g qs qs2)
  have h109 : ∀ k, k < 109 → PlX g qs qs2 k := bstep h108 (pl_108 g qs qs2)
  have h110 : ∀ k, k < 110 → PlX g qs qs2 k := bstep h109 (pl_109 g qs qs2)
  have h111 : ∀ k, k < 111 → PlX g qs qs2 k := bstep h110 (pl_110 g qs qs2)
  have h112 : ∀ k, k < 112 → PlX g qs qs2 k := bstep h111 (pl_111 g qs qs2)
  have h113 : ∀ k, k < 113 → PlX g qs qs2 k := bstep h112 (pl_112 g qs qs2)
  have h114 : ∀ k, k < 114 → PlX g qs qs2 k := bstep h113 (pl_113 g qs qs2)
  have h115 : ∀ k, k < 115 → PlX g qs qs2 k := bstep h114 (pl_114 g qs qs2)
  have h116 : ∀ k, k < 116 → PlX g qs qs2 k := bstep h115 (pl_115 g qs qs2)
  have h117 : ∀ k, k < 117 → PlX g qs qs2 k := bstep h116 (pl_116 g qs qs2)
  have h118 : ∀ k, k < 118 → PlX g qs qs2 k := bstep h117 (pl_117 g qs qs2)
  have h119 : ∀ k, k < 119 → PlX g qs qs2 k := bstep h118 (pl_118 g qs qs2)
  have h120 : ∀ k, k < 120 → PlX g qs qs2 k := bstep h119 (pl_119 g qs qs2)
  have h121 : ∀ k, k < 121 → PlX g qs qs2 k := bstep h120 (pl_120 g qs qs2)
  have h122 : ∀ k, k < 122 → PlX g qs qs2 k := bstep h121 (pl_121 g qs qs2)
  have h123 : ∀ k, k < 123 → PlX g qs qs2 k := bstep h122 (pl_122 g qs qs2)
  have h124 : ∀ k, k < 124 → PlX g qs qs2 k := bstep h123 (pl_123 g qs qs2)
  have h125 : ∀ k, k < 125 → PlX g qs qs2 k := bstep h124 (pl_124 g qs qs2)
  have h126 : ∀ k, k < 126 → PlX g qs qs2 k := bstep h125 (pl_125 g qs qs2)
  exact h126
theorem qv6_eq (qs : Nat → Nat) (b s : Nat) (j : Nat) (h : j < 6) : qv6 qs b s j = some (qs (b + s * j)) := by
  have e : j = 0 ∨ j = 1 ∨ j = 2 ∨ j = 3 ∨ j = 4 ∨ j = 5 := by omega
  rcases e with rfl | rfl | rfl | rfl | rfl | rfl
  · rfl
  · exact congrArg (fun x => some (qs x)) (show b + s = b + s * 1 by omega)
  · exact congrArg (fun x => some (qs x)) (show b + s + s = b + s * 2 by omega)
  · exact congrArg (fun x => some (qs x)) (show b + s + s + s = b + s * 3 by omega)
  · exact congrArg (fun x => some (qs x)) (show b + s + s + s + s = b + s * 4 by omega)
  · exact congrArg (fun x => some (qs x)) (show b + s + s + s + s + s = b + s * 5 by omega)
theorem at_X {g : GC} {qs qs2 : Nat → Nat} {H : Heap} {k : Nat} {a : Nat} (h : va_at g.2.1 qcl (a, entX g qs qs2 k) H) : va_at g.2.1 qcl (a, ent (gA g qs qs2) V00 k) H := by
  by_cases h1 : k = 1
  · subst h1
    have h2 : H[a]? = some (arrV (g.2.2.2.2 4) 6 (fun j => va_rf (qv6 qs 47 4 j))) := h
    rw [arrV_eq (f' := fun j => va_rf (some (adA g.2.2.1 qs qs2 (47 + 4 * j)))) (fun j hj => by
      show va_rf (qv6 qs 47 4 j) = _
      rw [qv6_eq qs 47 4 j hj]
      unfold adA
      rw [if_pos (by omega)])] at h2
    exact h2
  by_cases h1 : k = 2
  · subst h1
    have h2 : H[a]? = some (arrV (g.2.2.2.2 5) 6 (fun j => va_rf (qv6 qs 71 2 j))) := h
    rw [arrV_eq (f' := fun j => va_rf (some (adA g.2.2.1 qs qs2 (71 + 2 * j)))) (fun j hj => by
      show va_rf (qv6 qs 71 2 j) = _
      rw [qv6_eq qs 71 2 j hj]
      unfold adA
      rw [if_pos (by omega)])] at h2
    exact h2
  unfold entX at h
  rw [if_neg (by assumption), if_neg (by assumption)] at h
  exact h
theorem wl_00 {g : GC} {qs qs2 : Nat → Nat} {H : Heap} (h : va_P g.2.1 qcl (mkX6 g qs ++ mkX7 g qs2) H) : va_P (gA g qs qs2).2.1 qcl (wl (gA g qs qs2) V00) H := by
  intro k q hk
  obtain ⟨hq, rfl⟩ := wl_in hk
  exact at_X (h _ _ (pl_all g qs qs2 k hq))
set_option maxRecDepth 100000 in
theorem pos86_i : ∀ i, i < 126 → ∀ j, j < 126 → pos86.getD i 0 = pos86.getD j 0 → i = j := by decide +kernel
theorem gA_ok {g : GC} {qs qs2 : Nat → Nat} (h : va_D g.2.2.2.1 (mkX6 g qs ++ mkX7 g qs2)) : GOK (gA g qs qs2) := by
  refine ⟨fun i j hi hj e => ?_, fun i hi => ?_⟩
  · exact pos86_i i hi j hj (h.1 _ _ _ _ (pl_all g qs qs2 i hi) (pl_all g qs qs2 j hj) e)
  · exact h.2 _ _ (pl_all g qs qs2 i hi)
theorem adA_hi (adR qs qs2 : Nat → Nat) {k : Nat} (h : 126 ≤ k) : adA adR qs qs2 k = adR k := by
  unfold adA
  rw [if_neg (by omega), if_neg (by omega)]
theorem gA_Ro {g : GC} {qs qs2 : Nat → Nat} {U : State} {H : Heap} (h : Ro g U H) : Ro (gA g qs qs2) U H := by
  have e1 : (fun i => adA g.2.2.1 qs qs2 (200 + i)) = fun i => g.2.2.1 (200 + i) := funext fun i => adA_hi _ _ _ (by omega)
  have e2 : (fun i => adA g.2.2.1 qs qs2 (210 + i)) = fun i => g.2.2.1 (210 + i) := funext fun i => adA_hi _ _ _ (by omega)
  obtain ⟨⟨a1, a2, a3⟩, ⟨b1, b2⟩, ⟨c1, c2⟩⟩ := h
  refine ⟨⟨?_, a2, a3⟩, ⟨?_, ?_⟩, ⟨?_, ?_⟩⟩
  · show vk_S 6 roLen roByt (fun i => adA g.2.2.1 qs qs2 (200 + i)) (fun i => adA g.2.2.1 qs qs2 (210 + i)) g.2.2.2.1 U H
    rw [e1, e2]
    exact a1
  · show va_Z "TwoBeatsAgo" "KIND_ABOVE" "[I" (.ref (adA g.2.2.1 qs qs2 220)) g.2.2.2.1 U H
    rw [adA_hi _ _ _ (by omega)]
    exact b1
  · show va_T .int (adA g.2.2.1 qs qs2 220) 7 (fun j => .int (roAbove.getD j 0)) g.2.2.2.1 U H
    rw [adA_hi _ _ _ (by omega)]
    exact b2
  · show va_Z "TwoBeatsAgo$Acts" "BODIES" "[I" (.ref (adA g.2.2.1 qs qs2 221)) g.2.2.2.1 U H
    rw [adA_hi _ _ _ (by omega)]
    exact c1
  · show va_T .int (adA g.2.2.1 qs qs2 221) 21 (fun j => .int (roBodies.getD j 0)) g.2.2.2.1 U H
    rw [adA_hi _ _ _ (by omega)]
    exact c2
theorem gA_Str {g : GC} {qs qs2 : Nat → Nat} {U : State} (h : roStr g U) : roStr (gA g qs qs2) U := by
  obtain ⟨h0, h1, h2, h3, h4, h5⟩ := h
  have e : ∀ k, 126 ≤ k → (gA g qs qs2).2.2.1 k = g.2.2.1 k := fun k hk => adA_hi _ _ _ hk
  unfold roStr
  rw [e 200 (by omega), e 201 (by omega), e 202 (by omega), e 203 (by omega), e 204 (by omega), e 205 (by omega)]
  exact ⟨h0, h1, h2, h3, h4, h5⟩
theorem gA_Wd {g : GC} {qs qs2 : Nat → Nat} {U : State} (hD : va_D g.2.2.2.1 (mkX6 g qs ++ mkX7 g qs2)) (hW : WdI g U) (hR : Ro g U U.heap) (hS : roStr g U) : Wd (gA g qs qs2) U U.heap := ⟨gA_ok hD, hW.1, gA_Ro hR, gA_Str hS, hW.2.1⟩
