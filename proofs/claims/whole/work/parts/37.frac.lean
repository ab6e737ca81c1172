def frL (a b part : Int) : Nat → Int → Int
  | 0, _ => -9223372036854775808
  | n + 1, d => if a % d = 0 ∧ b % d = 0 then (if part = 0 then a else b) / d else frL a b part n (d - 1)
def frS (a b part : Int) : Int := if part < 0 ∨ 1 < part then -9223372036854775808 else frL a b part b.toNat b
theorem dv_rg {a d : Int} (ha : 0 ≤ a ∧ a ≤ 1000000) (hd : 0 < d) : 0 ≤ a / d ∧ a / d ≤ 1000000 := by
  have h1 := Int.ediv_nonneg (a := a) (b := d) (by omega) (by omega)
  have h2 := Int.ediv_le_self (a := a) d (by omega)
  omega

theorem fr_loop {g : GC} {X : CX} {Q : Option AV → MM → Prop} {V : MM} {a b part : Int} (ha : 0 ≤ a ∧ a ≤ 1000000) (hb : 0 ≤ b ∧ b ≤ 1000000) (hp : 0 ≤ part ∧ part ≤ 1) (hz : Fi g X (some .long) Q) : ∀ (n : Nat) (d : Int), d = n → d ≤ 1000000 → Q (some (vl (frL a b part n d))) V → SW g X RX6 cX6_partOfFraction 15 [some (vi a), some (vi b), some (vi part), some (vi d)] [] V := by
  intro n
  induction n with
  | zero =>
    intro d h0 h1 hQ
    refine S_il3 qX6_partOfFraction_15 ?_
    refine S_iconst qX6_partOfFraction_16 ?_
    refine S_icmp_lt (d := qX6_partOfFraction_17) (kt := fun c17 => ?_) (kf := fun c17 => ?_)
    rotate_left
    · omega
    refine S_ldc2 qX6_partOfFraction_51 kX6_210 ?_
    refine S_lret hz qX6_partOfFraction_54 ?_
    exact hQ
  | succ n ih =>
    intro d h0 h1 hQ
    unfold frL at hQ
    have d1 := dv_rg (a := a) (d := d) ha (by omega)
    have d2 := dv_rg (a := b) (d := d) hb (by omega)
    have d3 := Int.emod_nonneg a (show d ≠ 0 by omega)
    have d4 := Int.emod_lt_of_pos a (show 0 < d by omega)
    have d5 := Int.emod_nonneg b (show d ≠ 0 by omega)
    have d6 := Int.emod_lt_of_pos b (show 0 < d by omega)
    refine S_il3 qX6_partOfFraction_15 ?_
    refine S_iconst qX6_partOfFraction_16 ?_
    refine S_icmp_lt (d := qX6_partOfFraction_17) (kt := fun c17 => ?_) (kf := fun c17 => ?_)
    · omega
    refine S_il0 qX6_partOfFraction_20 ?_
    refine S_il3 qX6_partOfFraction_21 ?_
    refine S_irem (d := qX6_partOfFraction_22) (k := ?_)
    refine S_if_ne (d := qX6_partOfFraction_23) (kt := fun c23 => ?_) (kf := fun c23 => ?_)
    · refine S_inc3 qX6_partOfFraction_45 (K := ?_)
      refine S_goto qX6_partOfFraction_48 ?_
      rw [if_neg (by omega)] at hQ
      exact ih (d + -1) (by omega) (by omega) hQ
    · refine S_il1 qX6_partOfFraction_26 ?_
      refine S_il3 qX6_partOfFraction_27 ?_
      refine S_irem (d := qX6_partOfFraction_28) (k := ?_)
      refine S_if_ne (d := qX6_partOfFraction_29) (kt := fun c29 => ?_) (kf := fun c29 => ?_)
      · refine S_inc3 qX6_partOfFraction_45 (K := ?_)
        refine S_goto qX6_partOfFraction_48 ?_
        rw [if_neg (by omega)] at hQ
        exact ih (d + -1) (by omega) (by omega) hQ
      · refine S_il2 qX6_partOfFraction_32 ?_
        refine S_if_ne (d := qX6_partOfFraction_33) (kt := fun c33 => ?_) (kf := fun c33 => ?_)
        · refine S_il1 qX6_partOfFraction_40 ?_
          refine S_il3 qX6_partOfFraction_41 ?_
          refine S_idiv (d := qX6_partOfFraction_42) (k := ?_)
          refine S_i2l (d := qX6_partOfFraction_43) (k := ?_)
          refine S_lret hz qX6_partOfFraction_44 ?_
          rw [if_pos ⟨by omega, by omega⟩] at hQ
          first
            | (rw [if_pos (by omega)] at hQ; exact hQ)
            | (rw [if_neg (by omega)] at hQ; exact hQ)
        · refine S_il0 qX6_partOfFraction_36 ?_
          refine S_goto qX6_partOfFraction_37 ?_
          refine S_il3 qX6_partOfFraction_41 ?_
          refine S_idiv (d := qX6_partOfFraction_42) (k := ?_)
          refine S_i2l (d := qX6_partOfFraction_43) (k := ?_)
          refine S_lret hz qX6_partOfFraction_44 ?_
          rw [if_pos ⟨by omega, by omega⟩] at hQ
          first
            | (rw [if_pos (by omega)] at hQ; exact hQ)
            | (rw [if_neg (by omega)] at hQ; exact hQ)
theorem c_fraction {g : GC} {V : MM} {a b part : Int} (ha : 0 ≤ a ∧ a ≤ 1000000) (hb : 0 ≤ b ∧ b ≤ 1000000) (rpart : -2147483648 ≤ part ∧ part ≤ 2147483647) : Ct g mX6_partOfFraction 1 [vi a, vi b, vi part] V (REL V (frS a b part)) := by
  refine Ct.of (ls := [some (vi a), some (vi b), some (vi part), none]) (plainFor_of_name (by decide +kernel)) rfl (by exact Nat.le_of_ble_eq_true rfl) (fun X hz hD => ?_)
  refine S_il2 qX6_partOfFraction_0 ?_
  refine S_if_lt (d := qX6_partOfFraction_1) (kt := fun c1 => ?_) (kf := fun c1 => ?_)
  · refine S_ldc2 qX6_partOfFraction_9 kX6_210 ?_
    refine S_lret hz qX6_partOfFraction_12 ?_
    refine REL.mk ?_
    unfold frS
    rw [if_pos (by omega)]
  · refine S_il2 qX6_partOfFraction_4 ?_
    refine S_iconst qX6_partOfFraction_5 ?_
    refine S_icmp_le (d := qX6_partOfFraction_6) (kt := fun c6 => ?_) (kf := fun c6 => ?_)
    · refine S_il1 qX6_partOfFraction_13 ?_
      refine S_is3 qX6_partOfFraction_14 (K := ?_)
      refine fr_loop ha hb (by omega) hz b.toNat b (by omega) (by omega) ?_
      refine REL.mk ?_
      unfold frS
      rw [if_neg (by omega)]
    · refine S_ldc2 qX6_partOfFraction_9 kX6_210 ?_
      refine S_lret hz qX6_partOfFraction_12 ?_
      refine REL.mk ?_
      unfold frS
      rw [if_pos (by omega)]
