/-- which word a clause that begins so is -/
def woN (c : Int) : Nat := if c = 108 then 0 else if c = 114 then 1 else if c = 119 then 2 else 3
theorem wo_lt (c : Int) : woN c < 6 := by
  unfold woN
  repeat' split
  all_goals omega
/-- n signs of the literal i from j on, taken -/
def taL (T : Int → Int) (L : Int) (i : Nat) : Nat → Int → ST → Bool × ST
  | 0, _, s => (true, s)
  | n + 1, j, s => if ahS T L s.1 = byS i j then taL T L i n (j + 1) (s.1 + 1, s.2) else (false, s)
theorem ta_inv {T : Int → Int} {L : Int} {i : Nat} (hi : i < 6) : ∀ (n : Nat) (j : Int) (s : ST), 0 ≤ j → j + n ≤ lnS i → RInv s → RInv (taL T L i n j s).2 := by
  intro n
  induction n with
  | zero => intro j s h0 h1 hs; exact hs
  | succ n ih =>
    intro j s h0 h1 hs
    unfold taL
    have hb := by_rg (i := i) (j := j) hi (by omega)
    by_cases c1 : ahS T L s.1 = byS i j
    · rw [if_pos c1]
      exact ih _ _ (by omega) (by omega) (hs.nx c1 (by omega))
    · rw [if_neg c1]
      exact hs

theorem c_wordOf {g : GC} {V : MM} {c : Int} (hc : 0 ≤ c ∧ c ≤ 255) : Ct g mX4_wordOf 1 [vi c] V (RER V (200 + woN c)) := by
  refine Ct.of (ls := [some (vi c)]) (plainFor_of_name (by decide +kernel)) rfl (by exact Nat.le_of_ble_eq_true rfl) (fun X hz hD => ?_)
  refine S_il0 qX4_wordOf_0 ?_
  by_cases s1_108 : c = 108
  · refine S_lookup (tgt := 36) (off := 35) qX4_wordOf_1 (by decide +kernel) (by omega) (by rw [s1_108]; decide +kernel) (by decide) ?_
    refine S_ldcS (k := 200 + 0) qX4_wordOf_36 (fun g2 U h => h.1.1) ?_
    refine S_aret hz qX4_wordOf_38 ?_
    exact RER.mk (by unfold woN; rw [if_pos s1_108])
  by_cases s1_114 : c = 114
  · refine S_lookup (tgt := 39) (off := 38) qX4_wordOf_1 (by decide +kernel) (by omega) (by rw [s1_114]; decide +kernel) (by decide) ?_
    refine S_ldcS (k := 200 + 1) qX4_wordOf_39 (fun g2 U h => h.1.2.1) ?_
    refine S_aret hz qX4_wordOf_41 ?_
    exact RER.mk (by unfold woN; rw [if_neg s1_108, if_pos s1_114])
  by_cases s1_119 : c = 119
  · refine S_lookup (tgt := 42) (off := 41) qX4_wordOf_1 (by decide +kernel) (by omega) (by rw [s1_119]; decide +kernel) (by decide) ?_
    refine S_ldcS (k := 200 + 2) qX4_wordOf_42 (fun g2 U h => h.1.2.2.1) ?_
    refine S_aret hz qX4_wordOf_44 ?_
    exact RER.mk (by unfold woN; rw [if_neg s1_108, if_neg s1_114, if_pos s1_119])
  refine S_lookup (tgt := 45) (off := 44) qX4_wordOf_1 (by decide +kernel) (by omega) (by simp [Op.lookupswitch.offset, s1_108, Ne.symm s1_108, s1_114, Ne.symm s1_114, s1_119, Ne.symm s1_119]) (by decide) ?_
  refine S_ldcS (k := 200 + 3) qX4_wordOf_45 (fun g2 U h => h.1.2.2.2.1) ?_
  refine S_aret hz qX4_wordOf_47 ?_
  exact RER.mk (by unfold woN; rw [if_neg s1_108, if_neg s1_114, if_neg s1_119])

theorem ta_loop {g : GC} {X : CX} {Q : Option AV → MM → Prop} {V : MM} {h : Nat} {i : Nat} (hh : isH h) (hB : BInv V) (hi : i < 6) (hz : Fi g X (some .boolean) Q) (hD : Dp X 6) : ∀ (n : Nat) (j : Int) (s : ST), RInv s → 0 ≤ j → j + n = (lnS i : Int) → (∀ z V2, rsP V h (taL (V 5) (V 4 1) i n j s) z V2 → Q (some (vi z)) V2) → SW g X RX4 cX4_takesAll 2 [some (vr 4), some (vr (200 + i)), some (vi j)] [] (rdM V h s) := by
  have hl := ln_rg hi
  intro n
  induction n with
  | zero =>
    intro j s hs h0 h1 hQ
    refine S_il2 qX4_takesAll_2 ?_
    refine S_al1 qX4_takesAll_3 ?_
    refine S_V0E hD qX4_takesAll_4 lX4_99 vJ0_length_8abf5 (rS hi) (c_slen hi) (K := ?_)
    refine S_icmp_ge (d := qX4_takesAll_7) (kt := fun c7 => ?_) (kf := fun c7 => ?_)
    rotate_left
    · omega
    refine S_iconst qX4_takesAll_30 ?_
    refine S_zret hz qX4_takesAll_31 (by omega) ?_
    exact hQ _ _ (Or.inl ⟨rfl, rfl, rfl⟩)
  | succ n ih =>
    intro j s hs h0 h1 hQ
    unfold taL at hQ
    have hb := by_rg (i := i) (j := j) hi (by omega)
    refine S_il2 qX4_takesAll_2 ?_
    refine S_al1 qX4_takesAll_3 ?_
    refine S_V0E hD qX4_takesAll_4 lX4_99 vJ0_length_8abf5 (rS hi) (c_slen hi) (K := ?_)
    refine S_icmp_ge (d := qX4_takesAll_7) (kt := fun c7 => ?_) (kf := fun c7 => ?_)
    · omega
    refine S_al0 qX4_takesAll_10 ?_
    refine S_al1 qX4_takesAll_11 ?_
    refine S_il2 qX4_takesAll_12 ?_
    refine S_V1E hD qX4_takesAll_13 lX4_101 vJ0_charAt_5068e (rS hi) (c_charAt hi (by omega)) (K := ?_)
    refine S_V1I hD qX4_takesAll_16 lX4_31 vX4_takes r4 (c_takesS hh hB hs (by omega)) (kk := fun z16 V16 h16 => ?_)
    obtain ⟨rfl, t16, u16, rfl⟩ | ⟨rfl, t16, rfl⟩ := h16
    · refine S_if_ne (d := qX4_takesAll_19) (kt := fun _ => ?_) (kf := fun c => absurd c (by decide))
      refine S_inc2 qX4_takesAll_24 (K := ?_)
      refine S_goto qX4_takesAll_27 ?_
      rw [if_pos t16] at hQ
      exact ih (j + 1) _ (hs.nx t16 (by omega)) (by omega) (by omega) hQ
    · refine S_if_ne (d := qX4_takesAll_19) (kt := fun c => absurd c (by decide)) (kf := fun _ => ?_)
      refine S_iconst qX4_takesAll_22 ?_
      refine S_zret hz qX4_takesAll_23 (by omega) ?_
      rw [if_neg t16] at hQ
      exact hQ _ _ (Or.inr ⟨rfl, rfl, rfl⟩)
theorem c_takesAll {g : GC} {V : MM} {h i : Nat} {s : ST} (hh : isH h) (hB : BInv V) (hi : i < 6) (hs : RInv s) : Ct g mX4_takesAll 6 [vr 4, vr (200 + i)] (rdM V h s) (RI (rsP V h (taL (V 5) (V 4 1) i (lnS i) 0 s))) := by
  refine Ct.of (ls := [some (vr 4), some (vr (200 + i)), none]) (plainFor_of_name (by decide +kernel)) rfl (by exact Nat.le_of_ble_eq_true rfl) (fun X hz hD => ?_)
  refine S_iconst qX4_takesAll_0 ?_
  refine S_is2 qX4_takesAll_1 (K := ?_)
  exact ta_loop hh hB hi hz hD (lnS i) 0 s hs (by omega) (by omega) (fun z V2 hq => ⟨z, rfl, hq⟩)
