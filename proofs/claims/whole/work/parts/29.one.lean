/-- c's behind the first: as one, each with its code behind -/
def lpS (T : Int → Int) (L : Int) (one : ST → Bool × ST) (c o : Int) : Nat → ST → Bool × ST
  | 0, s => (true, s)
  | n + 1, s => if ahS T L s.1 = c then (if (one (s.1 + 1, s.2)).1 = true then lpS T L one c o n (addS o (one (s.1 + 1, s.2)).2) else (false, (one (s.1 + 1, s.2)).2)) else (true, s)
def seS (T : Int → Int) (L : Int) (one : ST → Bool × ST) (c o : Int) (s : ST) : Bool × ST := if (one s).1 = true then lpS T L one c o 100 (one s).2 else (false, (one s).2)
def anyS (T : Int → Int) (L : Int) (one : ST → Bool × ST) (s : ST) : Bool × ST := seS T L (seS T L one 38 (-2)) 124 (-3) s
/-- behind what stands in brackets -/
def brS (T : Int → Int) (L : Int) (x : Bool × ST) : Bool × ST := if x.1 = true then (if ahS T L x.2.1 = 41 then (true, (x.2.1 + 1, x.2.2)) else (false, x.2)) else (false, x.2)
def noS (x : Bool × ST) : Bool × ST := if x.1 = true then (true, addS (-1) x.2) else (false, x.2)
def oneS (T : Int → Int) (L : Int) : Nat → ST → Bool × ST
  | 0, s => if ahS T L s.1 = 33 ∨ ahS T L s.1 = 40 then (false, s) else tsS T L s
  | r + 1, s => if ahS T L s.1 = 40 then brS T L (anyS T L (oneS T L r) (s.1 + 1, s.2)) else if ahS T L s.1 = 33 then noS (oneS T L r (s.1 + 1, s.2)) else tsS T L s
theorem RInv.nx {T : Int → Int} {L : Int} {s : ST} (h : RInv s) {c : Int} (hc : ahS T L s.1 = c) (h2 : c ≤ 254) : RInv (s.1 + 1, s.2) := by
  have h3 := ahS_in (T := T) (L := L) (p := s.1) (by omega)
  exact ⟨by have := h.1; show 0 ≤ s.1 + 1 ∧ s.1 + 1 ≤ 100; omega, h.2⟩
theorem lp_inv {T : Int → Int} {L : Int} {one : ST → Bool × ST} {c o : Int} (ho : ∀ s, RInv s → RInv (one s).2) (hc : c ≤ 254) (h1 : -3 ≤ o ∧ o ≤ 1799) : ∀ (n : Nat) (s : ST), RInv s → RInv (lpS T L one c o n s).2 := by
  intro n
  induction n with
  | zero => intro s hs; exact hs
  | succ n ih =>
    intro s hs
    unfold lpS
    by_cases c1 : ahS T L s.1 = c
    · rw [if_pos c1]
      have h2 := ho _ (hs.nx c1 hc)
      by_cases c2 : (one (s.1 + 1, s.2)).1 = true
      · rw [if_pos c2]
        exact ih _ (ad_inv h2 h1)
      · rw [if_neg c2]
        exact h2
    · rw [if_neg c1]
      exact hs
theorem se_inv {T : Int → Int} {L : Int} {one : ST → Bool × ST} {c o : Int} (ho : ∀ s, RInv s → RInv (one s).2) (hc : c ≤ 254) (h1 : -3 ≤ o ∧ o ≤ 1799) (s : ST) (hs : RInv s) : RInv (seS T L one c o s).2 := by
  unfold seS
  by_cases c2 : (one s).1 = true
  · rw [if_pos c2]
    exact lp_inv ho hc h1 100 _ (ho s hs)
  · rw [if_neg c2]
    exact ho s hs
theorem any_inv {T : Int → Int} {L : Int} {one : ST → Bool × ST} (ho : ∀ s, RInv s → RInv (one s).2) (s : ST) (hs : RInv s) : RInv (anyS T L one s).2 :=
  se_inv (se_inv ho (by omega) (by omega)) (by omega) (by omega) s hs
theorem br_inv {T : Int → Int} {L : Int} {x : Bool × ST} (h : RInv x.2) : RInv (brS T L x).2 := by
  unfold brS
  by_cases c1 : x.1 = true
  · rw [if_pos c1]
    by_cases c2 : ahS T L x.2.1 = 41
    · rw [if_pos c2]
      exact h.nx c2 (by omega)
    · rw [if_neg c2]
      exact h
  · rw [if_neg c1]
    exact h
theorem no_inv {x : Bool × ST} (h : RInv x.2) : RInv (noS x).2 := by
  unfold noS
  split
  · exact ad_inv h (by omega)
  · exact h
theorem one_inv {T : Int → Int} {L : Int} : ∀ (r : Nat) (s : ST), RInv s → RInv (oneS T L r s).2 := by
  intro r
  induction r with
  | zero =>
    intro s hs
    unfold oneS
    split
    · exact hs
    · exact ts_inv hs
  | succ r ih =>
    intro s hs
    unfold oneS
    by_cases c1 : ahS T L s.1 = 40
    · rw [if_pos c1]
      exact br_inv (any_inv ih _ (hs.nx c1 (by omega)))
    · rw [if_neg c1]
      by_cases c2 : ahS T L s.1 = 33
      · rw [if_pos c2]
        exact no_inv (ih _ (hs.nx c2 (by omega)))
      · rw [if_neg c2]
        exact ts_inv hs
/-- a reader of the class is as the function one -/
def RdC (g : GC) (M : MN) (V : MM) (h : Nat) (dep : Int) (d : Nat) (one : ST → Bool × ST) : Prop := ∀ s, RInv s → Ct g M d [vr 4, vr h, vi dep] (rdM V h s) (RI (rsP V h (one s)))

theorem all_loop {g : GC} {X : CX} {Q : Option AV → MM → Prop} {V : MM} {h : Nat} {dep : Int} {d : Nat} {one : ST → Bool × ST} (hh : isH h) (hB : BInv V) (ho : ∀ s, RInv s → RInv (one s).2) (hone : RdC g mX4_readOne V h dep d one) (hd2 : 3 ≤ d) (hz : Fi g X (some .boolean) Q) (hD : Dp X (d + 1)) : ∀ (n : Nat) (s : ST) (m : Int), RInv s → 0 ≤ m → m + n = 100 → (∀ z V2, rsP V h (lpS (V 5) (V 4 1) one 38 (-2) n s) z V2 → Q (some (vi z)) V2) → SW g X RX4 cX4_readAllOf 13 [some (vr 4), some (vr h), some (vi dep), some (vi m)] [] (rdM V h s) := by
  intro n
  induction n with
  | zero =>
    intro s m hs h0 h1 hQ
    refine S_il3 qX4_readAllOf_13 ?_
    refine S_bipush (d := qX4_readAllOf_14) (k := ?_)
    refine S_icmp_ge (d := qX4_readAllOf_16) (kt := fun c16 => ?_) (kf := fun c16 => ?_)
    rotate_left
    · omega
    refine S_iconst qX4_readAllOf_51 ?_
    refine S_zret hz qX4_readAllOf_52 (by omega) ?_
    exact hQ _ _ (Or.inl ⟨rfl, rfl, rfl⟩)
  | succ n ih =>
    intro s m hs h0 h1 hQ
    unfold lpS at hQ
    refine S_il3 qX4_readAllOf_13 ?_
    refine S_bipush (d := qX4_readAllOf_14) (k := ?_)
    refine S_icmp_ge (d := qX4_readAllOf_16) (kt := fun c16 => ?_) (kf := fun c16 => ?_)
    · omega
    refine S_al0 qX4_readAllOf_19 ?_
    refine S_bipush (d := qX4_readAllOf_20) (k := ?_)
    refine S_V1I hD qX4_readAllOf_22 lX4_31 vX4_takes r4 (c_takesR hh hB hs (by omega)) (kk := fun z22 V22 h22 => ?_)
    obtain ⟨rfl, t22, u22, rfl⟩ | ⟨rfl, t22, rfl⟩ := h22
    · refine S_if_eq (d := qX4_readAllOf_25) (kt := fun c => absurd c (by decide)) (kf := fun _ => ?_)
      refine S_al0 qX4_readAllOf_28 ?_
      refine S_al1 qX4_readAllOf_29 ?_
      refine S_il2 qX4_readAllOf_30 ?_
      refine S_V2I hD qX4_readAllOf_31 lX4_79 vX4_readOne r4 (hone _ (hs.nx t22 (by omega))) (kk := fun z31 V31 h31 => ?_)
      obtain ⟨rfl, t31, rfl⟩ | ⟨rfl, t31, rfl⟩ := h31
      · rw [if_pos t22] at hQ
        have hs2 := ho _ (hs.nx t22 (by omega))
        refine S_if_ne (d := qX4_readAllOf_34) (kt := fun _ => ?_) (kf := fun c => absurd c (by decide))
        refine S_al1 qX4_readAllOf_39 ?_
        refine S_bipush (d := qX4_readAllOf_40) (k := ?_)
        refine S_V1W hD qX4_readAllOf_42 lX4_76 vX3_addCode (H_r hh) (c_addCodeR hh hB hs2) (K := ?_)
        refine S_inc3 qX4_readAllOf_45 (K := ?_)
        refine S_goto qX4_readAllOf_48 ?_
        rw [if_pos t31] at hQ
        exact ih _ (m + 1) (ad_inv hs2 (by omega)) (by omega) (by omega) hQ
      · rw [if_pos t22] at hQ
        have hs2 := ho _ (hs.nx t22 (by omega))
        refine S_if_ne (d := qX4_readAllOf_34) (kt := fun c => absurd c (by decide)) (kf := fun _ => ?_)
        refine S_iconst qX4_readAllOf_37 ?_
        refine S_zret hz qX4_readAllOf_38 (by omega) ?_
        rw [if_neg (by rw [t31]; exact Bool.false_ne_true)] at hQ
        exact hQ _ _ (Or.inr ⟨rfl, rfl, rfl⟩)
    · refine S_if_eq (d := qX4_readAllOf_25) (kt := fun _ => ?_) (kf := fun c => absurd c (by decide))
      refine S_iconst qX4_readAllOf_51 ?_
      refine S_zret hz qX4_readAllOf_52 (by omega) ?_
      rw [if_neg t22] at hQ
      exact hQ _ _ (Or.inl ⟨rfl, rfl, rfl⟩)
theorem c_allX {g : GC} {V : MM} {h : Nat} {dep : Int} {d : Nat} {one : ST → Bool × ST} (hh : isH h) (hB : BInv V) (ho : ∀ s, RInv s → RInv (one s).2) (hone : RdC g mX4_readOne V h dep d one) (hd2 : 3 ≤ d) (s : ST) (hs : RInv s) : Ct g mX4_readAllOf (d + 1) [vr 4, vr h, vi dep] (rdM V h s) (RI (rsP V h (seS (V 5) (V 4 1) one 38 (-2) s))) := by
  refine Ct.of (ls := [some (vr 4), some (vr h), some (vi dep), none]) (plainFor_of_name (by decide +kernel)) rfl (by exact Nat.le_of_ble_eq_true rfl) (fun X hz hD => ?_)
  refine S_al0 qX4_readAllOf_0 ?_
  refine S_al1 qX4_readAllOf_1 ?_
  refine S_il2 qX4_readAllOf_2 ?_
  refine S_V2I hD qX4_readAllOf_3 lX4_79 vX4_readOne r4 (hone _ hs) (kk := fun z3 V3 h3 => ?_)
  obtain ⟨rfl, t3, rfl⟩ | ⟨rfl, t3, rfl⟩ := h3
  · refine S_if_ne (d := qX4_readAllOf_6) (kt := fun _ => ?_) (kf := fun c => absurd c (by decide))
    refine S_iconst qX4_readAllOf_11 ?_
    refine S_is3 qX4_readAllOf_12 (K := ?_)
    refine all_loop hh hB ho hone hd2 hz hD 100 _ 0 (ho s hs) (by omega) (by omega) (fun z V2 hq => ⟨z, rfl, ?_⟩)
    unfold seS
    rw [if_pos t3]
    exact hq
  · refine S_if_ne (d := qX4_readAllOf_6) (kt := fun c => absurd c (by decide)) (kf := fun _ => ?_)
    refine S_iconst qX4_readAllOf_9 ?_
    refine S_zret hz qX4_readAllOf_10 (by omega) ?_
    refine ⟨_, rfl, ?_⟩
    unfold seS
    rw [if_neg (by rw [t3]; exact Bool.false_ne_true)]
    exact Or.inr ⟨rfl, rfl, rfl⟩

theorem any_loop {g : GC} {X : CX} {Q : Option AV → MM → Prop} {V : MM} {h : Nat} {dep : Int} {d : Nat} {one : ST → Bool × ST} (hh : isH h) (hB : BInv V) (ho : ∀ s, RInv s → RInv (one s).2) (hone : RdC g mX4_readAllOf V h dep d one) (hd2 : 3 ≤ d) (hz : Fi g X (some .boolean) Q) (hD : Dp X (d + 1)) : ∀ (n : Nat) (s : ST) (m : Int), RInv s → 0 ≤ m → m + n = 100 → (∀ z V2, rsP V h (lpS (V 5) (V 4 1) one 124 (-3) n s) z V2 → Q (some (vi z)) V2) → SW g X RX4 cX4_readAnyOf 13 [some (vr 4), some (vr h), some (vi dep), some (vi m)] [] (rdM V h s) := by
  intro n
  induction n with
  | zero =>
    intro s m hs h0 h1 hQ
    refine S_il3 qX4_readAnyOf_13 ?_
    refine S_bipush (d := qX4_readAnyOf_14) (k := ?_)
    refine S_icmp_ge (d := qX4_readAnyOf_16) (kt := fun c16 => ?_) (kf := fun c16 => ?_)
    rotate_left
    · omega
    refine S_iconst qX4_readAnyOf_51 ?_
    refine S_zret hz qX4_readAnyOf_52 (by omega) ?_
    exact hQ _ _ (Or.inl ⟨rfl, rfl, rfl⟩)
  | succ n ih =>
    intro s m hs h0 h1 hQ
    unfold lpS at hQ
    refine S_il3 qX4_readAnyOf_13 ?_
    refine S_bipush (d := qX4_readAnyOf_14) (k := ?_)
    refine S_icmp_ge (d := qX4_readAnyOf_16) (kt := fun c16 => ?_) (kf := fun c16 => ?_)
    · omega
    refine S_al0 qX4_readAnyOf_19 ?_
    refine S_bipush (d := qX4_readAnyOf_20) (k := ?_)
    refine S_V1I hD qX4_readAnyOf_22 lX4_31 vX4_takes r4 (c_takesR hh hB hs (by omega)) (kk := fun z22 V22 h22 => ?_)
    obtain ⟨rfl, t22, u22, rfl⟩ | ⟨rfl, t22, rfl⟩ := h22
    · refine S_if_eq (d := qX4_readAnyOf_25) (kt := fun c => absurd c (by decide)) (kf := fun _ => ?_)
      refine S_al0 qX4_readAnyOf_28 ?_
      refine S_al1 qX4_readAnyOf_29 ?_
      refine S_il2 qX4_readAnyOf_30 ?_
      refine S_V2I hD qX4_readAnyOf_31 lX4_73 vX4_readAllOf r4 (hone _ (hs.nx t22 (by omega))) (kk := fun z31 V31 h31 => ?_)
      obtain ⟨rfl, t31, rfl⟩ | ⟨rfl, t31, rfl⟩ := h31
      · rw [if_pos t22] at hQ
        have hs2 := ho _ (hs.nx t22 (by omega))
        refine S_if_ne (d := qX4_readAnyOf_34) (kt := fun _ => ?_) (kf := fun c => absurd c (by decide))
        refine S_al1 qX4_readAnyOf_39 ?_
        refine S_bipush (d := qX4_readAnyOf_40) (k := ?_)
        refine S_V1W hD qX4_readAnyOf_42 lX4_76 vX3_addCode (H_r hh) (c_addCodeR hh hB hs2) (K := ?_)
        refine S_inc3 qX4_readAnyOf_45 (K := ?_)
        refine S_goto qX4_readAnyOf_48 ?_
        rw [if_pos t31] at hQ
        exact ih _ (m + 1) (ad_inv hs2 (by omega)) (by omega) (by omega) hQ
      · rw [if_pos t22] at hQ
        have hs2 := ho _ (hs.nx t22 (by omega))
        refine S_if_ne (d := qX4_readAnyOf_34) (kt := fun c => absurd c (by decide)) (kf := fun _ => ?_)
        refine S_iconst qX4_readAnyOf_37 ?_
        refine S_zret hz qX4_readAnyOf_38 (by omega) ?_
        rw [if_neg (by rw [t31]; exact Bool.false_ne_true)] at hQ
        exact hQ _ _ (Or.inr ⟨rfl, rfl, rfl⟩)
    · refine S_if_eq (d := qX4_readAnyOf_25) (kt := fun _ => ?_) (kf := fun c => absurd c (by decide))
      refine S_iconst qX4_readAnyOf_51 ?_
      refine S_zret hz qX4_readAnyOf_52 (by omega) ?_
      rw [if_neg t22] at hQ
      exact hQ _ _ (Or.inl ⟨rfl, rfl, rfl⟩)
theorem c_anyX {g : GC} {V : MM} {h : Nat} {dep : Int} {d : Nat} {one : ST → Bool × ST} (hh : isH h) (hB : BInv V) (ho : ∀ s, RInv s → RInv (one s).2) (hone : RdC g mX4_readAllOf V h dep d one) (hd2 : 3 ≤ d) (s : ST) (hs : RInv s) : Ct g mX4_readAnyOf (d + 1) [vr 4, vr h, vi dep] (rdM V h s) (RI (rsP V h (seS (V 5) (V 4 1) one 124 (-3) s))) := by
  refine Ct.of (ls := [some (vr 4), some (vr h), some (vi dep), none]) (plainFor_of_name (by decide +kernel)) rfl (by exact Nat.le_of_ble_eq_true rfl) (fun X hz hD => ?_)
  refine S_al0 qX4_readAnyOf_0 ?_
  refine S_al1 qX4_readAnyOf_1 ?_
  refine S_il2 qX4_readAnyOf_2 ?_
  refine S_V2I hD qX4_readAnyOf_3 lX4_73 vX4_readAllOf r4 (hone _ hs) (kk := fun z3 V3 h3 => ?_)
  obtain ⟨rfl, t3, rfl⟩ | ⟨rfl, t3, rfl⟩ := h3
  · refine S_if_ne (d := qX4_readAnyOf_6) (kt := fun _ => ?_) (kf := fun c => absurd c (by decide))
    refine S_iconst qX4_readAnyOf_11 ?_
    refine S_is3 qX4_readAnyOf_12 (K := ?_)
    refine any_loop hh hB ho hone hd2 hz hD 100 _ 0 (ho s hs) (by omega) (by omega) (fun z V2 hq => ⟨z, rfl, ?_⟩)
    unfold seS
    rw [if_pos t3]
    exact hq
  · refine S_if_ne (d := qX4_readAnyOf_6) (kt := fun c => absurd c (by decide)) (kf := fun _ => ?_)
    refine S_iconst qX4_readAnyOf_9 ?_
    refine S_zret hz qX4_readAnyOf_10 (by omega) ?_
    refine ⟨_, rfl, ?_⟩
    unfold seS
    rw [if_neg (by rw [t3]; exact Bool.false_ne_true)]
    exact Or.inr ⟨rfl, rfl, rfl⟩
