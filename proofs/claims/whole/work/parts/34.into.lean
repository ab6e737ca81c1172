def clL (T : Int → Int) (L : Int) : Nat → CT → ST → Bool × CT × ST
  | 0, c, s => (true, c, s)
  | n + 1, c, s => if ahS T L s.1 = 59 then (if (clS T L c (s.1 + 1, s.2)).1 = true then clL T L n (clS T L c (s.1 + 1, s.2)).2.1 (clS T L c (s.1 + 1, s.2)).2.2 else clS T L c (s.1 + 1, s.2)) else (true, c, s)
def fiE (L : Int) (y : Bool × CT × ST) : Bool × CT × ST := if y.1 = true then (decide (y.2.2.1 = L), y.2) else y
def inB (T : Int → Int) (L : Int) (x : Bool × CT × ST) : Bool × CT × ST := if x.1 = true then fiE L (clL T L 9 x.2.1 x.2.2) else x
/-- a hall, read -/
def inS (T : Int → Int) (L : Int) (c : CT) (s : ST) : Bool × CT × ST := inB T L (clS T L c s)
theorem fe_t {V : MM} {h : Nat} {c : CT} {s : ST} {z : Int} (h1 : z = 1 ∧ s.1 = V 4 1 ∨ z = 0 ∧ s.1 ≠ V 4 1) : clP V h (fiE (V 4 1) (true, c, s)) z (rdM (hbM V h c) h s) := by
  have e : fiE (V 4 1) (true, c, s) = (decide (s.1 = V 4 1), c, s) := if_pos rfl
  rw [e]
  rcases h1 with ⟨a, b⟩ | ⟨a, b⟩
  · exact Or.inl ⟨a, decide_eq_true b, rfl⟩
  · exact Or.inr ⟨a, decide_eq_false b, rfl⟩
theorem cl3_inv {f : Int} {c : CT} {n : Int} {y : Bool × ST} (h : RInv y.2) : RInv (cl3 f c n y).2.2 ∧ ((cl3 f c n y).2.1.2.2.1 = c.2.2.1 ∨ (cl3 f c n y).2.1.2.2.1 = c.2.2.1 + 1) := by
  unfold cl3
  split
  · exact ⟨h, Or.inr rfl⟩
  · exact ⟨h, Or.inl rfl⟩
theorem cl_inv {T : Int → Int} {L : Int} {c : CT} {s : ST} (hs : RInv s) : RInv (clS T L c s).2.2 ∧ ((clS T L c s).2.1.2.2.1 = c.2.2.1 ∨ (clS T L c s).2.1.2.2.1 = c.2.2.1 + 1) := by
  have hs1 := ta_inv (T := T) (L := L) (wo_lt (ahS T L s.1)) (lnS (woN (ahS T L s.1))) 0 s (by omega) (by omega) hs
  unfold clS
  generalize taL T L (woN (ahS T L s.1)) (lnS (woN (ahS T L s.1))) 0 s = x at hs1 ⊢
  unfold clB
  by_cases a1 : x.1 = true
  · rw [if_pos a1]
    have hs2 : RInv ((nuS T L x.2.1).2, x.2.2) := ⟨nu_in hs1.1, hs1.2⟩
    by_cases a2 : (nuS T L x.2.1).1 < 0
    · rw [if_pos a2]
      exact ⟨hs2, Or.inl rfl⟩
    · rw [if_neg a2]
      unfold cl2
      by_cases a3 : ahS T L s.1 = 119
      · rw [if_pos a3]
        exact ⟨hs2, Or.inl rfl⟩
      · rw [if_neg a3]
        by_cases a4 : ahS T L s.1 = 115
        · rw [if_pos a4]
          exact ⟨hs2, Or.inl rfl⟩
        · rw [if_neg a4]
          by_cases a5 : ahS T L ((nuS T L x.2.1).2, x.2.2).1 = 32
          · rw [if_pos a5]
            exact cl3_inv (co_inv _ (hs2.nx a5 (by omega)))
          · rw [if_neg a5]
            exact ⟨hs2, Or.inl rfl⟩
  · rw [if_neg a1]
    exact ⟨hs1, Or.inl rfl⟩
theorem hb_B {V : MM} {h : Nat} (hh : isH h) (c : CT) (hB : BInv V) : BInv (hbM V h c) := by
  have hb := isH_b hh
  unfold BInv
  rw [hb_n _ _ _ (show 4 ≠ h by omega) (by omega) (by omega), hb_n _ _ _ (show 5 ≠ h by omega) (by omega) (by omega)]
  exact hB
theorem c_clauseH {g : GC} {V : MM} {h : Nat} {c : CT} {s : ST} (hh : isH h) (hB : BInv V) (hs : RInv s) (hn : 0 ≤ c.2.2.1 ∧ c.2.2.1 < 10) : Ct g mX4_readClause 22 [vr 4, vr h] (rdM (hbM V h c) h s) (RI (clP V h (clS (V 5) (V 4 1) c s))) := by
  have hb := isH_b hh
  have h1 := c_readClause (g := g) (W := hbM V h c) hh (hb_B hh c hB) hs (by rw [hb_h, ur_s]; exact hn)
  rw [hb_c, hb_n _ _ _ (show 4 ≠ h by omega) (by omega) (by omega), hb_n _ _ _ (show 5 ≠ h by omega) (by omega) (by omega)] at h1
  unfold clP at h1
  simp only [hb_hb] at h1
  exact h1
theorem c_takesH {g : GC} {V : MM} {h : Nat} {c : CT} {s : ST} (hh : isH h) (hB : BInv V) (hs : RInv s) {x : Int} (hc : 0 ≤ x ∧ x ≤ 254) : Ct g mX4_takes 2 [vr 4, vi x] (rdM (hbM V h c) h s) (RI (fun z V2 => (z = 1 ∧ ahS (V 5) (V 4 1) s.1 = x ∧ s.1 < 100 ∧ V2 = rdM (hbM V h c) h (s.1 + 1, s.2)) ∨ (z = 0 ∧ ahS (V 5) (V 4 1) s.1 ≠ x ∧ V2 = rdM (hbM V h c) h s))) := by
  have hb := isH_b hh
  have h1 := c_takesS (g := g) (V := hbM V h c) hh (hb_B hh c hB) hs hc
  rw [hb_n _ _ _ (show 4 ≠ h by omega) (by omega) (by omega), hb_n _ _ _ (show 5 ≠ h by omega) (by omega) (by omega)] at h1
  exact h1

theorem in_loop {g : GC} {X : CX} {Q : Option AV → MM → Prop} {V : MM} {h : Nat} (hh : isH h) (hB : BInv V) (hz : Fi g X (some .boolean) Q) (hD : Dp X 23) : ∀ (n : Nat) (m : Int) (c : CT) (s : ST), RInv s → 0 ≤ m → m + n = 10 → (0 ≤ c.2.2.1 ∧ c.2.2.1 ≤ m) → (∀ z V2, clP V h (fiE (V 4 1) (clL (V 5) (V 4 1) n c s)) z V2 → Q (some (vi z)) V2) → SW g X RX4 cX4_readInto 21 [some (vr 4), some (vr h), some (vi m)] [] (rdM (hbM V h c) h s) := by
  have hb := isH_b hh
  have hB1 := hB.1
  intro n
  induction n with
  | zero =>
    intro m c s hs h0 h1 hc hQ
    have hs1 := hs.1
    refine S_il2 qX4_readInto_21 ?_
    refine S_bipush (d := qX4_readInto_22) (k := ?_)
    refine S_icmp_ge (d := qX4_readInto_24) (kt := fun c24 => ?_) (kf := fun c24 => ?_)
    rotate_left
    · omega
    refine S_al0 qX4_readInto_52 ?_
    refine S_getI qX4_readInto_53 fX4_19 e4_2 ?_
    refine S_al0 qX4_readInto_56 ?_
    refine S_getI qX4_readInto_57 fX4_15 e4_1 ?_
    rw [rd_42 hh, rd_41 hh, hb_n _ _ _ (show 4 ≠ h by omega) (by omega) (by omega)]
    refine S_icmp_ne (d := qX4_readInto_60) (kt := fun c60 => ?_) (kf := fun c60 => ?_)
    · refine S_iconst qX4_readInto_67 ?_
      refine S_zret hz qX4_readInto_68 (by omega) ?_
      exact hQ _ _ (fe_t (by omega))
    · refine S_iconst qX4_readInto_63 ?_
      refine S_goto qX4_readInto_64 ?_
      refine S_zret hz qX4_readInto_68 (by omega) ?_
      exact hQ _ _ (fe_t (by omega))
  | succ n ih =>
    intro m c s hs h0 h1 hc hQ
    have hs1 := hs.1
    unfold clL at hQ
    refine S_il2 qX4_readInto_21 ?_
    refine S_bipush (d := qX4_readInto_22) (k := ?_)
    refine S_icmp_ge (d := qX4_readInto_24) (kt := fun c24 => ?_) (kf := fun c24 => ?_)
    · omega
    refine S_al0 qX4_readInto_27 ?_
    refine S_bipush (d := qX4_readInto_28) (k := ?_)
    refine S_V1I hD qX4_readInto_30 lX4_31 vX4_takes r4 (c_takesH hh hB hs (by omega)) (kk := fun z30 V30 h30 => ?_)
    obtain ⟨rfl, t30, u30, rfl⟩ | ⟨rfl, t30, rfl⟩ := h30
    · refine S_if_eq (d := qX4_readInto_33) (kt := fun c => absurd c (by decide)) (kf := fun _ => ?_)
      rw [if_pos t30] at hQ
      have e3 := cl_inv (T := V 5) (L := V 4 1) (c := c) (hs.nx t30 (by omega))
      refine S_al0 qX4_readInto_36 ?_
      refine S_al1 qX4_readInto_37 ?_
      refine S_V1I hD qX4_readInto_38 lX4_27 vX4_readClause r4 (c_clauseH hh hB (hs.nx t30 (by omega)) (by omega)) (kk := fun z38 V38 h38 => ?_)
      obtain ⟨rfl, t38, rfl⟩ | ⟨rfl, t38, rfl⟩ := h38
      · refine S_if_ne (d := qX4_readInto_41) (kt := fun _ => ?_) (kf := fun c => absurd c (by decide))
        refine S_inc2 qX4_readInto_46 (K := ?_)
        refine S_goto qX4_readInto_49 ?_
        rw [if_pos t38] at hQ
        exact ih (m + 1) _ _ e3.1 (by omega) (by omega) (by omega) hQ
      · refine S_if_ne (d := qX4_readInto_41) (kt := fun c => absurd c (by decide)) (kf := fun _ => ?_)
        refine S_iconst qX4_readInto_44 ?_
        refine S_zret hz qX4_readInto_45 (by omega) ?_
        rw [if_neg (bf t38)] at hQ
        exact hQ _ _ (by unfold fiE; rw [if_neg (bf t38)]; exact Or.inr ⟨rfl, t38, rfl⟩)
    · refine S_if_eq (d := qX4_readInto_33) (kt := fun _ => ?_) (kf := fun c => absurd c (by decide))
      refine S_al0 qX4_readInto_52 ?_
      refine S_getI qX4_readInto_53 fX4_19 e4_2 ?_
      refine S_al0 qX4_readInto_56 ?_
      refine S_getI qX4_readInto_57 fX4_15 e4_1 ?_
      rw [rd_42 hh, rd_41 hh, hb_n _ _ _ (show 4 ≠ h by omega) (by omega) (by omega)]
      refine S_icmp_ne (d := qX4_readInto_60) (kt := fun c60 => ?_) (kf := fun c60 => ?_)
      · refine S_iconst qX4_readInto_67 ?_
        refine S_zret hz qX4_readInto_68 (by omega) ?_
        rw [if_neg t30] at hQ
        exact hQ _ _ (fe_t (by omega))
      · refine S_iconst qX4_readInto_63 ?_
        refine S_goto qX4_readInto_64 ?_
        refine S_zret hz qX4_readInto_68 (by omega) ?_
        rw [if_neg t30] at hQ
        exact hQ _ _ (fe_t (by omega))
theorem c_readInto {g : GC} {V : MM} {h : Nat} (hh : isH h) (hB : BInv V) (hco : ∀ i, 0 ≤ i ∧ i < 100 → -3 ≤ V (h + 3) i ∧ V (h + 3) i ≤ 1799) : Ct g mX4_readInto 23 [vr 4, vr h] V (RI (clP V h (inS (V 5) (V 4 1) (24, 0, 0, V (h + 1), V (h + 2)) (0, 0, V (h + 3))))) := by
  refine Ct.of (ls := [some (vr 4), some (vr h), none]) (plainFor_of_name (by decide +kernel)) rfl (by exact Nat.le_of_ble_eq_true rfl) (fun X hz hD => ?_)
  have hb := isH_b hh
  have hs : RInv (0, 0, V (h + 3)) := ⟨by show (0 : Int) ≤ 0 ∧ (0 : Int) ≤ 100; omega, by show (0 : Int) ≤ 0 ∧ (0 : Int) ≤ 100; omega, hco⟩
  have e3 := cl_inv (T := V 5) (L := V 4 1) (c := (24, 0, 0, V (h + 1), V (h + 2))) hs
  have e4 : (((24 : Int), (0 : Int), (0 : Int), V (h + 1), V (h + 2)) : CT).2.2.1 = 0 := rfl
  refine S_al0 qX4_readInto_0 ?_
  refine S_iconst qX4_readInto_1 ?_
  refine S_putI qX4_readInto_2 fX4_19 e4_2 tX4_2 ?_
  refine S_al1 qX4_readInto_5 ?_
  refine S_V0W hD qX4_readInto_6 lX4_22 vX3_clear (H_r hh) (c_clear hh) (K := ?_)
  have eM : upR (upR V 4 (ur (V 4) 2 0)) h (ur (ur (ur (ur (upR V 4 (ur (V 4) 2 0) h) 0 24) 1 0) 2 0) 3 0) = rdM (hbM V h (24, 0, 0, V (h + 1), V (h + 2))) h (0, 0, V (h + 3)) := by
    refine rh_ext hh ?_ ?_ ?_ ?_ ?_ (fun k k0 k1 k2 k3 k4 => ?_)
    · rw [upR_s, upR_n _ (show h ≠ 4 by omega)]
    · rw [upR_n _ (by omega), upR_n _ (by omega)]
    · rw [upR_n _ (by omega), upR_n _ (by omega)]
    · rw [upR_n _ (by omega), upR_n _ (by omega)]
    · rw [upR_n _ (by omega), upR_s]
    · rw [upR_n _ k0, upR_n _ k4]
  rw [eM]
  refine S_al0 qX4_readInto_9 ?_
  refine S_al1 qX4_readInto_10 ?_
  refine S_V1I hD qX4_readInto_11 lX4_27 vX4_readClause r4 (c_clauseH hh hB hs (by omega)) (kk := fun z11 V11 h11 => ?_)
  obtain ⟨rfl, t11, rfl⟩ | ⟨rfl, t11, rfl⟩ := h11
  · refine S_if_ne (d := qX4_readInto_14) (kt := fun _ => ?_) (kf := fun c => absurd c (by decide))
    refine S_iconst qX4_readInto_19 ?_
    refine S_is2 qX4_readInto_20 (K := ?_)
    refine in_loop hh hB hz hD 9 1 _ _ e3.1 (by omega) (by omega) (by omega) (fun z V2 hq => ⟨z, rfl, ?_⟩)
    unfold inS inB
    rw [if_pos t11]
    exact hq
  · refine S_if_ne (d := qX4_readInto_14) (kt := fun c => absurd c (by decide)) (kf := fun _ => ?_)
    refine S_iconst qX4_readInto_17 ?_
    refine S_zret hz qX4_readInto_18 (by omega) ?_
    refine ⟨_, rfl, ?_⟩
    unfold inS inB
    rw [if_neg (bf t11)]
    exact Or.inr ⟨rfl, t11, rfl⟩
