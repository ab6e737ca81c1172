theorem one_0 (T : Int → Int) (L : Int) (s : ST) : oneS T L 0 s = if ahS T L s.1 = 33 ∨ ahS T L s.1 = 40 then (false, s) else tsS T L s := rfl
theorem one_s (T : Int → Int) (L : Int) (r : Nat) (s : ST) : oneS T L (r + 1) s = if ahS T L s.1 = 40 then brS T L (anyS T L (oneS T L r) (s.1 + 1, s.2)) else if ahS T L s.1 = 33 then noS (oneS T L r (s.1 + 1, s.2)) else tsS T L s := rfl
theorem c_anyR {g : GC} {V : MM} {h : Nat} {dep : Int} {d : Nat} {one : ST → Bool × ST} (hh : isH h) (hB : BInv V) (ho : ∀ s, RInv s → RInv (one s).2) (hone : RdC g mX4_readOne V h dep d one) (hd2 : 3 ≤ d) : RdC g mX4_readAnyOf V h dep (d + 1 + 1) (anyS (V 5) (V 4 1) one) :=
  fun s hs => c_anyX hh hB (fun s hs => se_inv ho (by omega) (by omega) s hs) (fun s hs => c_allX hh hB ho hone hd2 s hs) (by omega) s hs
theorem c_aheadS {g : GC} {V : MM} {h : Nat} {s : ST} (hh : isH h) (hB : BInv V) (hs : RInv s) : Ct g mX4_ahead 1 [vr 4] (rdM V h s) (RE (rdM V h s) (ahS (V 5) (V 4 1) s.1)) := c_aheadR (p := s.1) (q := s.2) hh hB hs
theorem c_readTestS {g : GC} {V : MM} {h : Nat} {s : ST} (hh : isH h) (hB : BInv V) (hs : RInv s) : Ct g mX4_readTest 5 [vr 4, vr h] (rdM V h s) (RI (rsP V h (tsS (V 5) (V 4 1) s))) := c_readTest (p := s.1) (q := s.2) hh hB hs
theorem c_takesS {g : GC} {V : MM} {h : Nat} {s : ST} (hh : isH h) (hB : BInv V) (hs : RInv s) {c : Int} (hc : 0 ≤ c ∧ c ≤ 254) : Ct g mX4_takes 2 [vr 4, vi c] (rdM V h s) (RI (fun z V2 => (z = 1 ∧ ahS (V 5) (V 4 1) s.1 = c ∧ s.1 < 100 ∧ V2 = rdM V h (s.1 + 1, s.2)) ∨ (z = 0 ∧ ahS (V 5) (V 4 1) s.1 ≠ c ∧ V2 = rdM V h s))) := c_takesR (p := s.1) (q := s.2) hh hB hs hc
theorem ahS_rg {V : MM} (hB : BInv V) {p : Int} (hp : 0 ≤ p) : 0 ≤ ahS (V 5) (V 4 1) p ∧ ahS (V 5) (V 4 1) p ≤ 255 := by
  unfold ahS
  split
  · have := hB.2 p (by omega)
    omega
  · omega

theorem c_one {g : GC} {V : MM} {h : Nat} (hh : isH h) (hB : BInv V) : ∀ (r : Nat) (dep : Int), 0 ≤ dep → dep + r = 4 → RdC g mX4_readOne V h dep (3 * r + 6) (oneS (V 5) (V 4 1) r) := by
  intro r
  induction r with
  | zero =>
    intro dep hp0 hd s hs
    refine Ct.of (ls := [some (vr 4), some (vr h), some (vi dep), none]) (plainFor_of_name (by decide +kernel)) rfl (by exact Nat.le_of_ble_eq_true rfl) (fun X hz hD => ?_)
    have ha := ahS_rg hB hs.1.1
    refine S_al0 qX4_readOne_0 ?_
    refine S_V0E hD qX4_readOne_1 lX4_35 vX4_ahead r4 (c_aheadS hh hB hs) (K := ?_)
    refine S_is3 qX4_readOne_4 (K := ?_)
    refine S_il3 qX4_readOne_5 ?_
    refine S_bipush (d := qX4_readOne_6) (k := ?_)
    refine S_icmp_eq (d := qX4_readOne_8) (kt := fun c8 => ?_) (kf := fun c8 => ?_)
    · refine S_il2 qX4_readOne_23 ?_
      refine S_iconst qX4_readOne_24 ?_
      refine S_icmp_lt (d := qX4_readOne_25) (kt := fun c25 => ?_) (kf := fun c25 => ?_)
      · omega
      refine S_iconst qX4_readOne_28 ?_
      refine S_zret hz qX4_readOne_29 (by omega) ?_
      refine ⟨_, rfl, ?_⟩
      rw [one_0, if_pos (by omega)]
      exact Or.inr ⟨rfl, rfl, rfl⟩
    · refine S_il3 qX4_readOne_11 ?_
      refine S_bipush (d := qX4_readOne_12) (k := ?_)
      refine S_icmp_eq (d := qX4_readOne_14) (kt := fun c14 => ?_) (kf := fun c14 => ?_)
      · refine S_il2 qX4_readOne_23 ?_
        refine S_iconst qX4_readOne_24 ?_
        refine S_icmp_lt (d := qX4_readOne_25) (kt := fun c25 => ?_) (kf := fun c25 => ?_)
        · omega
        refine S_iconst qX4_readOne_28 ?_
        refine S_zret hz qX4_readOne_29 (by omega) ?_
        refine ⟨_, rfl, ?_⟩
        rw [one_0, if_pos (by omega)]
        exact Or.inr ⟨rfl, rfl, rfl⟩
      · refine S_al0 qX4_readOne_17 ?_
        refine S_al1 qX4_readOne_18 ?_
        refine S_V1I hD qX4_readOne_19 lX4_82 vX4_readTest r4 (c_readTestS hh hB hs) (kk := fun z19 V19 h19 => ?_)
        obtain ⟨rfl, t19, rfl⟩ | ⟨rfl, t19, rfl⟩ := h19
        · refine S_zret hz qX4_readOne_22 (by omega) ?_
          refine ⟨_, rfl, ?_⟩
          rw [one_0, if_neg (by omega)]
          first | exact Or.inl ⟨rfl, t19, rfl⟩ | exact Or.inr ⟨rfl, t19, rfl⟩
        · refine S_zret hz qX4_readOne_22 (by omega) ?_
          refine ⟨_, rfl, ?_⟩
          rw [one_0, if_neg (by omega)]
          first | exact Or.inl ⟨rfl, t19, rfl⟩ | exact Or.inr ⟨rfl, t19, rfl⟩
  
  | succ r ih0 =>
    intro dep hp0 hd s hs
    have ih := fun (x : Int) (hx : x = dep + 1) => ih0 x (by omega) (by omega)
    refine Ct.of (ls := [some (vr 4), some (vr h), some (vi dep), none]) (plainFor_of_name (by decide +kernel)) rfl (by exact Nat.le_of_ble_eq_true rfl) (fun X hz hD => ?_)
    have ha := ahS_rg hB hs.1.1
    refine S_al0 qX4_readOne_0 ?_
    refine S_V0E hD qX4_readOne_1 lX4_35 vX4_ahead r4 (c_aheadS hh hB hs) (K := ?_)
    refine S_is3 qX4_readOne_4 (K := ?_)
    refine S_il3 qX4_readOne_5 ?_
    refine S_bipush (d := qX4_readOne_6) (k := ?_)
    refine S_icmp_eq (d := qX4_readOne_8) (kt := fun c8 => ?_) (kf := fun c8 => ?_)
    · refine S_il2 qX4_readOne_23 ?_
      refine S_iconst qX4_readOne_24 ?_
      refine S_icmp_lt (d := qX4_readOne_25) (kt := fun c25 => ?_) (kf := fun c25 => ?_)
      rotate_left
      · omega
      refine S_al0 qX4_readOne_30 ?_
      refine S_dup (d := qX4_readOne_31) (k := ?_)
      refine S_getI qX4_readOne_32 fX4_19 e4_2 ?_
      refine S_iconst qX4_readOne_35 ?_
      refine S_iadd qX4_readOne_36 ?_
      refine S_putI qX4_readOne_37 fX4_19 e4_2 tX4_2 ?_
      rw [rd_pp hh]
      refine S_il3 qX4_readOne_40 ?_
      refine S_bipush (d := qX4_readOne_41) (k := ?_)
      refine S_icmp_ne (d := qX4_readOne_43) (kt := fun c43 => ?_) (kf := fun c43 => ?_)
      · refine S_al0 qX4_readOne_72 ?_
        refine S_al1 qX4_readOne_73 ?_
        refine S_il2 qX4_readOne_74 ?_
        refine S_iconst qX4_readOne_75 ?_
        refine S_iadd qX4_readOne_76 ?_
        refine S_V2I hD qX4_readOne_77 lX4_79 vX4_readOne r4 (ih (dep + 1) (by omega) _ (hs.nx (show ahS (V 5) (V 4 1) s.1 = 33 by omega) (by omega))) (kk := fun z77 V77 h77 => ?_)
        obtain ⟨rfl, t77, rfl⟩ | ⟨rfl, t77, rfl⟩ := h77
        · refine S_if_ne (d := qX4_readOne_80) (kt := fun _ => ?_) (kf := fun c => absurd c (by decide))
          refine S_al1 qX4_readOne_85 ?_
          refine S_iconst qX4_readOne_86 ?_
          refine S_V1W hD qX4_readOne_87 lX4_76 vX3_addCode (H_r hh) (c_addCodeR hh hB (one_inv r _ (hs.nx (show ahS (V 5) (V 4 1) s.1 = 33 by omega) (by omega)))) (K := ?_)
          refine S_iconst qX4_readOne_90 ?_
          refine S_zret hz qX4_readOne_91 (by omega) ?_
          refine ⟨_, rfl, ?_⟩
          rw [one_s, if_neg (by omega), if_pos (by omega)]
          unfold noS
          rw [if_pos t77]
          exact Or.inl ⟨rfl, rfl, rfl⟩
        · refine S_if_ne (d := qX4_readOne_80) (kt := fun c => absurd c (by decide)) (kf := fun _ => ?_)
          refine S_iconst qX4_readOne_83 ?_
          refine S_zret hz qX4_readOne_84 (by omega) ?_
          refine ⟨_, rfl, ?_⟩
          rw [one_s, if_neg (by omega), if_pos (by omega)]
          unfold noS
          rw [if_neg (by rw [t77]; exact Bool.false_ne_true)]
          exact Or.inr ⟨rfl, rfl, rfl⟩
      · refine S_al0 qX4_readOne_46 ?_
        refine S_al1 qX4_readOne_47 ?_
        refine S_il2 qX4_readOne_48 ?_
        refine S_iconst qX4_readOne_49 ?_
        refine S_iadd qX4_readOne_50 ?_
        refine S_V2I hD qX4_readOne_51 lX4_58 vX4_readAnyOf r4 (c_anyR hh hB (one_inv r) (ih (dep + 1) (by omega)) (by omega) _ (hs.nx c43 (by omega))) (kk := fun z51 V51 h51 => ?_)
        obtain ⟨rfl, t51, rfl⟩ | ⟨rfl, t51, rfl⟩ := h51
        · refine S_if_eq (d := qX4_readOne_54) (kt := fun c => absurd c (by decide)) (kf := fun _ => ?_)
          refine S_al0 qX4_readOne_57 ?_
          refine S_bipush (d := qX4_readOne_58) (k := ?_)
          refine S_V1I hD qX4_readOne_60 lX4_31 vX4_takes r4 (c_takesS hh hB (any_inv (one_inv r) _ (hs.nx c43 (by omega))) (by omega)) (kk := fun z60 V60 h60 => ?_)
          obtain ⟨rfl, t60, u60, rfl⟩ | ⟨rfl, t60, rfl⟩ := h60
          · refine S_if_eq (d := qX4_readOne_63) (kt := fun c => absurd c (by decide)) (kf := fun _ => ?_)
            refine S_iconst qX4_readOne_66 ?_
            refine S_goto qX4_readOne_67 ?_
            refine S_zret hz qX4_readOne_71 (by omega) ?_
            refine ⟨_, rfl, ?_⟩
            rw [one_s, if_pos c43]
            unfold brS
            first
              | (rw [if_pos t51, if_pos t60]; exact Or.inl ⟨rfl, rfl, rfl⟩)
              | (rw [if_pos t51, if_neg t60]; exact Or.inr ⟨rfl, rfl, rfl⟩)
              | (rw [if_neg (by rw [t51]; exact Bool.false_ne_true)]; exact Or.inr ⟨rfl, rfl, rfl⟩)
          · refine S_if_eq (d := qX4_readOne_63) (kt := fun _ => ?_) (kf := fun c => absurd c (by decide))
            refine S_iconst qX4_readOne_70 ?_
            refine S_zret hz qX4_readOne_71 (by omega) ?_
            refine ⟨_, rfl, ?_⟩
            rw [one_s, if_pos c43]
            unfold brS
            first
              | (rw [if_pos t51, if_pos t60]; exact Or.inl ⟨rfl, rfl, rfl⟩)
              | (rw [if_pos t51, if_neg t60]; exact Or.inr ⟨rfl, rfl, rfl⟩)
              | (rw [if_neg (by rw [t51]; exact Bool.false_ne_true)]; exact Or.inr ⟨rfl, rfl, rfl⟩)
        · refine S_if_eq (d := qX4_readOne_54) (kt := fun _ => ?_) (kf := fun c => absurd c (by decide))
          refine S_iconst qX4_readOne_70 ?_
          refine S_zret hz qX4_readOne_71 (by omega) ?_
          refine ⟨_, rfl, ?_⟩
          rw [one_s, if_pos c43]
          unfold brS
          first
            | (rw [if_pos t51, if_pos t60]; exact Or.inl ⟨rfl, rfl, rfl⟩)
            | (rw [if_pos t51, if_neg t60]; exact Or.inr ⟨rfl, rfl, rfl⟩)
            | (rw [if_neg (by rw [t51]; exact Bool.false_ne_true)]; exact Or.inr ⟨rfl, rfl, rfl⟩)
    · refine S_il3 qX4_readOne_11 ?_
      refine S_bipush (d := qX4_readOne_12) (k := ?_)
      refine S_icmp_eq (d := qX4_readOne_14) (kt := fun c14 => ?_) (kf := fun c14 => ?_)
      · refine S_il2 qX4_readOne_23 ?_
        refine S_iconst qX4_readOne_24 ?_
        refine S_icmp_lt (d := qX4_readOne_25) (kt := fun c25 => ?_) (kf := fun c25 => ?_)
        rotate_left
        · omega
        refine S_al0 qX4_readOne_30 ?_
        refine S_dup (d := qX4_readOne_31) (k := ?_)
        refine S_getI qX4_readOne_32 fX4_19 e4_2 ?_
        refine S_iconst qX4_readOne_35 ?_
        refine S_iadd qX4_readOne_36 ?_
        refine S_putI qX4_readOne_37 fX4_19 e4_2 tX4_2 ?_
        rw [rd_pp hh]
        refine S_il3 qX4_readOne_40 ?_
        refine S_bipush (d := qX4_readOne_41) (k := ?_)
        refine S_icmp_ne (d := qX4_readOne_43) (kt := fun c43 => ?_) (kf := fun c43 => ?_)
        · refine S_al0 qX4_readOne_72 ?_
          refine S_al1 qX4_readOne_73 ?_
          refine S_il2 qX4_readOne_74 ?_
          refine S_iconst qX4_readOne_75 ?_
          refine S_iadd qX4_readOne_76 ?_
          refine S_V2I hD qX4_readOne_77 lX4_79 vX4_readOne r4 (ih (dep + 1) (by omega) _ (hs.nx (show ahS (V 5) (V 4 1) s.1 = 33 by omega) (by omega))) (kk := fun z77 V77 h77 => ?_)
          obtain ⟨rfl, t77, rfl⟩ | ⟨rfl, t77, rfl⟩ := h77
          · refine S_if_ne (d := qX4_readOne_80) (kt := fun _ => ?_) (kf := fun c => absurd c (by decide))
            refine S_al1 qX4_readOne_85 ?_
            refine S_iconst qX4_readOne_86 ?_
            refine S_V1W hD qX4_readOne_87 lX4_76 vX3_addCode (H_r hh) (c_addCodeR hh hB (one_inv r _ (hs.nx (show ahS (V 5) (V 4 1) s.1 = 33 by omega) (by omega)))) (K := ?_)
            refine S_iconst qX4_readOne_90 ?_
            refine S_zret hz qX4_readOne_91 (by omega) ?_
            refine ⟨_, rfl, ?_⟩
            rw [one_s, if_neg (by omega), if_pos (by omega)]
            unfold noS
            rw [if_pos t77]
            exact Or.inl ⟨rfl, rfl, rfl⟩
          · refine S_if_ne (d := qX4_readOne_80) (kt := fun c => absurd c (by decide)) (kf := fun _ => ?_)
            refine S_iconst qX4_readOne_83 ?_
            refine S_zret hz qX4_readOne_84 (by omega) ?_
            refine ⟨_, rfl, ?_⟩
            rw [one_s, if_neg (by omega), if_pos (by omega)]
            unfold noS
            rw [if_neg (by rw [t77]; exact Bool.false_ne_true)]
            exact Or.inr ⟨rfl, rfl, rfl⟩
        · refine S_al0 qX4_readOne_46 ?_
          refine S_al1 qX4_readOne_47 ?_
          refine S_il2 qX4_readOne_48 ?_
          refine S_iconst qX4_readOne_49 ?_
          refine S_iadd qX4_readOne_50 ?_
          refine S_V2I hD qX4_readOne_51 lX4_58 vX4_readAnyOf r4 (c_anyR hh hB (one_inv r) (ih (dep + 1) (by omega)) (by omega) _ (hs.nx c43 (by omega))) (kk := fun z51 V51 h51 => ?_)
          obtain ⟨rfl, t51, rfl⟩ | ⟨rfl, t51, rfl⟩ := h51
          · refine S_if_eq (d := qX4_readOne_54) (kt := fun c => absurd c (by decide)) (kf := fun _ => ?_)
            refine S_al0 qX4_readOne_57 ?_
            refine S_bipush (d := qX4_readOne_58) (k := ?_)
            refine S_V1I hD qX4_readOne_60 lX4_31 vX4_takes r4 (c_takesS hh hB (any_inv (one_inv r) _ (hs.nx c43 (by omega))) (by omega)) (kk := fun z60 V60 h60 => ?_)
            obtain ⟨rfl, t60, u60, rfl⟩ | ⟨rfl, t60, rfl⟩ := h60
            · refine S_if_eq (d := qX4_readOne_63) (kt := fun c => absurd c (by decide)) (kf := fun _ => ?_)
              refine S_iconst qX4_readOne_66 ?_
              refine S_goto qX4_readOne_67 ?_
              refine S_zret hz qX4_readOne_71 (by omega) ?_
              refine ⟨_, rfl, ?_⟩
              rw [one_s, if_pos c43]
              unfold brS
              first
                | (rw [if_pos t51, if_pos t60]; exact Or.inl ⟨rfl, rfl, rfl⟩)
                | (rw [if_pos t51, if_neg t60]; exact Or.inr ⟨rfl, rfl, rfl⟩)
                | (rw [if_neg (by rw [t51]; exact Bool.false_ne_true)]; exact Or.inr ⟨rfl, rfl, rfl⟩)
            · refine S_if_eq (d := qX4_readOne_63) (kt := fun _ => ?_) (kf := fun c => absurd c (by decide))
              refine S_iconst qX4_readOne_70 ?_
              refine S_zret hz qX4_readOne_71 (by omega) ?_
              refine ⟨_, rfl, ?_⟩
              rw [one_s, if_pos c43]
              unfold brS
              first
                | (rw [if_pos t51, if_pos t60]; exact Or.inl ⟨rfl, rfl, rfl⟩)
                | (rw [if_pos t51, if_neg t60]; exact Or.inr ⟨rfl, rfl, rfl⟩)
                | (rw [if_neg (by rw [t51]; exact Bool.false_ne_true)]; exact Or.inr ⟨rfl, rfl, rfl⟩)
          · refine S_if_eq (d := qX4_readOne_54) (kt := fun _ => ?_) (kf := fun c => absurd c (by decide))
            refine S_iconst qX4_readOne_70 ?_
            refine S_zret hz qX4_readOne_71 (by omega) ?_
            refine ⟨_, rfl, ?_⟩
            rw [one_s, if_pos c43]
            unfold brS
            first
              | (rw [if_pos t51, if_pos t60]; exact Or.inl ⟨rfl, rfl, rfl⟩)
              | (rw [if_pos t51, if_neg t60]; exact Or.inr ⟨rfl, rfl, rfl⟩)
              | (rw [if_neg (by rw [t51]; exact Bool.false_ne_true)]; exact Or.inr ⟨rfl, rfl, rfl⟩)
      · refine S_al0 qX4_readOne_17 ?_
        refine S_al1 qX4_readOne_18 ?_
        refine S_V1I hD qX4_readOne_19 lX4_82 vX4_readTest r4 (c_readTestS hh hB hs) (kk := fun z19 V19 h19 => ?_)
        obtain ⟨rfl, t19, rfl⟩ | ⟨rfl, t19, rfl⟩ := h19
        · refine S_zret hz qX4_readOne_22 (by omega) ?_
          refine ⟨_, rfl, ?_⟩
          rw [one_s, if_neg (by omega), if_neg (by omega)]
          first | exact Or.inl ⟨rfl, t19, rfl⟩ | exact Or.inr ⟨rfl, t19, rfl⟩
        · refine S_zret hz qX4_readOne_22 (by omega) ?_
          refine ⟨_, rfl, ?_⟩
          rw [one_s, if_neg (by omega), if_neg (by omega)]
          first | exact Or.inl ⟨rfl, t19, rfl⟩ | exact Or.inr ⟨rfl, t19, rfl⟩
  
/-- a condition, read -/
def coS (T : Int → Int) (L : Int) (s : ST) : Bool × ST := anyS T L (oneS T L 4) s
theorem co_inv {T : Int → Int} {L : Int} (s : ST) (hs : RInv s) : RInv (coS T L s).2 := any_inv (one_inv 4) s hs
theorem c_cond {g : GC} {V : MM} {h : Nat} (hh : isH h) (hB : BInv V) : RdC g mX4_readAnyOf V h 0 20 (coS (V 5) (V 4 1)) := c_anyR hh hB (one_inv 4) (c_one hh hB 4 0 (by omega) (by omega)) (by omega)
