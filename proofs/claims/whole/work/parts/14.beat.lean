def nxL (hs : HS) (stop : Bool) (s : FS) (r : Int → Int) (d : Int) : Int → Int := fun i => if 0 ≤ i ∧ i < d then nxS hs stop s i else r i
def waL (N was : Int → Int) (d : Int) : Int → Int := fun i => if 0 ≤ i ∧ i < 8 * d then (if i % 8 = 0 then N (i / 8) else was (i - 1)) else was i
theorem nxL_1 (hs : HS) (stop : Bool) (s : FS) (r : Int → Int) {d : Int} (h : 0 ≤ d) : ur (nxL hs stop s r d) d (nxS hs stop s d) = nxL hs stop s r (d + 1) := by
  funext i
  unfold ur nxL
  by_cases h1 : i = d
  · subst h1; rw [if_pos rfl, if_pos (by omega)]
  · rw [if_neg h1]
    by_cases h2 : 0 ≤ i ∧ i < d
    · rw [if_pos h2, if_pos (by omega)]
    · rw [if_neg h2, if_neg (by omega)]
theorem waL_1 (N was : Int → Int) {d j : Int} (h : 0 ≤ d) (hj : j = 8 * d) : ur (cpS (waL N was d) (waL N was d) j (j + 1) 7) j (N d) = waL N was (d + 1) := by
  funext i
  subst hj
  unfold ur cpS waL
  by_cases h1 : i = 8 * d
  · rw [if_pos h1, if_pos (by omega), if_pos (by omega)]
    exact congrArg N (by omega)
  · rw [if_neg h1]
    by_cases h2 : 8 * d + 1 ≤ i ∧ i < 8 * d + 1 + 7
    · rw [if_pos h2, if_neg (by omega), if_pos (by omega), if_neg (by omega)]
      exact congrArg was (by omega)
    · rw [if_neg h2]
      by_cases h3 : 0 ≤ i ∧ i < 8 * d
      · rw [if_pos h3, if_pos (show 0 ≤ i ∧ i < 8 * (d + 1) by omega)]
      · rw [if_neg h3, if_neg (by omega)]
/-- the memory behind a beat of the floor at f -/
def gbM (V : MM) (f : Nat) (hs : HS) (stop : Bool) (s : FS) : MM := upR (upR (upR V (f + 6) (nxL hs stop s (V (f + 6)) s.1)) (f + 4) (wasS hs stop s)) f (ur (V f) 1 (V f 1 + 1))

theorem goBeat_l2 {g : GC} {X : CX} {Q : Option AV → MM → Prop} {f : Nat} {V : MM} {hs : HS} {s : FS} {stop : Bool} {sb al : Int} (hF : FlC V f hs s) (hz : Fi g X none Q) (hD : Dp X 6) (hQ : Q none (gbM V f hs stop s)) : ∀ (n : Nat) (d : Int) (V1 : MM), 0 ≤ d → d + n = s.1 → V1 = upR (upR V (f + 6) (nxL hs stop s (V (f + 6)) s.1)) (f + 4) (waL (nxL hs stop s (V (f + 6)) s.1) (V (f + 4)) d) → SW g X RX2 cX2_goBeat 66 [some (vr f), some (vi sb), some (vi al), some (vi d), none] [] V1 := by
  have hf := hF.1
  have hfb := isF_b hf
  have hs1 : s.1 = V f 0 := by rw [hF.2.1]
  have hs4 : s.2.2.2.2.2.1 = V (f + 4) := by rw [hF.2.1]
  have hn := hF.2.2.2.2.1
  have hb := hF.2.2.2.2.2.1
  have hs2 : s.2.1 = V f 1 := by rw [hF.2.1]
  intro n
  induction n with
  | zero =>
    intro d V1 h0 h1 hV
    have e0 : V1 f = V f := by rw [hV, upR_n _ (by omega), upR_n _ (by omega)]
    have e1 := congrFun e0 0
    have e2 := congrFun e0 1
    refine S_il3 qX2_goBeat_66 ?_
    refine S_al0 qX2_goBeat_67 ?_
    refine S_getI qX2_goBeat_68 fX2_34 (F_0 hf) ?_
    refine S_icmp_ge (d := qX2_goBeat_71) (kt := fun c71 => ?_) (kf := fun c71 => ?_)
    rotate_left
    · omega
    refine S_al0 qX2_goBeat_118 ?_
    refine S_dup (d := qX2_goBeat_119) (k := ?_)
    refine S_getI qX2_goBeat_120 fX2_38 (F_1 hf) ?_
    refine S_iconst qX2_goBeat_123 ?_
    refine S_iadd qX2_goBeat_124 ?_
    refine S_putI qX2_goBeat_125 fX2_38 (F_1 hf) tX2_1 ?_
    refine S_vret hz qX2_goBeat_128 ?_
    have hd : d = s.1 := by omega
    subst hd
    have e : upR V1 f (ur (V1 f) 1 (V1 f 1 + 1)) = gbM V f hs stop s := by
      rw [e0, hV]
      unfold gbM
      congr 2
      funext i
      rw [was_in, hs4]
      unfold waL
      by_cases h3 : 0 ≤ i ∧ i < 8 * s.1
      · rw [if_pos h3, if_pos h3]
        by_cases h4 : i % 8 = 0
        · rw [if_pos h4, if_pos h4]
          unfold nxL
          rw [if_pos (by omega)]
        · rw [if_neg h4, if_neg h4]
      · rw [if_neg h3, if_neg h3]
    rw [e]
    exact hQ
  | succ n ih =>
    intro d V1 h0 h1 hV
    have e0 : V1 f = V f := by rw [hV, upR_n _ (by omega), upR_n _ (by omega)]
    have e1 := congrFun e0 0
    have e6 : V1 (f + 6) = nxL hs stop s (V (f + 6)) s.1 := by rw [hV, upR_n _ (by omega), upR_s]
    have e4 : V1 (f + 4) = waL (nxL hs stop s (V (f + 6)) s.1) (V (f + 4)) d := by rw [hV, upR_s]
    refine S_il3 qX2_goBeat_66 ?_
    refine S_al0 qX2_goBeat_67 ?_
    refine S_getI qX2_goBeat_68 fX2_34 (F_0 hf) ?_
    refine S_icmp_ge (d := qX2_goBeat_71) (kt := fun c71 => ?_) (kf := fun c71 => ?_)
    · omega
    refine S_il3 qX2_goBeat_74 ?_
    refine S_bipush (d := qX2_goBeat_75) (k := ?_)
    refine S_imul qX2_goBeat_77 ?_
    refine S_is4 qX2_goBeat_78 (K := ?_)
    refine S_al0 qX2_goBeat_80 ?_
    refine S_getR qX2_goBeat_81 fX2_21 (F_6 hf) ?_
    refine S_il4 qX2_goBeat_84 ?_
    refine S_al0 qX2_goBeat_86 ?_
    refine S_getR qX2_goBeat_87 fX2_21 (F_6 hf) ?_
    refine S_il4 qX2_goBeat_90 ?_
    refine S_iconst qX2_goBeat_92 ?_
    refine S_iadd qX2_goBeat_93 ?_
    refine S_bipush (d := qX2_goBeat_94) (k := ?_)
    refine S_copyI hD qX2_goBeat_96 cp_X2_41 (Fa_4 hf) (Fa_4 hf) (K := ?_)
    refine S_al0 qX2_goBeat_99 ?_
    refine S_getR qX2_goBeat_100 fX2_21 (F_6 hf) ?_
    refine S_il4 qX2_goBeat_103 ?_
    refine S_al0 qX2_goBeat_105 ?_
    refine S_getR qX2_goBeat_106 fX2_27 (F_8 hf) ?_
    refine S_il3 qX2_goBeat_109 ?_
    refine S_iald qX2_goBeat_110 (Fa_6 hf) (K := ?_)
    refine S_iast qX2_goBeat_111 (Fa_4 hf) (K := ?_)
    refine S_inc3 qX2_goBeat_112 (K := ?_)
    refine S_goto qX2_goBeat_115 ?_
    refine SW.forget 4 (ih (d + 1) _ (by omega) (by omega) ?_)
    rw [upR_u, upR_s, upR_n _ (by omega), e4, e6, waL_1 _ _ h0 (by omega), hV, upR_u]
theorem goBeat_l1 {g : GC} {X : CX} {Q : Option AV → MM → Prop} {f : Nat} {V : MM} {hs : HS} {s : FS} {stop : Bool} {sb : Int} (hF : FlC V f hs s) (hz : Fi g X none Q) (hD : Dp X 6) (hQ : Q none (gbM V f hs stop s)) : ∀ (n : Nat) (d : Int) (V1 : MM), 0 ≤ d → d + n = s.1 → V1 = upR V (f + 6) (nxL hs stop s (V (f + 6)) d) → SW g X RX2 cX2_goBeat 26 [some (vr f), some (vi sb), some (vi (b2i (stop || stopS hs s))), some (vi d), none] [] V1 := by
  have hf := hF.1
  have hfb := isF_b hf
  have hs1 : s.1 = V f 0 := by rw [hF.2.1]
  have hs4 : s.2.2.2.2.2.1 = V (f + 4) := by rw [hF.2.1]
  have hn := hF.2.2.2.2.1
  intro n
  induction n with
  | zero =>
    intro d V1 h0 h1 hV
    have e0 : V1 f = V f := by rw [hV, upR_n _ (by omega)]
    have e1 := congrFun e0 0
    have hd : d = s.1 := by omega
    refine S_il3 qX2_goBeat_26 ?_
    refine S_al0 qX2_goBeat_27 ?_
    refine S_getI qX2_goBeat_28 fX2_34 (F_0 hf) ?_
    refine S_icmp_ge (d := qX2_goBeat_31) (kt := fun c31 => ?_) (kf := fun c31 => ?_)
    rotate_left
    · omega
    refine S_iconst qX2_goBeat_64 ?_
    refine S_is3 qX2_goBeat_65 (K := ?_)
    refine goBeat_l2 (stop := stop) hF hz hD hQ s.1.toNat 0 V1 (by omega) (by omega) ?_
    rw [hV, hd]
    have e : waL (nxL hs stop s (V (f + 6)) s.1) (V (f + 4)) 0 = V (f + 4) := by
      funext i
      unfold waL
      rw [if_neg (by omega)]
    rw [e, ← upR_n (V := V) (a := f + 6) (k := f + 4) (nxL hs stop s (V (f + 6)) s.1) (by omega), upR_id]
  | succ n ih =>
    intro d V1 h0 h1 hV
    have e0 : V1 f = V f := by rw [hV, upR_n _ (by omega)]
    have e1 := congrFun e0 0
    have e4 : V1 (f + 4) = V (f + 4) := by rw [hV, upR_n _ (by omega)]
    have e6 : V1 (f + 6) = nxL hs stop s (V (f + 6)) d := by rw [hV, upR_s]
    have hF1 : FlC V1 f hs s := hF.cong (fun k h1 h2 => by rw [hV, upR_n _ (by omega)]) (fun k h1 h2 => by rw [hV, upR_n _ (by omega)])
    have hc : nxS hs stop s d = (if stop || stopS hs s then V1 (f + 4) (8 * d) else goesS hs s d) := by rw [e4, ← hs4]; rfl
    have hb : b2i (stop || stopS hs s) = 0 ∨ b2i (stop || stopS hs s) = 1 := by cases stop || stopS hs s <;> simp [b2i]
    refine S_il3 qX2_goBeat_26 ?_
    refine S_al0 qX2_goBeat_27 ?_
    refine S_getI qX2_goBeat_28 fX2_34 (F_0 hf) ?_
    refine S_icmp_ge (d := qX2_goBeat_31) (kt := fun c31 => ?_) (kf := fun c31 => ?_)
    · omega
    refine S_al0 qX2_goBeat_34 ?_
    refine S_getR qX2_goBeat_35 fX2_27 (F_8 hf) ?_
    refine S_il3 qX2_goBeat_38 ?_
    refine S_il2 qX2_goBeat_39 ?_
    refine S_if_eq (d := qX2_goBeat_40) (kt := fun c40 => ?_) (kf := fun c40 => ?_)
    · refine S_al0 qX2_goBeat_52 ?_
      refine S_il3 qX2_goBeat_53 ?_
      refine S_V1E hD qX2_goBeat_54 lX2_77 vX2_goesOf (F_r hf) (c_goesOf hF1 (by omega)) (K := ?_)
      refine S_iast qX2_goBeat_57 (Fa_6 hf) (K := ?_)
      refine S_inc3 qX2_goBeat_58 (K := ?_)
      refine S_goto qX2_goBeat_61 ?_
      refine ih (d + 1) _ (by omega) (by omega) ?_
      have hx : (stop || stopS hs s) = true ∨ (stop || stopS hs s) = false := by cases stop || stopS hs s <;> simp
      rcases hx with hx | hx
      · first
          | (rw [if_pos hx] at hc; rw [e6, ← hc, nxL_1 _ _ _ _ h0, hV, upR_u]; done)
          | (exfalso; rw [hx] at c40; simp [b2i] at c40; done)
      · first
          | (rw [if_neg (by rw [hx]; decide)] at hc; rw [e6, ← hc, nxL_1 _ _ _ _ h0, hV, upR_u]; done)
          | (exfalso; rw [hx] at c40; simp [b2i] at c40; done)
    · refine S_al0 qX2_goBeat_43 ?_
      refine S_il3 qX2_goBeat_44 ?_
      refine S_iconst qX2_goBeat_45 ?_
      refine S_V2E hD qX2_goBeat_46 lX2_68 vX2_wasOf (F_r hf) (c_was0 hf (by omega) (by omega)) (K := ?_)
      refine S_goto qX2_goBeat_49 ?_
      refine S_iast qX2_goBeat_57 (Fa_6 hf) (K := ?_)
      refine S_inc3 qX2_goBeat_58 (K := ?_)
      refine S_goto qX2_goBeat_61 ?_
      refine ih (d + 1) _ (by omega) (by omega) ?_
      have hx : (stop || stopS hs s) = true ∨ (stop || stopS hs s) = false := by cases stop || stopS hs s <;> simp
      rcases hx with hx | hx
      · first
          | (rw [if_pos hx] at hc; rw [e6, ← hc, nxL_1 _ _ _ _ h0, hV, upR_u]; done)
          | (exfalso; rw [hx] at c40; simp [b2i] at c40; done)
      · first
          | (rw [if_neg (by rw [hx]; decide)] at hc; rw [e6, ← hc, nxL_1 _ _ _ _ h0, hV, upR_u]; done)
          | (exfalso; rw [hx] at c40; simp [b2i] at c40; done)
theorem c_goBeatM {g : GC} {f : Nat} {V : MM} {hs : HS} {s : FS} {stop : Bool} (hF : FlC V f hs s) (hb : s.2.1 < 20000) : Ct g mX2_goBeat 6 [vr f, vi (b2i stop)] V (RW (gbM V f hs stop s)) := by
  refine Ct.of (ls := [some (vr f), some (vi (b2i stop)), none, none, none]) (plainFor_of_name (by decide +kernel)) rfl (by exact Nat.le_of_ble_eq_true rfl) (fun X hz hD => ?_)
  have hf := hF.1
  have hs1 : s.1 = V f 0 := by rw [hF.2.1]
  have hs2 : s.2.1 = V f 1 := by rw [hF.2.1]
  have hn := hF.2.2.2.2.1
  have hb0 := hF.2.2.2.2.2.1
  have hH := hF.2.2.1.1
  have hh := hH.1
  have ehs := hF.2.2.1.2
  have hbb : b2i stop = 0 ∨ b2i stop = 1 := by cases stop <;> simp [b2i]
  refine S_il1 qX2_goBeat_0 ?_
  refine S_if_ne (d := qX2_goBeat_1) (kt := fun c1 => ?_) (kf := fun c1 => ?_)
  · refine S_iconst qX2_goBeat_18 ?_
    refine S_goto qX2_goBeat_19 ?_
    refine S_is2 qX2_goBeat_23 (K := ?_)
    refine S_iconst qX2_goBeat_24 ?_
    refine S_is3 qX2_goBeat_25 (K := ?_)
    have ea : ∀ z : Int, z = b2i (stop || stopS hs s) → SW g X RX2 cX2_goBeat 26 [some (vr f), some (vi (b2i stop)), some (vi z), some (vi 0), none] [] V := fun z hz2 => by
      rw [hz2]
      refine goBeat_l1 hF hz hD (RW.mk rfl) s.1.toNat 0 V (by omega) (by omega) ?_
      have e : nxL hs stop s (V (f + 6)) 0 = V (f + 6) := by
        funext i
        unfold nxL
        rw [if_neg (by omega)]
      rw [e, upR_id]
    refine ea _ ?_
    first
      | (have hst : stop = true := by cases stop <;> simp_all [b2i]
         rw [hst]; rfl)
      | (have hst : stop = false := by cases stop <;> simp_all [b2i]
         have j2 : stopS hs s = true := stop_j.mpr (by rw [ehs, hs2]; exact j12)
         rw [hst, j2]; rfl)
      | (have hst : stop = false := by cases stop <;> simp_all [b2i]
         have j2 : stopS hs s = false := by
           cases hq : stopS hs s
           · rfl
           · have := stop_j.mp hq
             rw [ehs, hs2] at this
             exact absurd this j12
         rw [hst, j2]; rfl)
  · refine S_al0 qX2_goBeat_4 ?_
    refine S_getH qX2_goBeat_5 fX2_30 (F_2 hf) ?_
    refine S_al0 qX2_goBeat_8 ?_
    refine S_getI qX2_goBeat_9 fX2_38 (F_1 hf) ?_
    refine S_V1B hD qX2_goBeat_12 lX2_74 vX3_stopsAfter (H_r hh) (c_stopsAfter hH (by omega)) (kt := fun j12 => ?_) (kf := fun j12 => ?_)
    · refine S_if_eq (d := qX2_goBeat_15) (kt := fun c => absurd c (by decide)) (kf := fun _ => ?_)
      refine S_iconst qX2_goBeat_18 ?_
      refine S_goto qX2_goBeat_19 ?_
      refine S_is2 qX2_goBeat_23 (K := ?_)
      refine S_iconst qX2_goBeat_24 ?_
      refine S_is3 qX2_goBeat_25 (K := ?_)
      have ea : ∀ z : Int, z = b2i (stop || stopS hs s) → SW g X RX2 cX2_goBeat 26 [some (vr f), some (vi (b2i stop)), some (vi z), some (vi 0), none] [] V := fun z hz2 => by
        rw [hz2]
        refine goBeat_l1 hF hz hD (RW.mk rfl) s.1.toNat 0 V (by omega) (by omega) ?_
        have e : nxL hs stop s (V (f + 6)) 0 = V (f + 6) := by
          funext i
          unfold nxL
          rw [if_neg (by omega)]
        rw [e, upR_id]
      refine ea _ ?_
      first
        | (have hst : stop = true := by cases stop <;> simp_all [b2i]
           rw [hst]; rfl)
        | (have hst : stop = false := by cases stop <;> simp_all [b2i]
           have j2 : stopS hs s = true := stop_j.mpr (by rw [ehs, hs2]; exact j12)
           rw [hst, j2]; rfl)
        | (have hst : stop = false := by cases stop <;> simp_all [b2i]
           have j2 : stopS hs s = false := by
             cases hq : stopS hs s
             · rfl
             · have := stop_j.mp hq
               rw [ehs, hs2] at this
               exact absurd this j12
           rw [hst, j2]; rfl)
    · refine S_if_eq (d := qX2_goBeat_15) (kt := fun _ => ?_) (kf := fun c => absurd c (by decide))
      refine S_iconst qX2_goBeat_22 ?_
      refine S_is2 qX2_goBeat_23 (K := ?_)
      refine S_iconst qX2_goBeat_24 ?_
      refine S_is3 qX2_goBeat_25 (K := ?_)
      have ea : ∀ z : Int, z = b2i (stop || stopS hs s) → SW g X RX2 cX2_goBeat 26 [some (vr f), some (vi (b2i stop)), some (vi z), some (vi 0), none] [] V := fun z hz2 => by
        rw [hz2]
        refine goBeat_l1 hF hz hD (RW.mk rfl) s.1.toNat 0 V (by omega) (by omega) ?_
        have e : nxL hs stop s (V (f + 6)) 0 = V (f + 6) := by
          funext i
          unfold nxL
          rw [if_neg (by omega)]
        rw [e, upR_id]
      refine ea _ ?_
      first
        | (have hst : stop = true := by cases stop <;> simp_all [b2i]
           rw [hst]; rfl)
        | (have hst : stop = false := by cases stop <;> simp_all [b2i]
           have j2 : stopS hs s = true := stop_j.mpr (by rw [ehs, hs2]; exact j12)
           rw [hst, j2]; rfl)
        | (have hst : stop = false := by cases stop <;> simp_all [b2i]
           have j2 : stopS hs s = false := by
             cases hq : stopS hs s
             · rfl
             · have := stop_j.mp hq
               rw [ehs, hs2] at this
               exact absurd this j12
           rw [hst, j2]; rfl)

theorem gbM_at {V : MM} {f : Nat} {hs : HS} {s : FS} (stop : Bool) (hF : FlC V f hs s) (hb : s.2.1 < 20000) : FlC (gbM V f hs stop s) f hs (goS hs stop s) ∧ Sm V (gbM V f hs stop s) f 7 ∧ gbM V f hs stop s f 2 = V f 2 := by
  obtain ⟨hf, rfl, hH, h0, hI⟩ := hF
  have hfb := isF_b hf
  have a0 : gbM V f hs stop (fsC V f) f = ur (V f) 1 (V f 1 + 1) := by unfold gbM; rw [upR_s]
  have a2 : gbM V f hs stop (fsC V f) f 2 = V f 2 := by rw [a0, ur_n _ (by omega)]
  have a4 : gbM V f hs stop (fsC V f) (f + 4) = wasS hs stop (fsC V f) := by unfold gbM; rw [upR_n _ (by omega), upR_s]
  have ak : ∀ k : Nat, k ≠ f → k ≠ f + 4 → k ≠ f + 6 → gbM V f hs stop (fsC V f) k = V k := fun k h1 h2 h3 => by unfold gbM; rw [upR_n _ h1, upR_n _ h2, upR_n _ h3]
  refine ⟨⟨hf, ?_, ?_, by rw [a2]; exact h0, go_inv stop hI (by rw [hH.2]; exact hH.1.2.1.1) hb⟩, fun k hk => ak k (by omega) (by omega) (by omega), a2⟩
  · show goS hs stop (fsC V f) = (gbM V f hs stop (fsC V f) f 0, gbM V f hs stop (fsC V f) f 1, gbM V f hs stop (fsC V f) (f + 1), gbM V f hs stop (fsC V f) (f + 2), gbM V f hs stop (fsC V f) (f + 3), gbM V f hs stop (fsC V f) (f + 4), gbM V f hs stop (fsC V f) (f + 5))
    rw [a0, a4, ak (f + 1) (by omega) (by omega) (by omega), ak (f + 2) (by omega) (by omega) (by omega), ak (f + 3) (by omega) (by omega) (by omega), ak (f + 5) (by omega) (by omega) (by omega), ur_s, ur_n _ (by omega)]
    rfl
  · rw [a2]
    exact HlC_cong hH (fun k h1 h2 => ak k (by omega) (by omega) (by omega))
theorem c_goBeat {g : GC} {f : Nat} {V : MM} {hs : HS} {s : FS} (stop : Bool) (hF : FlC V f hs s) (hb : s.2.1 < 20000) : Ct g mX2_goBeat 6 [vr f, vi (b2i stop)] V (RV (fun V' => FlC V' f hs (goS hs stop s) ∧ Sm V V' f 7 ∧ V' f 2 = V f 2)) :=
  (c_goBeatM hF hb).mono (fun r V' h => by
    obtain ⟨rfl, rfl⟩ := h
    exact ⟨rfl, gbM_at stop hF hb⟩)
