theorem lay_loop {g : GC} {X : CX} {Q : Option AV → MM → Prop} {f : Nat} {V : MM} {d p : Int} (hf : isF f) (rd : 0 ≤ d ∧ d < 6) (hz : Fi g X none Q) (hQ : Q none (upR V (f + 4) (layS (V (f + 4)) d p 8))) : ∀ (n : Nat) (b : Int), 0 ≤ b → b ≤ 8 → (8 - b).toNat < n → SW g X RX2 cX2_standAt 11 [some (vr f), some (vi d), some (vi p), some (vi b)] [] (upR V (f + 4) (layS (V (f + 4)) d p b)) := by
  intro n
  induction n with
  | zero => intro b _ _ h; omega
  | succ n ih =>
    intro b h0 h8 hn
    refine S_il3 qX2_standAt_11 ?_
    refine S_bipush (d := qX2_standAt_12) (k := ?_)
    refine S_icmp_ge (d := qX2_standAt_14) (kt := fun c14 => ?_) (kf := fun c14 => ?_)
    · refine S_vret hz qX2_standAt_35 ?_
      have hb : b = 8 := by omega
      subst hb
      exact hQ
    · refine S_al0 qX2_standAt_17 ?_
      refine S_getR qX2_standAt_18 fX2_21 (F_6 hf) ?_
      refine S_il1 qX2_standAt_21 ?_
      refine S_bipush (d := qX2_standAt_22) (k := ?_)
      refine S_imul qX2_standAt_24 ?_
      refine S_il3 qX2_standAt_25 ?_
      refine S_iadd qX2_standAt_26 ?_
      refine S_il2 qX2_standAt_27 ?_
      refine S_iast qX2_standAt_28 (Fa_4 hf) (K := ?_)
      refine S_inc3 qX2_standAt_29 (K := ?_)
      refine S_goto qX2_standAt_32 ?_
      refine SW.cast (ih (b + 1) (by omega) (by omega) (by omega)) ?_
      rw [upR_u, upR_s, layS_1 _ h0 (by omega)]
theorem c_standAt {g : GC} {f : Nat} {V : MM} {d p : Int} (hf : isF f) (rd : 0 ≤ d ∧ d < V f 0) (hn : V f 0 ≤ 6) : Ct g mX2_standAt 2 [vr f, vi d, vi p] V (RW (upR V (f + 4) (layS (V (f + 4)) d p 8))) := by
  refine Ct.of (ls := [some (vr f), some (vi d), some (vi p), none]) (plainFor_of_name (by decide +kernel)) rfl (by exact Nat.le_of_ble_eq_true rfl) (fun X hz hD => ?_)
  refine S_al0 qX2_standAt_0 ?_
  refine S_il1 qX2_standAt_1 ?_
  refine S_V1B hD qX2_standAt_2 lX2_52 vX2_has (F_r hf) (c_has hf (by omega) (by omega)) (kt := fun j2 => ?_) (kf := fun j2 => ?_)
  · refine S_if_ne (d := qX2_standAt_5) (kt := fun _ => ?_) (kf := fun c => absurd c (by decide))
    refine S_iconst qX2_standAt_9 ?_
    refine S_is3 qX2_standAt_10 (K := ?_)
    refine SW.cast (lay_loop hf (by omega) hz (RW.mk rfl) 9 0 (by omega) (by omega) (by omega)) ?_
    rw [layS_0, upR_id]
  · refine S_if_ne (d := qX2_standAt_5) (kt := fun c => absurd c (by decide)) (kf := fun _ => ?_)
    refine S_vret hz qX2_standAt_8 ?_
    exfalso; omega

theorem c_letterOf {g : GC} {f : Nat} {V : MM} {l d : Int} (hf : isF f) (rl : 0 ≤ l ∧ l ≤ 1000) (rd : 0 ≤ d ∧ d < 6) (rb : 0 ≤ V f 1 ∧ V f 1 ≤ 20000) : Ct g mX2_letterOf 1 [vr f, vi l, vi d] V (RE V (envS (fsC V f) d l)) := by
  refine Ct.of (ls := [some (vr f), some (vi l), some (vi d)]) (plainFor_of_name (by decide +kernel)) rfl (by exact Nat.le_of_ble_eq_true rfl) (fun X hz hD => ?_)
  refine S_il2 qX2_letterOf_0 ?_
  refine S_if_lt (d := qX2_letterOf_1) (kt := fun c1 => ?_) (kf := fun c1 => ?_)
  · refine S_iconst qX2_letterOf_10 ?_
    refine S_iret hz qX2_letterOf_11 ?_
    exfalso; omega
  · refine S_il2 qX2_letterOf_4 ?_
    refine S_bipush (d := qX2_letterOf_5) (k := ?_)
    refine S_icmp_lt (d := qX2_letterOf_7) (kt := fun c7 => ?_) (kf := fun c7 => ?_)
    · refine S_il1 qX2_letterOf_12 ?_
      by_cases s13_0 : l = 0
      · refine S_tabIn (tgt := 48) (off := 35) qX2_letterOf_13 (by omega) (by omega) (by rw [s13_0]; rfl) (by decide) ?_
        refine S_il2 qX2_letterOf_48 ?_
        refine S_iret hz qX2_letterOf_49 ?_
        refine RE.mk ?_
        simp only [envS, fsC]
        (repeat' split) <;> first | rfl | omega | (exfalso; omega) | exact congrArg _ (by omega)
      by_cases s13_1 : l = 1
      · refine S_tabIn (tgt := 50) (off := 37) qX2_letterOf_13 (by omega) (by omega) (by rw [s13_1]; rfl) (by decide) ?_
        refine S_al0 qX2_letterOf_50 ?_
        refine S_getR qX2_letterOf_51 fX2_9 (F_3 hf) ?_
        refine S_il2 qX2_letterOf_54 ?_
        refine S_iald qX2_letterOf_55 (Fa_1 hf) (K := ?_)
        refine S_iret hz qX2_letterOf_56 ?_
        refine RE.mk ?_
        simp only [envS, fsC]
        (repeat' split) <;> first | rfl | omega | (exfalso; omega) | exact congrArg _ (by omega)
      by_cases s13_2 : l = 2
      · refine S_tabIn (tgt := 57) (off := 44) qX2_letterOf_13 (by omega) (by omega) (by rw [s13_2]; rfl) (by decide) ?_
        refine S_al0 qX2_letterOf_57 ?_
        refine S_getR qX2_letterOf_58 fX2_15 (F_4 hf) ?_
        refine S_il2 qX2_letterOf_61 ?_
        refine S_iald qX2_letterOf_62 (Fa_2 hf) (K := ?_)
        refine S_iret hz qX2_letterOf_63 ?_
        refine RE.mk ?_
        simp only [envS, fsC]
        (repeat' split) <;> first | rfl | omega | (exfalso; omega) | exact congrArg _ (by omega)
      by_cases s13_3 : l = 3
      · refine S_tabIn (tgt := 64) (off := 51) qX2_letterOf_13 (by omega) (by omega) (by rw [s13_3]; rfl) (by decide) ?_
        refine S_al0 qX2_letterOf_64 ?_
        refine S_getR qX2_letterOf_65 fX2_21 (F_6 hf) ?_
        refine S_il2 qX2_letterOf_68 ?_
        refine S_bipush (d := qX2_letterOf_69) (k := ?_)
        refine S_imul qX2_letterOf_71 ?_
        refine S_iald qX2_letterOf_72 (Fa_4 hf) (K := ?_)
        refine S_iret hz qX2_letterOf_73 ?_
        refine RE.mk ?_
        simp only [envS, fsC]
        (repeat' split) <;> first | rfl | omega | (exfalso; omega) | exact congrArg _ (by omega)
      by_cases s13_4 : l = 4
      · refine S_tabIn (tgt := 74) (off := 61) qX2_letterOf_13 (by omega) (by omega) (by rw [s13_4]; rfl) (by decide) ?_
        refine S_al0 qX2_letterOf_74 ?_
        refine S_getR qX2_letterOf_75 fX2_18 (F_5 hf) ?_
        refine S_il2 qX2_letterOf_78 ?_
        refine S_iald qX2_letterOf_79 (Fa_3 hf) (K := ?_)
        refine S_iret hz qX2_letterOf_80 ?_
        refine RE.mk ?_
        simp only [envS, fsC]
        (repeat' split) <;> first | rfl | omega | (exfalso; omega) | exact congrArg _ (by omega)
      refine S_tabOut (tgt := 81) qX2_letterOf_13 (by omega) (by omega) (by decide) ?_
      refine S_al0 qX2_letterOf_81 ?_
      refine S_getI qX2_letterOf_82 fX2_38 (F_1 hf) ?_
      refine S_bipush (d := qX2_letterOf_85) (k := ?_)
      refine S_irem (d := qX2_letterOf_87) (k := ?_)
      refine S_iret hz qX2_letterOf_88 ?_
      refine RE.mk ?_
      simp only [envS, fsC]
      (repeat' split) <;> first | rfl | omega | (exfalso; omega) | exact congrArg _ (by omega)
    · refine S_iconst qX2_letterOf_10 ?_
      refine S_iret hz qX2_letterOf_11 ?_
      exfalso; omega

theorem c_passes {g : GC} {f : Nat} {V : MM} {c d : Int} (hf : isF f) (rc : 0 ≤ c ∧ c ≤ 1799) (rd : 0 ≤ d ∧ d < 6) (rb : 0 ≤ V f 1 ∧ V f 1 ≤ 20000) (re : ∀ l, 0 ≤ envS (fsC V f) d l ∧ envS (fsC V f) d l ≤ 99) : Ct g mX3_passes 2 [vi c, vr f, vi d] V (RB V (tstC c (fsC V f) d = true)) := by
  refine Ct.of (ls := [some (vi c), some (vr f), some (vi d), none, none, none]) (plainFor_of_name (by decide +kernel)) rfl (by exact Nat.le_of_ble_eq_true rfl) (fun X hz hD => ?_)
  have re2 := re (c / 100 / 3)
  refine S_il0 qX3_passes_0 ?_
  refine S_bipush (d := qX3_passes_1) (k := ?_)
  refine S_irem (d := qX3_passes_3) (k := ?_)
  refine S_is3 qX3_passes_4 (K := ?_)
  refine S_il0 qX3_passes_5 ?_
  refine S_bipush (d := qX3_passes_6) (k := ?_)
  refine S_idiv (d := qX3_passes_8) (k := ?_)
  refine S_iconst qX3_passes_9 ?_
  refine S_irem (d := qX3_passes_10) (k := ?_)
  refine S_is4 qX3_passes_11 (K := ?_)
  refine S_al1 qX3_passes_13 ?_
  refine S_il0 qX3_passes_14 ?_
  refine S_bipush (d := qX3_passes_15) (k := ?_)
  refine S_idiv (d := qX3_passes_17) (k := ?_)
  refine S_iconst qX3_passes_18 ?_
  refine S_idiv (d := qX3_passes_19) (k := ?_)
  refine S_il2 qX3_passes_20 ?_
  refine S_V2E hD qX3_passes_21 lX3_55 vX2_letterOf (F_r hf) (c_letterOf hf (by omega) (by omega) (by omega)) (K := ?_)
  refine S_is5 qX3_passes_24 (K := ?_)
  refine S_il4 qX3_passes_26 ?_
  refine S_if_ne (d := qX3_passes_28) (kt := fun c28 => ?_) (kf := fun c28 => ?_)
  · refine S_il4 qX3_passes_43 ?_
    refine S_iconst qX3_passes_45 ?_
    refine S_icmp_ne (d := qX3_passes_46) (kt := fun c46 => ?_) (kf := fun c46 => ?_)
    · refine S_il5 qX3_passes_61 ?_
      refine S_il3 qX3_passes_63 ?_
      refine S_icmp_le (d := qX3_passes_64) (kt := fun c64 => ?_) (kf := fun c64 => ?_)
      · refine S_iconst qX3_passes_71 ?_
        refine S_zret hz qX3_passes_72 (by omega) ?_
        refine RB.mk ?_
        simp only [tstC, cmpB]
        (repeat' split) <;> simp only [decide_eq_true_eq, true_and] <;> omega
      · refine S_iconst qX3_passes_67 ?_
        refine S_goto qX3_passes_68 ?_
        refine S_zret hz qX3_passes_72 (by omega) ?_
        refine RB.mk ?_
        simp only [tstC, cmpB]
        (repeat' split) <;> simp only [decide_eq_true_eq, true_and] <;> omega
    · refine S_il5 qX3_passes_49 ?_
      refine S_il3 qX3_passes_51 ?_
      refine S_icmp_ne (d := qX3_passes_52) (kt := fun c52 => ?_) (kf := fun c52 => ?_)
      · refine S_iconst qX3_passes_59 ?_
        refine S_zret hz qX3_passes_60 (by omega) ?_
        refine RB.mk ?_
        simp only [tstC, cmpB]
        (repeat' split) <;> simp only [decide_eq_true_eq, true_and] <;> omega
      · refine S_iconst qX3_passes_55 ?_
        refine S_goto qX3_passes_56 ?_
        refine S_zret hz qX3_passes_60 (by omega) ?_
        refine RB.mk ?_
        simp only [tstC, cmpB]
        (repeat' split) <;> simp only [decide_eq_true_eq, true_and] <;> omega
  · refine S_il5 qX3_passes_31 ?_
    refine S_il3 qX3_passes_33 ?_
    refine S_icmp_ge (d := qX3_passes_34) (kt := fun c34 => ?_) (kf := fun c34 => ?_)
    · refine S_iconst qX3_passes_41 ?_
      refine S_zret hz qX3_passes_42 (by omega) ?_
      refine RB.mk ?_
      simp only [tstC, cmpB]
      (repeat' split) <;> simp only [decide_eq_true_eq, true_and] <;> omega
    · refine S_iconst qX3_passes_37 ?_
      refine S_goto qX3_passes_38 ?_
      refine S_zret hz qX3_passes_42 (by omega) ?_
      refine RB.mk ?_
      simp only [tstC, cmpB]
      (repeat' split) <;> simp only [decide_eq_true_eq, true_and] <;> omega
