theorem MAg.at {V : MM} {Z : ZT} (h : MAg V Z) {t : Int} (ht : 0 ≤ t ∧ t < 6) : V 122 t = tpS Z t ∧ V 123 t = tpN Z t ∧ (∀ j : Int, 0 ≤ j ∧ j < 60 → V 124 (60 * t + j) = tpR Z t j) ∧ (-1 ≤ tpS Z t ∧ tpS Z t ≤ 4) ∧ (0 ≤ tpN Z t ∧ tpN Z t ≤ 60) ∧ (tpS Z t = -1 → tpN Z t = 0) := by
  have h1 := h t.toNat (by omega)
  rw [show ((t.toNat : Nat) : Int) = t by omega] at h1
  exact ⟨h1.1.1, h1.1.2.1, h1.1.2.2, h1.2⟩
/-- a tape has become another -/
theorem MA.tp {V V' : MM} {Z : ZT} {t : Int} {x : Int × Int × (Int → Int)} (hZ : MA V Z) (ht : 0 ≤ t ∧ t < 6) (hS : ∀ k : Nat, k ≠ 122 → k ≠ 123 → k ≠ 124 → k ≠ 125 → V' k = V k) (h2 : ∀ i : Int, i ≠ t → V' 122 i = V 122 i ∧ V' 123 i = V 123 i) (h4 : ∀ i : Int, i < 60 * t ∨ 60 * t + 60 ≤ i → V' 124 i = V 124 i) (e0 : V' 122 t = x.1) (e1 : V' 123 t = x.2.1) (e2 : ∀ j : Int, 0 ≤ j ∧ j < 60 → V' 124 (60 * t + j) = x.2.2 j) (rx : (-1 ≤ x.1 ∧ x.1 ≤ 4) ∧ (0 ≤ x.2.1 ∧ x.2.1 ≤ 60) ∧ (x.1 = -1 → x.2.1 = 0)) : MA V' (tpZ Z t x) := by
  obtain ⟨g1, g2, g3, g4, g5, g6, g7, g8⟩ := hZ
  have s83 := hS 83 (by omega) (by omega) (by omega) (by omega)
  refine ⟨⟨g1.1.mk3 (fun k a b => hS k (by omega) (by omega) (by omega) (by omega)) (by rw [s83]) ?_ g1.1.2.2.2, g1.2⟩, MAh_c g2 (by rw [s83]) (by rw [s83]) rfl, MAt_c g3 (by rw [s83]) (hS 89 (by omega) (by omega) (by omega) (by omega)) rfl, MAn_c g4 (fun k a b => hS k (by omega) (by omega) (by omega) (by omega)) (by rw [s83]) (by rw [s83]) (by rw [s83]) (Int.le_refl _) rfl, MAi_c g5 (fun k a => hS k (by omega) (by omega) (by omega) (by omega)) (fun j a => by rw [s83]) rfl rfl, MAr_c g6 (by rw [s83]) (hS 121 (by omega) (by omega) (by omega) (by omega)) rfl, fun i hi => ?_, MAl_c g8 (hS 97 (by omega) (by omega) (by omega) (by omega))⟩
  · show Z.1 = (V' 83 0, V' 83 1, V' 84, V' 85, V' 86, V' 88, V' 87)
    rw [s83, hS 84 (by omega) (by omega) (by omega) (by omega), hS 85 (by omega) (by omega) (by omega) (by omega), hS 86 (by omega) (by omega) (by omega) (by omega), hS 88 (by omega) (by omega) (by omega) (by omega), hS 87 (by omega) (by omega) (by omega) (by omega)]
    exact g1.1.1
  · have g := g7 i hi
    unfold tpS tpN tpR at g ⊢
    show (V' 122 i = (if (i : Int) = t then x else Z.2.2.2.2.2.2.2 i).1 ∧ V' 123 i = (if (i : Int) = t then x else Z.2.2.2.2.2.2.2 i).2.1 ∧ ∀ j : Int, 0 ≤ j ∧ j < 60 → V' 124 (60 * i + j) = (if (i : Int) = t then x else Z.2.2.2.2.2.2.2 i).2.2 j) ∧ (-1 ≤ (if (i : Int) = t then x else Z.2.2.2.2.2.2.2 i).1 ∧ (if (i : Int) = t then x else Z.2.2.2.2.2.2.2 i).1 ≤ 4) ∧ (0 ≤ (if (i : Int) = t then x else Z.2.2.2.2.2.2.2 i).2.1 ∧ (if (i : Int) = t then x else Z.2.2.2.2.2.2.2 i).2.1 ≤ 60) ∧ ((if (i : Int) = t then x else Z.2.2.2.2.2.2.2 i).1 = -1 → (if (i : Int) = t then x else Z.2.2.2.2.2.2.2 i).2.1 = 0)
    by_cases e : (i : Int) = t
    · rw [if_pos e, e]
      exact ⟨⟨e0, e1, e2⟩, rx⟩
    · rw [if_neg e, (h2 i e).1, (h2 i e).2]
      refine ⟨⟨g.1.1, g.1.2.1, fun j hj => ?_⟩, g.2⟩
      rw [h4 _ (by omega)]
      exact g.1.2.2 j hj
theorem cps_0 (f h : Int → Int) (sp dp : Int) : cpS f h sp dp 0 = h := by
  funext i
  unfold cpS
  rw [if_neg (by omega)]
theorem cps_1 (f h : Int → Int) {sp dp n j x : Int} (hn : 0 ≤ n) (hj : j = dp + n) (hx : x = f (sp + n)) : ur (cpS f h sp dp n) j x = cpS f h sp dp (n + 1) := by
  funext i
  subst hj hx
  unfold ur cpS
  by_cases h1 : i = dp + n
  · rw [if_pos h1, if_pos (by omega), h1]
    exact congrArg _ (by omega)
  · rw [if_neg h1]
    by_cases h2 : dp ≤ i ∧ i < dp + n
    · rw [if_pos h2, if_pos (by omega)]
    · rw [if_neg h2, if_neg (by omega)]

theorem m_isTape {g : GC} {V : MM} {t : Int} (rt : -2147483648 ≤ t ∧ t ≤ 2147483647) : Ct g mX7_isTape 2 [vr 83, vi t] V (RB V (0 ≤ t ∧ t < 6)) := by
  refine Ct.of (ls := [some (vr 83), some (vi t)]) (plainFor_of_name (by decide +kernel)) rfl (by exact Nat.le_of_ble_eq_true rfl) (fun X hz hD => ?_)
  refine S_al0 qX7_isTape_0 ?_
  refine S_il1 qX7_isTape_1 ?_
  refine S_iconst qX7_isTape_2 ?_
  refine S_iconst qX7_isTape_3 ?_
  refine S_V3B hD qX7_isTape_4 lX7_206 vX7_in r83 (m_in (by omega) (by omega) (by omega)) (kt := fun j4 => ?_) (kf := fun j4 => ?_)
  · refine S_zret hz qX7_isTape_7 (by omega) ?_
    exact RB.mk (by omega)
  · refine S_zret hz qX7_isTape_7 (by omega) ?_
    exact RB.mk (by omega)

theorem m_read {g : GC} {V : MM} {Z : ZT} {t i : Int} (hZ : MA V Z) (rt : -2147483648 ≤ t ∧ t ≤ 2147483647) (ri : -2147483648 ≤ i ∧ i ≤ 2147483647) : Ct g mX7_read 8 [vr 83, vi t, vi i] V (RML V (oRead Z t i) Z) := by
  refine Ct.of (ls := [some (vr 83), some (vi t), some (vi i)]) (plainFor_of_name (by decide +kernel)) rfl (by exact Nat.le_of_ble_eq_true rfl) (fun X hz hD => ?_)
  obtain ⟨M, hI0, hn6, hbb, hwz, hkz⟩ := hZ.pf
  have hT := Tm.rf V
  refine S_al0 qX7_read_0 ?_
  refine S_il1 qX7_read_1 ?_
  refine S_V1B hD qX7_read_2 lX7_348 vX7_isTape r83 (m_isTape (by omega)) (kt := fun j2 => ?_) (kf := fun j2 => ?_)
  · refine S_if_eq (d := qX7_read_5) (kt := fun c => absurd c (by decide)) (kf := fun _ => ?_)
    obtain ⟨t1, t2, t3, t4, t5, t6⟩ := hZ.2.2.2.2.2.2.1.at (t := t) (by omega)
    refine S_al0 qX7_read_8 ?_
    refine S_getR qX7_read_9 fX7_193 e83_60 ?_
    refine S_il1 qX7_read_12 ?_
    refine S_iald qX7_read_13 a122 (K := ?_)
    refine S_if_lt (d := qX7_read_14) (kt := fun c14 => ?_) (kf := fun c14 => ?_)
    · refine S_ldc2 qX7_read_34 kX7_342 ?_
      refine S_goto qX7_read_37 ?_
      try rw [t3 i (by omega)]
      refine S_lret hz qX7_read_51 ?_
      refine RML.same hZ ?_
      unfold oRead NOl
      first | (rw [if_pos (by omega)]; done) | (rw [if_neg (by omega)]; done)
    · refine S_al0 qX7_read_17 ?_
      refine S_il2 qX7_read_18 ?_
      refine S_iconst qX7_read_19 ?_
      refine S_al0 qX7_read_20 ?_
      refine S_getR qX7_read_21 fX7_196 e83_61 ?_
      refine S_il1 qX7_read_24 ?_
      refine S_iald qX7_read_25 a123 (K := ?_)
      refine S_iconst qX7_read_26 ?_
      refine S_isub qX7_read_27 ?_
      refine S_V3B hD qX7_read_28 lX7_206 vX7_in r83 (m_in (by omega) (by omega) (by omega)) (kt := fun j28 => ?_) (kf := fun j28 => ?_)
      · refine S_if_ne (d := qX7_read_31) (kt := fun _ => ?_) (kf := fun c => absurd c (by decide))
        refine S_al0 qX7_read_40 ?_
        refine S_getR qX7_read_41 fX7_199 e83_62 ?_
        refine S_bipush (d := qX7_read_44) (k := ?_)
        refine S_il1 qX7_read_46 ?_
        refine S_imul qX7_read_47 ?_
        refine S_il2 qX7_read_48 ?_
        refine S_iadd qX7_read_49 ?_
        refine S_lald qX7_read_50 a124 (K := ?_)
        try rw [t3 i (by omega)]
        refine S_lret hz qX7_read_51 ?_
        refine RML.same hZ ?_
        unfold oRead NOl
        first | (rw [if_pos (by omega)]; done) | (rw [if_neg (by omega)]; done)
      · refine S_if_ne (d := qX7_read_31) (kt := fun c => absurd c (by decide)) (kf := fun _ => ?_)
        refine S_ldc2 qX7_read_34 kX7_342 ?_
        refine S_goto qX7_read_37 ?_
        try rw [t3 i (by omega)]
        refine S_lret hz qX7_read_51 ?_
        refine RML.same hZ ?_
        unfold oRead NOl
        first | (rw [if_pos (by omega)]; done) | (rw [if_neg (by omega)]; done)
  · refine S_if_eq (d := qX7_read_5) (kt := fun _ => ?_) (kf := fun c => absurd c (by decide))
    refine S_ldc2 qX7_read_34 kX7_342 ?_
    refine S_goto qX7_read_37 ?_
    try rw [t3 i (by omega)]
    refine S_lret hz qX7_read_51 ?_
    refine RML.same hZ ?_
    unfold oRead NOl
    first | (rw [if_pos (by omega)]; done) | (rw [if_neg (by omega)]; done)

theorem mju_loop {g : GC} {X : CX} {Q : Option AV → MM → Prop} {V : MM} {Z : ZT} {t i xf : Int} (hZ : MA V Z) (ht6 : 0 ≤ t ∧ t < 6) (hs0 : tpS Z t ≤ 0) (ri : -2147483648 ≤ i ∧ i ≤ 2147483647) (hz : Fi g X (some .int) Q) (hQ : Q (some (vi xf)) V) : ∀ (n : Nat) (k : Int), 0 ≤ k → k + n = 8 * Z.1.1 → judS Z.1.2.2.2.2.2.1 (tpR Z t) i (tpN Z t) n k = xf → SW g X RX7 cX7_judge 24 [some (vr 83), some (vi t), some (vi i), some (vi k)] [] V := by
  obtain ⟨M, hI0, hn6, hbb, hwz, hkz⟩ := hZ.pf
  obtain ⟨t1, t2, t3, t4, t5, t6⟩ := hZ.2.2.2.2.2.2.1.at ht6
  intro n
  induction n with
  | zero =>
    intro k h0 h1 hx
    unfold judS at hx
    subst hx
    refine S_il3 qX7_judge_24 ?_
    refine S_bipush (d := qX7_judge_25) (k := ?_)
    refine S_al0 qX7_judge_27 ?_
    refine S_getI qX7_judge_28 fX7_7 e83_0 ?_
    rw [M.n]
    refine S_imul qX7_judge_31 ?_
    refine S_icmp_ge (d := qX7_judge_32) (kt := fun c32 => ?_) (kf := fun c32 => ?_)
    rotate_left
    · omega
    refine S_bipush (d := qX7_judge_110) (k := ?_)
    refine S_iret hz qX7_judge_112 ?_
    exact hQ
  | succ n ih =>
    intro k h0 h1 hx
    unfold judS at hx
    have w0 := hI0.2.2.2.2.1 k (by omega)
    refine S_il3 qX7_judge_24 ?_
    refine S_bipush (d := qX7_judge_25) (k := ?_)
    refine S_al0 qX7_judge_27 ?_
    refine S_getI qX7_judge_28 fX7_7 e83_0 ?_
    rw [M.n]
    refine S_imul qX7_judge_31 ?_
    refine S_icmp_ge (d := qX7_judge_32) (kt := fun c32 => ?_) (kf := fun c32 => ?_)
    · omega
    refine S_al0 qX7_judge_35 ?_
    refine S_getR qX7_judge_36 fX7_193 e83_60 ?_
    refine S_il1 qX7_judge_39 ?_
    refine S_iald qX7_judge_40 a122 (K := ?_)
    refine S_if_lt (d := qX7_judge_41) (kt := fun c41 => ?_) (kf := fun c41 => ?_)
    · refine S_bipush (d := qX7_judge_62) (k := ?_)
      refine S_il3 qX7_judge_64 ?_
      refine S_iadd qX7_judge_65 ?_
      refine S_iret hz qX7_judge_66 ?_
      rw [if_pos (by omega)] at hx
      subst hx
      exact hQ
    · refine S_il2 qX7_judge_44 ?_
      refine S_if_lt (d := qX7_judge_45) (kt := fun c45 => ?_) (kf := fun c45 => ?_)
      · refine S_bipush (d := qX7_judge_62) (k := ?_)
        refine S_il3 qX7_judge_64 ?_
        refine S_iadd qX7_judge_65 ?_
        refine S_iret hz qX7_judge_66 ?_
        rw [if_pos (by omega)] at hx
        subst hx
        exact hQ
      · refine S_il2 qX7_judge_48 ?_
        refine S_al0 qX7_judge_49 ?_
        refine S_getR qX7_judge_50 fX7_196 e83_61 ?_
        refine S_il1 qX7_judge_53 ?_
        refine S_iald qX7_judge_54 a123 (K := ?_)
        refine S_il3 qX7_judge_55 ?_
        refine S_isub qX7_judge_56 ?_
        refine S_iconst qX7_judge_57 ?_
        refine S_isub qX7_judge_58 ?_
        refine S_icmp_le (d := qX7_judge_59) (kt := fun c59 => ?_) (kf := fun c59 => ?_)
        · refine S_al0 qX7_judge_67 ?_
          refine S_getR qX7_judge_68 fX7_199 e83_62 ?_
          refine S_bipush (d := qX7_judge_71) (k := ?_)
          refine S_il1 qX7_judge_73 ?_
          refine S_imul qX7_judge_74 ?_
          refine S_il2 qX7_judge_75 ?_
          refine S_iadd qX7_judge_76 ?_
          refine S_il3 qX7_judge_77 ?_
          refine S_iadd qX7_judge_78 ?_
          refine S_lald qX7_judge_79 a124 (K := ?_)
          rw [show 60 * t + i + k = 60 * t + (i + k) by omega, t3 (i + k) (by omega)]
          refine S_al0 qX7_judge_80 ?_
          refine S_getR qX7_judge_81 fX7_29 e83_6 ?_
          refine S_il3 qX7_judge_84 ?_
          refine S_iald qX7_judge_85 a88 (K := ?_)
          rw [M.w88]
          refine S_i2l (d := qX7_judge_86) (k := ?_)
          refine S_lcmp qX7_judge_87 ?_
          refine S_if_eq (d := qX7_judge_88) (ha := io_rg _) (kt := fun c88 => ?_) (kf := fun c88 => ?_)
          · refine S_inc3 qX7_judge_104 (K := ?_)
            refine S_goto qX7_judge_107 ?_
            rw [if_neg (by omega), if_pos (lg_eq.mp c88)] at hx
            exact ih (k + 1) (by omega) (by omega) hx
          · refine S_bipush (d := qX7_judge_91) (k := ?_)
            refine S_il3 qX7_judge_93 ?_
            refine S_bipush (d := qX7_judge_94) (k := ?_)
            refine S_idiv (d := qX7_judge_96) (k := ?_)
            refine S_imul qX7_judge_97 ?_
            refine S_il3 qX7_judge_98 ?_
            refine S_bipush (d := qX7_judge_99) (k := ?_)
            refine S_irem (d := qX7_judge_101) (k := ?_)
            refine S_iadd qX7_judge_102 ?_
            refine S_iret hz qX7_judge_103 ?_
            rw [if_neg (by omega), if_neg (fun q => c88 (lg_eq.mpr q))] at hx
            subst hx
            exact hQ
        · refine S_bipush (d := qX7_judge_62) (k := ?_)
          refine S_il3 qX7_judge_64 ?_
          refine S_iadd qX7_judge_65 ?_
          refine S_iret hz qX7_judge_66 ?_
          rw [if_pos (by omega)] at hx
          subst hx
          exact hQ
theorem m_judge {g : GC} {V : MM} {Z : ZT} {t i : Int} (hZ : MA V Z) (rt : -2147483648 ≤ t ∧ t ≤ 2147483647) (ri : -2147483648 ≤ i ∧ i ≤ 2147483647) : Ct g mX7_judge 8 [vr 83, vi t, vi i] V (RM V (oJudge Z t i) Z) := by
  refine Ct.of (ls := [some (vr 83), some (vi t), some (vi i), none]) (plainFor_of_name (by decide +kernel)) rfl (by exact Nat.le_of_ble_eq_true rfl) (fun X hz hD => ?_)
  obtain ⟨M, hI0, hn6, hbb, hwz, hkz⟩ := hZ.pf
  have hT := Tm.rf V
  refine S_al0 qX7_judge_0 ?_
  refine S_il1 qX7_judge_1 ?_
  refine S_V1B hD qX7_judge_2 lX7_348 vX7_isTape r83 (m_isTape (by omega)) (kt := fun j2 => ?_) (kf := fun j2 => ?_)
  · refine S_if_ne (d := qX7_judge_5) (kt := fun _ => ?_) (kf := fun c => absurd c (by decide))
    obtain ⟨t1, t2, t3, t4, t5, t6⟩ := hZ.2.2.2.2.2.2.1.at (t := t) (by omega)
    refine S_al0 qX7_judge_10 ?_
    refine S_getR qX7_judge_11 fX7_193 e83_60 ?_
    refine S_il1 qX7_judge_14 ?_
    refine S_iald qX7_judge_15 a122 (K := ?_)
    refine S_if_le (d := qX7_judge_16) (kt := fun c16 => ?_) (kf := fun c16 => ?_)
    · refine S_iconst qX7_judge_22 ?_
      refine S_is3 qX7_judge_23 (K := ?_)
      refine mju_loop hZ (by omega) (by omega) (by omega) hz (RM.same hZ ?_) (8 * Z.1.1).toNat 0 (by omega) (by omega) rfl
      symm
      unfold oJudge
      rw [if_neg (by omega), if_neg (by omega)]
    · refine S_bipush (d := qX7_judge_19) (k := ?_)
      refine S_iret hz qX7_judge_21 ?_
      refine RM.same hZ ?_
      unfold oJudge
      first | (rw [if_pos (by omega)]; done) | (rw [if_neg (by omega), if_pos (by omega)]; done) | (rw [if_neg (by omega), if_neg (by omega), if_pos (by omega)]; done)
  · refine S_if_ne (d := qX7_judge_5) (kt := fun c => absurd c (by decide)) (kf := fun _ => ?_)
    refine S_iconst qX7_judge_8 ?_
    refine S_iret hz qX7_judge_9 ?_
    refine RM.same hZ ?_
    unfold oJudge
    first | (rw [if_pos (by omega)]; done) | (rw [if_neg (by omega), if_pos (by omega)]; done) | (rw [if_neg (by omega), if_neg (by omega), if_pos (by omega)]; done)

theorem mta_loop {g : GC} {X : CX} {W : MM} {t s n : Int} (ht : 0 ≤ t ∧ t < 6) (hk : SW g X RX7 cX7_tape 95 [some (vr 83), some (vi t), some (vi s), some (vi n), none] [] (upR W 124 (lz (W 124) (60 * t) 0 60))) : ∀ (m : Nat) (k : Int), 0 ≤ k → k + m = 60 → SW g X RX7 cX7_tape 69 [some (vr 83), some (vi t), some (vi s), some (vi n), some (vi k)] [] (upR W 124 (lz (W 124) (60 * t) 0 k)) := by
  intro m
  induction m with
  | zero =>
    intro k h0 h1
    have e : k = 60 := by omega
    subst e
    refine S_il4 qX7_tape_69 ?_
    refine S_bipush (d := qX7_tape_71) (k := ?_)
    refine S_icmp_ge (d := qX7_tape_73) (kt := fun c73 => ?_) (kf := fun c73 => ?_)
    rotate_left
    · omega
    exact SW.forget 4 hk
  | succ m ih =>
    intro k h0 h1
    refine S_il4 qX7_tape_69 ?_
    refine S_bipush (d := qX7_tape_71) (k := ?_)
    refine S_icmp_ge (d := qX7_tape_73) (kt := fun c73 => ?_) (kf := fun c73 => ?_)
    · omega
    refine S_al0 qX7_tape_76 ?_
    refine S_getR qX7_tape_77 fX7_199 e83_62 ?_
    refine S_bipush (d := qX7_tape_80) (k := ?_)
    refine S_il1 qX7_tape_82 ?_
    refine S_imul qX7_tape_83 ?_
    refine S_il4 qX7_tape_84 ?_
    refine S_iadd qX7_tape_86 ?_
    refine S_lconst qX7_tape_87 ?_
    refine S_last qX7_tape_88 a124 (K := ?_)
    refine S_inc4 qX7_tape_89 (K := ?_)
    refine S_goto qX7_tape_92 ?_
    rw [upR_s, upR_u]
    have e := lz_1 (W 124) (a := 60 * t) (z := 0) (n := k) (j := 60 * t + k) h0 rfl
    refine SW.cast (ih (k + 1) (by omega) (by omega)) ?_
    rw [← e]
    rfl
theorem mta_end {V : MM} {Z : ZT} {t s n1 : Int} {y : Int × ZT} (hZ : MA V Z) (ht : 0 ≤ t ∧ t < 6) (rx : (-1 ≤ s ∧ s ≤ 4) ∧ (0 ≤ n1 ∧ n1 ≤ 60) ∧ (s = -1 → n1 = 0)) (e : (1, tpZ Z t (s, n1, lz (tpR Z t) 0 0 60)) = y) : RM V y.1 y.2 (some (vi 1)) (upR (upR (upR V 122 (ur (V 122) t s)) 123 (ur (V 123) t n1)) 124 (lz (V 124) (60 * t) 0 60)) := by
  generalize hW : upR (upR (upR V 122 (ur (V 122) t s)) 123 (ur (V 123) t n1)) 124 (lz (V 124) (60 * t) 0 60) = W
  have w2 : W 122 = ur (V 122) t s := by rw [← hW, upR_n _ (by omega), upR_n _ (by omega), upR_s]
  have w3 : W 123 = ur (V 123) t n1 := by rw [← hW, upR_n _ (by omega), upR_s]
  have w4 : W 124 = lz (V 124) (60 * t) 0 60 := by rw [← hW, upR_s]
  have wk : ∀ k : Nat, k ≠ 122 → k ≠ 123 → k ≠ 124 → W k = V k := fun k a b c => by rw [← hW, upR_n _ c, upR_n _ b, upR_n _ a]
  refine RM.to (hZ.tp (x := (s, n1, lz (tpR Z t) 0 0 60)) ht (fun k a b c d => wk k a b c) (fun i a => by rw [w2, w3, ur_n _ a, ur_n _ a]; exact ⟨rfl, rfl⟩) (fun i a => by rw [w4]; unfold lz; rw [if_neg (by omega)]) (by rw [w2, ur_s]) (by rw [w3, ur_s]) (fun j a => ?_) rx) (fun k a => wk k (by omega) (by omega) (by omega)) e
  rw [w4]
  show (if 60 * t ≤ 60 * t + j ∧ 60 * t + j < 60 * t + 60 then (0 : Int) else _) = (if 0 ≤ j ∧ j < 0 + 60 then (0 : Int) else _)
  rw [if_pos (by omega), if_pos (by omega)]

theorem m_tape {g : GC} {V : MM} {Z : ZT} {t s n : Int} (hZ : MA V Z) (rt : -2147483648 ≤ t ∧ t ≤ 2147483647) (rs : -2147483648 ≤ s ∧ s ≤ 2147483647) (rn : -2147483648 ≤ n ∧ n ≤ 2147483647) : Ct g mX7_tape 8 [vr 83, vi t, vi s, vi n] V (RM V (nTape Z t s n).1 (nTape Z t s n).2) := by
  refine Ct.of (ls := [some (vr 83), some (vi t), some (vi s), some (vi n), none]) (plainFor_of_name (by decide +kernel)) rfl (by exact Nat.le_of_ble_eq_true rfl) (fun X hz hD => ?_)
  obtain ⟨M, hI0, hn6, hbb, hwz, hkz⟩ := hZ.pf
  have hT := Tm.rf V
  refine S_al0 qX7_tape_0 ?_
  refine S_il1 qX7_tape_1 ?_
  refine S_V1B hD qX7_tape_2 lX7_348 vX7_isTape r83 (m_isTape (by omega)) (kt := fun j2 => ?_) (kf := fun j2 => ?_)
  · refine S_if_ne (d := qX7_tape_5) (kt := fun _ => ?_) (kf := fun c => absurd c (by decide))
    refine S_al0 qX7_tape_10 ?_
    refine S_il2 qX7_tape_11 ?_
    refine S_iconst qX7_tape_12 ?_
    refine S_iconst qX7_tape_13 ?_
    refine S_V3B hD qX7_tape_14 lX7_206 vX7_in r83 (m_in (by omega) (by omega) (by omega)) (kt := fun j14 => ?_) (kf := fun j14 => ?_)
    · refine S_if_eq (d := qX7_tape_17) (kt := fun c => absurd c (by decide)) (kf := fun _ => ?_)
      refine S_il2 qX7_tape_20 ?_
      refine S_if_lt (d := qX7_tape_21) (kt := fun c21 => ?_) (kf := fun c21 => ?_)
      · refine S_il2 qX7_tape_33 ?_
        refine S_if_lt (d := qX7_tape_34) (kt := fun c34 => ?_) (kf := fun c34 => ?_)
        · refine S_al0 qX7_tape_44 ?_
          refine S_getR qX7_tape_45 fX7_193 e83_60 ?_
          refine S_il1 qX7_tape_48 ?_
          refine S_il2 qX7_tape_49 ?_
          refine S_iast qX7_tape_50 a122 (K := ?_)
          refine S_al0 qX7_tape_51 ?_
          refine S_getR qX7_tape_52 fX7_196 e83_61 ?_
          refine S_il1 qX7_tape_55 ?_
          refine S_il2 qX7_tape_56 ?_
          refine S_if_ge (d := qX7_tape_57) (kt := fun c57 => ?_) (kf := fun c57 => ?_)
          · refine S_il3 qX7_tape_64 ?_
            refine S_iast qX7_tape_65 a123 (K := ?_)
            refine S_iconst qX7_tape_66 ?_
            refine S_is4 qX7_tape_67 (K := ?_)
            first
              | (simp only [upR_n _ (show (123 : Nat) ≠ 122 by omega)]
                 rw [← upR_id (upR (upR V 122 (ur (V 122) t s)) 123 (ur (V 123) t 0)) 124, ← lz_0 (upR (upR V 122 (ur (V 122) t s)) 123 (ur (V 123) t 0) 124) (60 * t) 0]
                 refine mta_loop (by omega) ?_ 60 0 (by omega) (by omega)
                 rw [upR_n _ (show (124 : Nat) ≠ 123 by omega), upR_n _ (show (124 : Nat) ≠ 122 by omega)]
                 refine S_iconst qX7_tape_95 ?_
                 refine S_iret hz qX7_tape_96 ?_
                 refine mta_end hZ (by omega) (by omega) ?_
                 unfold nTape
                 first
                   | (rw [if_neg (by omega), if_neg (by omega), if_neg (by omega), if_neg (by omega)]; done)
                   | (have es1 : s = -1 := by omega
                      rw [if_neg (by omega), if_pos es1, es1]; done))
              | (simp only [upR_n _ (show (123 : Nat) ≠ 122 by omega)]
                 rw [← upR_id (upR (upR V 122 (ur (V 122) t s)) 123 (ur (V 123) t n)) 124, ← lz_0 (upR (upR V 122 (ur (V 122) t s)) 123 (ur (V 123) t n) 124) (60 * t) 0]
                 refine mta_loop (by omega) ?_ 60 0 (by omega) (by omega)
                 rw [upR_n _ (show (124 : Nat) ≠ 123 by omega), upR_n _ (show (124 : Nat) ≠ 122 by omega)]
                 refine S_iconst qX7_tape_95 ?_
                 refine S_iret hz qX7_tape_96 ?_
                 refine mta_end hZ (by omega) (by omega) ?_
                 unfold nTape
                 first
                   | (rw [if_neg (by omega), if_neg (by omega), if_neg (by omega), if_neg (by omega)]; done)
                   | (have es1 : s = -1 := by omega
                      rw [if_neg (by omega), if_pos es1, es1]; done))
          · refine S_iconst qX7_tape_60 ?_
            refine S_goto qX7_tape_61 ?_
            refine S_iast qX7_tape_65 a123 (K := ?_)
            refine S_iconst qX7_tape_66 ?_
            refine S_is4 qX7_tape_67 (K := ?_)
            first
              | (simp only [upR_n _ (show (123 : Nat) ≠ 122 by omega)]
                 rw [← upR_id (upR (upR V 122 (ur (V 122) t s)) 123 (ur (V 123) t 0)) 124, ← lz_0 (upR (upR V 122 (ur (V 122) t s)) 123 (ur (V 123) t 0) 124) (60 * t) 0]
                 refine mta_loop (by omega) ?_ 60 0 (by omega) (by omega)
                 rw [upR_n _ (show (124 : Nat) ≠ 123 by omega), upR_n _ (show (124 : Nat) ≠ 122 by omega)]
                 refine S_iconst qX7_tape_95 ?_
                 refine S_iret hz qX7_tape_96 ?_
                 refine mta_end hZ (by omega) (by omega) ?_
                 unfold nTape
                 first
                   | (rw [if_neg (by omega), if_neg (by omega), if_neg (by omega), if_neg (by omega)]; done)
                   | (have es1 : s = -1 := by omega
                      rw [if_neg (by omega), if_pos es1, es1]; done))
              | (simp only [upR_n _ (show (123 : Nat) ≠ 122 by omega)]
                 rw [← upR_id (upR (upR V 122 (ur (V 122) t s)) 123 (ur (V 123) t n)) 124, ← lz_0 (upR (upR V 122 (ur (V 122) t s)) 123 (ur (V 123) t n) 124) (60 * t) 0]
                 refine mta_loop (by omega) ?_ 60 0 (by omega) (by omega)
                 rw [upR_n _ (show (124 : Nat) ≠ 123 by omega), upR_n _ (show (124 : Nat) ≠ 122 by omega)]
                 refine S_iconst qX7_tape_95 ?_
                 refine S_iret hz qX7_tape_96 ?_
                 refine mta_end hZ (by omega) (by omega) ?_
                 unfold nTape
                 first
                   | (rw [if_neg (by omega), if_neg (by omega), if_neg (by omega), if_neg (by omega)]; done)
                   | (have es1 : s = -1 := by omega
                      rw [if_neg (by omega), if_pos es1, es1]; done))
        · refine S_il3 qX7_tape_37 ?_
          refine S_if_ge (d := qX7_tape_38) (kt := fun c38 => ?_) (kf := fun c38 => ?_)
          · refine S_al0 qX7_tape_44 ?_
            refine S_getR qX7_tape_45 fX7_193 e83_60 ?_
            refine S_il1 qX7_tape_48 ?_
            refine S_il2 qX7_tape_49 ?_
            refine S_iast qX7_tape_50 a122 (K := ?_)
            refine S_al0 qX7_tape_51 ?_
            refine S_getR qX7_tape_52 fX7_196 e83_61 ?_
            refine S_il1 qX7_tape_55 ?_
            refine S_il2 qX7_tape_56 ?_
            refine S_if_ge (d := qX7_tape_57) (kt := fun c57 => ?_) (kf := fun c57 => ?_)
            · refine S_il3 qX7_tape_64 ?_
              refine S_iast qX7_tape_65 a123 (K := ?_)
              refine S_iconst qX7_tape_66 ?_
              refine S_is4 qX7_tape_67 (K := ?_)
              first
                | (simp only [upR_n _ (show (123 : Nat) ≠ 122 by omega)]
                   rw [← upR_id (upR (upR V 122 (ur (V 122) t s)) 123 (ur (V 123) t 0)) 124, ← lz_0 (upR (upR V 122 (ur (V 122) t s)) 123 (ur (V 123) t 0) 124) (60 * t) 0]
                   refine mta_loop (by omega) ?_ 60 0 (by omega) (by omega)
                   rw [upR_n _ (show (124 : Nat) ≠ 123 by omega), upR_n _ (show (124 : Nat) ≠ 122 by omega)]
                   refine S_iconst qX7_tape_95 ?_
                   refine S_iret hz qX7_tape_96 ?_
                   refine mta_end hZ (by omega) (by omega) ?_
                   unfold nTape
                   first
                     | (rw [if_neg (by omega), if_neg (by omega), if_neg (by omega), if_neg (by omega)]; done)
                     | (have es1 : s = -1 := by omega
                        rw [if_neg (by omega), if_pos es1, es1]; done))
                | (simp only [upR_n _ (show (123 : Nat) ≠ 122 by omega)]
                   rw [← upR_id (upR (upR V 122 (ur (V 122) t s)) 123 (ur (V 123) t n)) 124, ← lz_0 (upR (upR V 122 (ur (V 122) t s)) 123 (ur (V 123) t n) 124) (60 * t) 0]
                   refine mta_loop (by omega) ?_ 60 0 (by omega) (by omega)
                   rw [upR_n _ (show (124 : Nat) ≠ 123 by omega), upR_n _ (show (124 : Nat) ≠ 122 by omega)]
                   refine S_iconst qX7_tape_95 ?_
                   refine S_iret hz qX7_tape_96 ?_
                   refine mta_end hZ (by omega) (by omega) ?_
                   unfold nTape
                   first
                     | (rw [if_neg (by omega), if_neg (by omega), if_neg (by omega), if_neg (by omega)]; done)
                     | (have es1 : s = -1 := by omega
                        rw [if_neg (by omega), if_pos es1, es1]; done))
            · refine S_iconst qX7_tape_60 ?_
              refine S_goto qX7_tape_61 ?_
              refine S_iast qX7_tape_65 a123 (K := ?_)
              refine S_iconst qX7_tape_66 ?_
              refine S_is4 qX7_tape_67 (K := ?_)
              first
                | (simp only [upR_n _ (show (123 : Nat) ≠ 122 by omega)]
                   rw [← upR_id (upR (upR V 122 (ur (V 122) t s)) 123 (ur (V 123) t 0)) 124, ← lz_0 (upR (upR V 122 (ur (V 122) t s)) 123 (ur (V 123) t 0) 124) (60 * t) 0]
                   refine mta_loop (by omega) ?_ 60 0 (by omega) (by omega)
                   rw [upR_n _ (show (124 : Nat) ≠ 123 by omega), upR_n _ (show (124 : Nat) ≠ 122 by omega)]
                   refine S_iconst qX7_tape_95 ?_
                   refine S_iret hz qX7_tape_96 ?_
                   refine mta_end hZ (by omega) (by omega) ?_
                   unfold nTape
                   first
                     | (rw [if_neg (by omega), if_neg (by omega), if_neg (by omega), if_neg (by omega)]; done)
                     | (have es1 : s = -1 := by omega
                        rw [if_neg (by omega), if_pos es1, es1]; done))
                | (simp only [upR_n _ (show (123 : Nat) ≠ 122 by omega)]
                   rw [← upR_id (upR (upR V 122 (ur (V 122) t s)) 123 (ur (V 123) t n)) 124, ← lz_0 (upR (upR V 122 (ur (V 122) t s)) 123 (ur (V 123) t n) 124) (60 * t) 0]
                   refine mta_loop (by omega) ?_ 60 0 (by omega) (by omega)
                   rw [upR_n _ (show (124 : Nat) ≠ 123 by omega), upR_n _ (show (124 : Nat) ≠ 122 by omega)]
                   refine S_iconst qX7_tape_95 ?_
                   refine S_iret hz qX7_tape_96 ?_
                   refine mta_end hZ (by omega) (by omega) ?_
                   unfold nTape
                   first
                     | (rw [if_neg (by omega), if_neg (by omega), if_neg (by omega), if_neg (by omega)]; done)
                     | (have es1 : s = -1 := by omega
                        rw [if_neg (by omega), if_pos es1, es1]; done))
          · refine S_bipush (d := qX7_tape_41) (k := ?_)
            refine S_iret hz qX7_tape_43 ?_
            refine RM.eq hZ ?_
            unfold nTape
            first | (rw [if_pos (by omega)]; done) | (rw [if_neg (by omega), if_pos (by omega)]; done) | (rw [if_neg (by omega), if_neg (by omega), if_pos (by omega)]; done) | (rw [if_neg (by omega), if_neg (by omega), if_neg (by omega), if_pos (by omega)]; done)
      · refine S_il3 qX7_tape_24 ?_
        refine S_bipush (d := qX7_tape_25) (k := ?_)
        refine S_icmp_le (d := qX7_tape_27) (kt := fun c27 => ?_) (kf := fun c27 => ?_)
        · refine S_il2 qX7_tape_33 ?_
          refine S_if_lt (d := qX7_tape_34) (kt := fun c34 => ?_) (kf := fun c34 => ?_)
          · refine S_al0 qX7_tape_44 ?_
            refine S_getR qX7_tape_45 fX7_193 e83_60 ?_
            refine S_il1 qX7_tape_48 ?_
            refine S_il2 qX7_tape_49 ?_
            refine S_iast qX7_tape_50 a122 (K := ?_)
            refine S_al0 qX7_tape_51 ?_
            refine S_getR qX7_tape_52 fX7_196 e83_61 ?_
            refine S_il1 qX7_tape_55 ?_
            refine S_il2 qX7_tape_56 ?_
            refine S_if_ge (d := qX7_tape_57) (kt := fun c57 => ?_) (kf := fun c57 => ?_)
            · refine S_il3 qX7_tape_64 ?_
              refine S_iast qX7_tape_65 a123 (K := ?_)
              refine S_iconst qX7_tape_66 ?_
              refine S_is4 qX7_tape_67 (K := ?_)
              first
                | (simp only [upR_n _ (show (123 : Nat) ≠ 122 by omega)]
                   rw [← upR_id (upR (upR V 122 (ur (V 122) t s)) 123 (ur (V 123) t 0)) 124, ← lz_0 (upR (upR V 122 (ur (V 122) t s)) 123 (ur (V 123) t 0) 124) (60 * t) 0]
                   refine mta_loop (by omega) ?_ 60 0 (by omega) (by omega)
                   rw [upR_n _ (show (124 : Nat) ≠ 123 by omega), upR_n _ (show (124 : Nat) ≠ 122 by omega)]
                   refine S_iconst qX7_tape_95 ?_
                   refine S_iret hz qX7_tape_96 ?_
                   refine mta_end hZ (by omega) (by omega) ?_
                   unfold nTape
                   first
                     | (rw [if_neg (by omega), if_neg (by omega), if_neg (by omega), if_neg (by omega)]; done)
                     | (have es1 : s = -1 := by omega
                        rw [if_neg (by omega), if_pos es1, es1]; done))
                | (simp only [upR_n _ (show (123 : Nat) ≠ 122 by omega)]
                   rw [← upR_id (upR (upR V 122 (ur (V 122) t s)) 123 (ur (V 123) t n)) 124, ← lz_0 (upR (upR V 122 (ur (V 122) t s)) 123 (ur (V 123) t n) 124) (60 * t) 0]
                   refine mta_loop (by omega) ?_ 60 0 (by omega) (by omega)
                   rw [upR_n _ (show (124 : Nat) ≠ 123 by omega), upR_n _ (show (124 : Nat) ≠ 122 by omega)]
                   refine S_iconst qX7_tape_95 ?_
                   refine S_iret hz qX7_tape_96 ?_
                   refine mta_end hZ (by omega) (by omega) ?_
                   unfold nTape
                   first
                     | (rw [if_neg (by omega), if_neg (by omega), if_neg (by omega), if_neg (by omega)]; done)
                     | (have es1 : s = -1 := by omega
                        rw [if_neg (by omega), if_pos es1, es1]; done))
            · refine S_iconst qX7_tape_60 ?_
              refine S_goto qX7_tape_61 ?_
              refine S_iast qX7_tape_65 a123 (K := ?_)
              refine S_iconst qX7_tape_66 ?_
              refine S_is4 qX7_tape_67 (K := ?_)
              first
                | (simp only [upR_n _ (show (123 : Nat) ≠ 122 by omega)]
                   rw [← upR_id (upR (upR V 122 (ur (V 122) t s)) 123 (ur (V 123) t 0)) 124, ← lz_0 (upR (upR V 122 (ur (V 122) t s)) 123 (ur (V 123) t 0) 124) (60 * t) 0]
                   refine mta_loop (by omega) ?_ 60 0 (by omega) (by omega)
                   rw [upR_n _ (show (124 : Nat) ≠ 123 by omega), upR_n _ (show (124 : Nat) ≠ 122 by omega)]
                   refine S_iconst qX7_tape_95 ?_
                   refine S_iret hz qX7_tape_96 ?_
                   refine mta_end hZ (by omega) (by omega) ?_
                   unfold nTape
                   first
                     | (rw [if_neg (by omega), if_neg (by omega), if_neg (by omega), if_neg (by omega)]; done)
                     | (have es1 : s = -1 := by omega
                        rw [if_neg (by omega), if_pos es1, es1]; done))
                | (simp only [upR_n _ (show (123 : Nat) ≠ 122 by omega)]
                   rw [← upR_id (upR (upR V 122 (ur (V 122) t s)) 123 (ur (V 123) t n)) 124, ← lz_0 (upR (upR V 122 (ur (V 122) t s)) 123 (ur (V 123) t n) 124) (60 * t) 0]
                   refine mta_loop (by omega) ?_ 60 0 (by omega) (by omega)
                   rw [upR_n _ (show (124 : Nat) ≠ 123 by omega), upR_n _ (show (124 : Nat) ≠ 122 by omega)]
                   refine S_iconst qX7_tape_95 ?_
                   refine S_iret hz qX7_tape_96 ?_
                   refine mta_end hZ (by omega) (by omega) ?_
                   unfold nTape
                   first
                     | (rw [if_neg (by omega), if_neg (by omega), if_neg (by omega), if_neg (by omega)]; done)
                     | (have es1 : s = -1 := by omega
                        rw [if_neg (by omega), if_pos es1, es1]; done))
          · refine S_il3 qX7_tape_37 ?_
            refine S_if_ge (d := qX7_tape_38) (kt := fun c38 => ?_) (kf := fun c38 => ?_)
            · refine S_al0 qX7_tape_44 ?_
              refine S_getR qX7_tape_45 fX7_193 e83_60 ?_
              refine S_il1 qX7_tape_48 ?_
              refine S_il2 qX7_tape_49 ?_
              refine S_iast qX7_tape_50 a122 (K := ?_)
              refine S_al0 qX7_tape_51 ?_
              refine S_getR qX7_tape_52 fX7_196 e83_61 ?_
              refine S_il1 qX7_tape_55 ?_
              refine S_il2 qX7_tape_56 ?_
              refine S_if_ge (d := qX7_tape_57) (kt := fun c57 => ?_) (kf := fun c57 => ?_)
              · refine S_il3 qX7_tape_64 ?_
                refine S_iast qX7_tape_65 a123 (K := ?_)
                refine S_iconst qX7_tape_66 ?_
                refine S_is4 qX7_tape_67 (K := ?_)
                first
                  | (simp only [upR_n _ (show (123 : Nat) ≠ 122 by omega)]
                     rw [← upR_id (upR (upR V 122 (ur (V 122) t s)) 123 (ur (V 123) t 0)) 124, ← lz_0 (upR (upR V 122 (ur (V 122) t s)) 123 (ur (V 123) t 0) 124) (60 * t) 0]
                     refine mta_loop (by omega) ?_ 60 0 (by omega) (by omega)
                     rw [upR_n _ (show (124 : Nat) ≠ 123 by omega), upR_n _ (show (124 : Nat) ≠ 122 by omega)]
                     refine S_iconst qX7_tape_95 ?_
                     refine S_iret hz qX7_tape_96 ?_
                     refine mta_end hZ (by omega) (by omega) ?_
                     unfold nTape
                     first
                       | (rw [if_neg (by omega), if_neg (by omega), if_neg (by omega), if_neg (by omega)]; done)
                       | (have es1 : s = -1 := by omega
                          rw [if_neg (by omega), if_pos es1, es1]; done))
                  | (simp only [upR_n _ (show (123 : Nat) ≠ 122 by omega)]
                     rw [← upR_id (upR (upR V 122 (ur (V 122) t s)) 123 (ur (V 123) t n)) 124, ← lz_0 (upR (upR V 122 (ur (V 122) t s)) 123 (ur (V 123) t n) 124) (60 * t) 0]
                     refine mta_loop (by omega) ?_ 60 0 (by omega) (by omega)
                     rw [upR_n _ (show (124 : Nat) ≠ 123 by omega), upR_n _ (show (124 : Nat) ≠ 122 by omega)]
                     refine S_iconst qX7_tape_95 ?_
                     refine S_iret hz qX7_tape_96 ?_
                     refine mta_end hZ (by omega) (by omega) ?_
                     unfold nTape
                     first
                       | (rw [if_neg (by omega), if_neg (by omega), if_neg (by omega), if_neg (by omega)]; done)
                       | (have es1 : s = -1 := by omega
                          rw [if_neg (by omega), if_pos es1, es1]; done))
              · refine S_iconst qX7_tape_60 ?_
                refine S_goto qX7_tape_61 ?_
                refine S_iast qX7_tape_65 a123 (K := ?_)
                refine S_iconst qX7_tape_66 ?_
                refine S_is4 qX7_tape_67 (K := ?_)
                first
                  | (simp only [upR_n _ (show (123 : Nat) ≠ 122 by omega)]
                     rw [← upR_id (upR (upR V 122 (ur (V 122) t s)) 123 (ur (V 123) t 0)) 124, ← lz_0 (upR (upR V 122 (ur (V 122) t s)) 123 (ur (V 123) t 0) 124) (60 * t) 0]
                     refine mta_loop (by omega) ?_ 60 0 (by omega) (by omega)
                     rw [upR_n _ (show (124 : Nat) ≠ 123 by omega), upR_n _ (show (124 : Nat) ≠ 122 by omega)]
                     refine S_iconst qX7_tape_95 ?_
                     refine S_iret hz qX7_tape_96 ?_
                     refine mta_end hZ (by omega) (by omega) ?_
                     unfold nTape
                     first
                       | (rw [if_neg (by omega), if_neg (by omega), if_neg (by omega), if_neg (by omega)]; done)
                       | (have es1 : s = -1 := by omega
                          rw [if_neg (by omega), if_pos es1, es1]; done))
                  | (simp only [upR_n _ (show (123 : Nat) ≠ 122 by omega)]
                     rw [← upR_id (upR (upR V 122 (ur (V 122) t s)) 123 (ur (V 123) t n)) 124, ← lz_0 (upR (upR V 122 (ur (V 122) t s)) 123 (ur (V 123) t n) 124) (60 * t) 0]
                     refine mta_loop (by omega) ?_ 60 0 (by omega) (by omega)
                     rw [upR_n _ (show (124 : Nat) ≠ 123 by omega), upR_n _ (show (124 : Nat) ≠ 122 by omega)]
                     refine S_iconst qX7_tape_95 ?_
                     refine S_iret hz qX7_tape_96 ?_
                     refine mta_end hZ (by omega) (by omega) ?_
                     unfold nTape
                     first
                       | (rw [if_neg (by omega), if_neg (by omega), if_neg (by omega), if_neg (by omega)]; done)
                       | (have es1 : s = -1 := by omega
                          rw [if_neg (by omega), if_pos es1, es1]; done))
            · refine S_bipush (d := qX7_tape_41) (k := ?_)
              refine S_iret hz qX7_tape_43 ?_
              refine RM.eq hZ ?_
              unfold nTape
              first | (rw [if_pos (by omega)]; done) | (rw [if_neg (by omega), if_pos (by omega)]; done) | (rw [if_neg (by omega), if_neg (by omega), if_pos (by omega)]; done) | (rw [if_neg (by omega), if_neg (by omega), if_neg (by omega), if_pos (by omega)]; done)
        · refine S_bipush (d := qX7_tape_30) (k := ?_)
          refine S_iret hz qX7_tape_32 ?_
          refine RM.eq hZ ?_
          unfold nTape
          first | (rw [if_pos (by omega)]; done) | (rw [if_neg (by omega), if_pos (by omega)]; done) | (rw [if_neg (by omega), if_neg (by omega), if_pos (by omega)]; done) | (rw [if_neg (by omega), if_neg (by omega), if_neg (by omega), if_pos (by omega)]; done)
    · refine S_if_eq (d := qX7_tape_17) (kt := fun _ => ?_) (kf := fun c => absurd c (by decide))
      refine S_bipush (d := qX7_tape_30) (k := ?_)
      refine S_iret hz qX7_tape_32 ?_
      refine RM.eq hZ ?_
      unfold nTape
      first | (rw [if_pos (by omega)]; done) | (rw [if_neg (by omega), if_pos (by omega)]; done) | (rw [if_neg (by omega), if_neg (by omega), if_pos (by omega)]; done) | (rw [if_neg (by omega), if_neg (by omega), if_neg (by omega), if_pos (by omega)]; done)
  · refine S_if_ne (d := qX7_tape_5) (kt := fun c => absurd c (by decide)) (kf := fun _ => ?_)
    refine S_iconst qX7_tape_8 ?_
    refine S_iret hz qX7_tape_9 ?_
    refine RM.eq hZ ?_
    unfold nTape
    first | (rw [if_pos (by omega)]; done) | (rw [if_neg (by omega), if_pos (by omega)]; done) | (rw [if_neg (by omega), if_neg (by omega), if_pos (by omega)]; done) | (rw [if_neg (by omega), if_neg (by omega), if_neg (by omega), if_pos (by omega)]; done)

theorem m_narrow {g : GC} {V : MM} {s z : Int} (rs : -1 ≤ s ∧ s ≤ 4) : Ct g mX7_narrow 1 [vr 83, vi s, vl z] V (REL V (fitS s z)) := by
  refine Ct.of (ls := [some (vr 83), some (vi s), some (vl z), none]) (plainFor_of_name (by decide +kernel)) rfl (by exact Nat.le_of_ble_eq_true rfl) (fun X hz hD => ?_)
  have g1 := io_rg ((Int64.ofInt z).toInt32)
  have g2 := io_rg ((Int32.ofInt (((Int64.ofInt z).toInt32).toInt)).toInt8.toInt32)
  have g3 := io_rg ((Int32.ofInt (((Int64.ofInt z).toInt32).toInt)).toInt16.toInt32)
  have g4 : (lg_cmp (Int64.ofInt z) (Int64.ofInt ((0 : Fin 2) : Nat))).toInt = 0 ↔ Int64.ofInt z = Int64.ofInt 0 := lg_eq
  refine S_il1 qX7_narrow_0 ?_
  refine S_if_ne (d := qX7_narrow_1) (kt := fun c1 => ?_) (kf := fun c1 => ?_)
  · refine S_il1 qX7_narrow_11 ?_
    refine S_iconst qX7_narrow_12 ?_
    refine S_icmp_ne (d := qX7_narrow_13) (kt := fun c13 => ?_) (kf := fun c13 => ?_)
    · refine S_il1 qX7_narrow_23 ?_
      refine S_iconst qX7_narrow_24 ?_
      refine S_icmp_ne (d := qX7_narrow_25) (kt := fun c25 => ?_) (kf := fun c25 => ?_)
      · refine S_il1 qX7_narrow_34 ?_
        refine S_iconst qX7_narrow_35 ?_
        refine S_icmp_ne (d := qX7_narrow_36) (kt := fun c36 => ?_) (kf := fun c36 => ?_)
        · refine S_ll2 qX7_narrow_53 ?_
          refine S_lret hz qX7_narrow_54 ?_
          refine REL.mk ?_
          unfold fitS
          first
            | (rw [if_pos (by omega)]; done)
            | (rw [if_neg (by omega), if_pos (by omega)]; done)
            | (rw [if_neg (by omega), if_neg (by omega), if_pos (by omega)]; done)
            | (rw [if_neg (by omega), if_neg (by omega), if_neg (by omega), if_neg (by omega)]; done)
            | (rw [if_neg (by omega), if_neg (by omega), if_neg (by omega), if_pos (by omega), if_pos (g4.mp c42)]; done)
            | (rw [if_neg (by omega), if_neg (by omega), if_neg (by omega), if_pos (by omega), if_neg (fun q => c42 (g4.mpr q))]; done)
            | (rw [if_neg (by omega), if_neg (by omega), if_neg (by omega), if_pos (by omega), if_pos (g4.mp c42)]; rfl)
            | (rw [if_neg (by omega), if_neg (by omega), if_neg (by omega), if_pos (by omega), if_neg (fun q => c42 (g4.mpr q))]; rfl)
        · refine S_ll2 qX7_narrow_39 ?_
          refine S_lconst qX7_narrow_40 ?_
          refine S_lcmp qX7_narrow_41 ?_
          refine S_if_eq (d := qX7_narrow_42) (ha := io_rg _) (kt := fun c42 => ?_) (kf := fun c42 => ?_)
          · refine S_lconst qX7_narrow_49 ?_
            refine S_goto qX7_narrow_50 ?_
            refine S_lret hz qX7_narrow_54 ?_
            refine REL.mk ?_
            unfold fitS
            first
              | (rw [if_pos (by omega)]; done)
              | (rw [if_neg (by omega), if_pos (by omega)]; done)
              | (rw [if_neg (by omega), if_neg (by omega), if_pos (by omega)]; done)
              | (rw [if_neg (by omega), if_neg (by omega), if_neg (by omega), if_neg (by omega)]; done)
              | (rw [if_neg (by omega), if_neg (by omega), if_neg (by omega), if_pos (by omega), if_pos (g4.mp c42)]; done)
              | (rw [if_neg (by omega), if_neg (by omega), if_neg (by omega), if_pos (by omega), if_neg (fun q => c42 (g4.mpr q))]; done)
              | (rw [if_neg (by omega), if_neg (by omega), if_neg (by omega), if_pos (by omega), if_pos (g4.mp c42)]; rfl)
              | (rw [if_neg (by omega), if_neg (by omega), if_neg (by omega), if_pos (by omega), if_neg (fun q => c42 (g4.mpr q))]; rfl)
          · refine S_lconst qX7_narrow_45 ?_
            refine S_goto qX7_narrow_46 ?_
            refine S_lret hz qX7_narrow_54 ?_
            refine REL.mk ?_
            unfold fitS
            first
              | (rw [if_pos (by omega)]; done)
              | (rw [if_neg (by omega), if_pos (by omega)]; done)
              | (rw [if_neg (by omega), if_neg (by omega), if_pos (by omega)]; done)
              | (rw [if_neg (by omega), if_neg (by omega), if_neg (by omega), if_neg (by omega)]; done)
              | (rw [if_neg (by omega), if_neg (by omega), if_neg (by omega), if_pos (by omega), if_pos (g4.mp c42)]; done)
              | (rw [if_neg (by omega), if_neg (by omega), if_neg (by omega), if_pos (by omega), if_neg (fun q => c42 (g4.mpr q))]; done)
              | (rw [if_neg (by omega), if_neg (by omega), if_neg (by omega), if_pos (by omega), if_pos (g4.mp c42)]; rfl)
              | (rw [if_neg (by omega), if_neg (by omega), if_neg (by omega), if_pos (by omega), if_neg (fun q => c42 (g4.mpr q))]; rfl)
      · refine S_ll2 qX7_narrow_28 ?_
        refine S_l2i qX7_narrow_29 ?_
        refine S_i2l (d := qX7_narrow_30) (k := ?_)
        refine S_goto qX7_narrow_31 ?_
        refine S_lret hz qX7_narrow_54 ?_
        refine REL.mk ?_
        unfold fitS
        first
          | (rw [if_pos (by omega)]; done)
          | (rw [if_neg (by omega), if_pos (by omega)]; done)
          | (rw [if_neg (by omega), if_neg (by omega), if_pos (by omega)]; done)
          | (rw [if_neg (by omega), if_neg (by omega), if_neg (by omega), if_neg (by omega)]; done)
          | (rw [if_neg (by omega), if_neg (by omega), if_neg (by omega), if_pos (by omega), if_pos (g4.mp c42)]; done)
          | (rw [if_neg (by omega), if_neg (by omega), if_neg (by omega), if_pos (by omega), if_neg (fun q => c42 (g4.mpr q))]; done)
          | (rw [if_neg (by omega), if_neg (by omega), if_neg (by omega), if_pos (by omega), if_pos (g4.mp c42)]; rfl)
          | (rw [if_neg (by omega), if_neg (by omega), if_neg (by omega), if_pos (by omega), if_neg (fun q => c42 (g4.mpr q))]; rfl)
    · refine S_ll2 qX7_narrow_16 ?_
      refine S_l2i qX7_narrow_17 ?_
      refine S_i2s qX7_narrow_18 ?_
      refine S_i2l (d := qX7_narrow_19) (k := ?_)
      refine S_goto qX7_narrow_20 ?_
      refine S_lret hz qX7_narrow_54 ?_
      refine REL.mk ?_
      unfold fitS
      first
        | (rw [if_pos (by omega)]; done)
        | (rw [if_neg (by omega), if_pos (by omega)]; done)
        | (rw [if_neg (by omega), if_neg (by omega), if_pos (by omega)]; done)
        | (rw [if_neg (by omega), if_neg (by omega), if_neg (by omega), if_neg (by omega)]; done)
        | (rw [if_neg (by omega), if_neg (by omega), if_neg (by omega), if_pos (by omega), if_pos (g4.mp c42)]; done)
        | (rw [if_neg (by omega), if_neg (by omega), if_neg (by omega), if_pos (by omega), if_neg (fun q => c42 (g4.mpr q))]; done)
        | (rw [if_neg (by omega), if_neg (by omega), if_neg (by omega), if_pos (by omega), if_pos (g4.mp c42)]; rfl)
        | (rw [if_neg (by omega), if_neg (by omega), if_neg (by omega), if_pos (by omega), if_neg (fun q => c42 (g4.mpr q))]; rfl)
  · refine S_ll2 qX7_narrow_4 ?_
    refine S_l2i qX7_narrow_5 ?_
    refine S_i2b qX7_narrow_6 ?_
    refine S_i2l (d := qX7_narrow_7) (k := ?_)
    refine S_goto qX7_narrow_8 ?_
    refine S_lret hz qX7_narrow_54 ?_
    refine REL.mk ?_
    unfold fitS
    first
      | (rw [if_pos (by omega)]; done)
      | (rw [if_neg (by omega), if_pos (by omega)]; done)
      | (rw [if_neg (by omega), if_neg (by omega), if_pos (by omega)]; done)
      | (rw [if_neg (by omega), if_neg (by omega), if_neg (by omega), if_neg (by omega)]; done)
      | (rw [if_neg (by omega), if_neg (by omega), if_neg (by omega), if_pos (by omega), if_pos (g4.mp c42)]; done)
      | (rw [if_neg (by omega), if_neg (by omega), if_neg (by omega), if_pos (by omega), if_neg (fun q => c42 (g4.mpr q))]; done)
      | (rw [if_neg (by omega), if_neg (by omega), if_neg (by omega), if_pos (by omega), if_pos (g4.mp c42)]; rfl)
      | (rw [if_neg (by omega), if_neg (by omega), if_neg (by omega), if_pos (by omega), if_neg (fun q => c42 (g4.mpr q))]; rfl)

theorem m_item {g : GC} {V : MM} {Z : ZT} {t i z : Int} (hZ : MA V Z) (rt : -2147483648 ≤ t ∧ t ≤ 2147483647) (ri : -2147483648 ≤ i ∧ i ≤ 2147483647) : Ct g mX7_item 8 [vr 83, vi t, vi i, vl z] V (RM V (nItem Z t i z).1 (nItem Z t i z).2) := by
  refine Ct.of (ls := [some (vr 83), some (vi t), some (vi i), some (vl z), none]) (plainFor_of_name (by decide +kernel)) rfl (by exact Nat.le_of_ble_eq_true rfl) (fun X hz hD => ?_)
  obtain ⟨M, hI0, hn6, hbb, hwz, hkz⟩ := hZ.pf
  have hT := Tm.rf V
  refine S_al0 qX7_item_0 ?_
  refine S_il1 qX7_item_1 ?_
  refine S_V1B hD qX7_item_2 lX7_348 vX7_isTape r83 (m_isTape (by omega)) (kt := fun j2 => ?_) (kf := fun j2 => ?_)
  · refine S_if_ne (d := qX7_item_5) (kt := fun _ => ?_) (kf := fun c => absurd c (by decide))
    obtain ⟨t1, t2, t3, t4, t5, t6⟩ := hZ.2.2.2.2.2.2.1.at (t := t) (by omega)
    refine S_al0 qX7_item_10 ?_
    refine S_getR qX7_item_11 fX7_193 e83_60 ?_
    refine S_il1 qX7_item_14 ?_
    refine S_iald qX7_item_15 a122 (K := ?_)
    refine S_if_ge (d := qX7_item_16) (kt := fun c16 => ?_) (kf := fun c16 => ?_)
    · refine S_al0 qX7_item_22 ?_
      refine S_il2 qX7_item_23 ?_
      refine S_iconst qX7_item_24 ?_
      refine S_al0 qX7_item_25 ?_
      refine S_getR qX7_item_26 fX7_196 e83_61 ?_
      refine S_il1 qX7_item_29 ?_
      refine S_iald qX7_item_30 a123 (K := ?_)
      refine S_iconst qX7_item_31 ?_
      refine S_isub qX7_item_32 ?_
      refine S_V3B hD qX7_item_33 lX7_206 vX7_in r83 (m_in (by omega) (by omega) (by omega)) (kt := fun j33 => ?_) (kf := fun j33 => ?_)
      · refine S_if_ne (d := qX7_item_36) (kt := fun _ => ?_) (kf := fun c => absurd c (by decide))
        refine S_al0 qX7_item_42 ?_
        refine S_getR qX7_item_43 fX7_199 e83_62 ?_
        refine S_bipush (d := qX7_item_46) (k := ?_)
        refine S_il1 qX7_item_48 ?_
        refine S_imul qX7_item_49 ?_
        refine S_il2 qX7_item_50 ?_
        refine S_iadd qX7_item_51 ?_
        refine S_al0 qX7_item_52 ?_
        refine S_al0 qX7_item_53 ?_
        refine S_getR qX7_item_54 fX7_193 e83_60 ?_
        refine S_il1 qX7_item_57 ?_
        refine S_iald qX7_item_58 a122 (K := ?_)
        refine S_ll3 qX7_item_59 ?_
        refine S_V2EL hD qX7_item_60 lX7_375 vX7_narrow r83 (m_narrow (by omega)) (K := ?_)
        refine S_last qX7_item_63 a124 (K := ?_)
        refine S_iconst qX7_item_64 ?_
        refine S_iret hz qX7_item_65 ?_
        refine RM.to (hZ.tp (x := (tpS Z t, tpN Z t, ur (tpR Z t) i (fitS (tpS Z t) z))) (by omega) (fun k a b c d => upR_n _ c) (fun j a => ⟨by rw [upR_n _ (by omega)], by rw [upR_n _ (by omega)]⟩) (fun j a => by rw [upR_s, ur_n _ (by omega)]) (by rw [upR_n _ (by omega), t1]) (by rw [upR_n _ (by omega), t2]) (fun j a => ?_) ⟨t4, t5, t6⟩) (fun k a => upR_n _ (by omega)) ?_
        · rw [upR_s, t1]
          show _ = ur (tpR Z t) i (fitS (tpS Z t) z) j
          by_cases e : j = i
          · rw [e, ur_s, ur_s]
          · rw [ur_n _ e, ur_n _ (by omega)]
            exact t3 j a
        · unfold nItem
          rw [if_neg (by omega), if_neg (by omega), if_neg (by omega)]
      · refine S_if_ne (d := qX7_item_36) (kt := fun c => absurd c (by decide)) (kf := fun _ => ?_)
        refine S_bipush (d := qX7_item_39) (k := ?_)
        refine S_iret hz qX7_item_41 ?_
        refine RM.eq hZ ?_
        unfold nItem
        first | (rw [if_pos (by omega)]; done) | (rw [if_neg (by omega), if_pos (by omega)]; done) | (rw [if_neg (by omega), if_neg (by omega), if_pos (by omega)]; done) | (rw [if_neg (by omega), if_neg (by omega), if_neg (by omega), if_pos (by omega)]; done)
    · refine S_bipush (d := qX7_item_19) (k := ?_)
      refine S_iret hz qX7_item_21 ?_
      refine RM.eq hZ ?_
      unfold nItem
      first | (rw [if_pos (by omega)]; done) | (rw [if_neg (by omega), if_pos (by omega)]; done) | (rw [if_neg (by omega), if_neg (by omega), if_pos (by omega)]; done) | (rw [if_neg (by omega), if_neg (by omega), if_neg (by omega), if_pos (by omega)]; done)
  · refine S_if_ne (d := qX7_item_5) (kt := fun c => absurd c (by decide)) (kf := fun _ => ?_)
    refine S_iconst qX7_item_8 ?_
    refine S_iret hz qX7_item_9 ?_
    refine RM.eq hZ ?_
    unfold nItem
    first | (rw [if_pos (by omega)]; done) | (rw [if_neg (by omega), if_pos (by omega)]; done) | (rw [if_neg (by omega), if_neg (by omega), if_pos (by omega)]; done) | (rw [if_neg (by omega), if_neg (by omega), if_neg (by omega), if_pos (by omega)]; done)
