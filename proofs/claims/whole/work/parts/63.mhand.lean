theorem m_see {g : GC} {V : MM} {Z : ZT} {d p n : Int} (hZ : MA V Z) (rd : -2147483648 ≤ d ∧ d ≤ 2147483647) (rp : -2147483648 ≤ p ∧ p ≤ 2147483647) (rn : -2147483648 ≤ n ∧ n ≤ 2147483647) : Ct g mX7_see 8 [vr 83, vi d, vi p, vi n] V (RM V (nSee Z d p n).1 (nSee Z d p n).2) := by
  refine Ct.of (ls := [some (vr 83), some (vi d), some (vi p), some (vi n)]) (plainFor_of_name (by decide +kernel)) rfl (by exact Nat.le_of_ble_eq_true rfl) (fun X hz hD => ?_)
  obtain ⟨M, hI0, hn6, hbb, hwz, hkz⟩ := hZ.pf
  have hT := Tm.rf V
  obtain ⟨r1, r2, r3⟩ := hZ.2.2.2.2.2.1
  obtain ⟨hN, hNI⟩ := hZ.2.2.2.1
  have c7 := hZ.2.1.1
  have c9 := hZ.2.2.1.1
  have en1 : V 83 31 = Z.2.2.2.2.1.1 := by rw [← hN]
  have en4 : V 83 35 = Z.2.2.2.2.1.2.2.2.2.1 := by rw [← hN]
  have en6 : V 83 36 = Z.2.2.2.2.1.2.2.2.2.2.2.1 := by rw [← hN]
  have en0 := M.n
  obtain ⟨m1, m2, m3, m4, m5, m6⟩ := id hNI
  have e4 : V 104 = Z.2.2.2.2.1.2.1 := by rw [← hN]
  have e5 : V 105 = Z.2.2.2.2.1.2.2.1 := by rw [← hN]
  have e6 : V 106 = Z.2.2.2.2.1.2.2.2.1 := by rw [← hN]
  have e7 : V 107 = Z.2.2.2.2.1.2.2.2.2.2.1 := by rw [← hN]
  have e8 : V 108 = Z.2.2.2.2.1.2.2.2.2.2.2.2.1 := by rw [← hN]
  have e9 : V 109 = Z.2.2.2.2.1.2.2.2.2.2.2.2.2 := by rw [← hN]
  refine S_il1 qX7_see_0 ?_
  refine S_iconst qX7_see_1 ?_
  refine S_icmp_ne (d := qX7_see_2) (kt := fun c2 => ?_) (kf := fun c2 => ?_)
  · refine S_al0 qX7_see_12 ?_
    refine S_il1 qX7_see_13 ?_
    refine S_V1B hD qX7_see_14 lX7_218 vX7_isDancer r83 (m_isDancer M (by omega)) (kt := fun j14 => ?_) (kf := fun j14 => ?_)
    · refine S_if_ne (d := qX7_see_17) (kt := fun _ => ?_) (kf := fun c => absurd c (by decide))
      refine S_al0 qX7_see_22 ?_
      refine S_il2 qX7_see_23 ?_
      refine S_V1B hD qX7_see_24 lX7_333 vX7_isPlace r83 (m_isPlace (by omega)) (kt := fun j24 => ?_) (kf := fun j24 => ?_)
      · refine S_if_eq (d := qX7_see_27) (kt := fun c => absurd c (by decide)) (kf := fun _ => ?_)
        refine S_al0 qX7_see_30 ?_
        refine S_il3 qX7_see_31 ?_
        refine S_iconst qX7_see_32 ?_
        refine S_bipush (d := qX7_see_33) (k := ?_)
        refine S_V3B hD qX7_see_35 lX7_206 vX7_in r83 (m_in (by omega) (by omega) (by omega)) (kt := fun j35 => ?_) (kf := fun j35 => ?_)
        · refine S_if_ne (d := qX7_see_38) (kt := fun _ => ?_) (kf := fun c => absurd c (by decide))
          refine S_al0 qX7_see_44 ?_
          refine S_getI qX7_see_45 fX7_105 e83_31 ?_
          rw [en1]
          refine S_iconst qX7_see_48 ?_
          refine S_icmp_ne (d := qX7_see_49) (kt := fun c49 => ?_) (kf := fun c49 => ?_)
          · refine S_al0 qX7_see_55 ?_
            refine S_getR qX7_see_56 fX7_108 e83_32 ?_
            refine S_al0 qX7_see_59 ?_
            refine S_getI qX7_see_60 fX7_105 e83_31 ?_
            simp only [upR_n _ nq83_104, upR_n _ nq83_105, upR_n _ nq83_106, upR_n _ nq83_107, upR_n _ nq83_108, upR_n _ nq83_109, upR_n _ nq104_83, upR_n _ nq104_105, upR_n _ nq104_106, upR_n _ nq104_107, upR_n _ nq104_108, upR_n _ nq104_109, upR_n _ nq105_83, upR_n _ nq105_104, upR_n _ nq105_106, upR_n _ nq105_107, upR_n _ nq105_108, upR_n _ nq105_109, upR_n _ nq106_83, upR_n _ nq106_104, upR_n _ nq106_105, upR_n _ nq106_107, upR_n _ nq106_108, upR_n _ nq106_109, upR_n _ nq107_83, upR_n _ nq107_104, upR_n _ nq107_105, upR_n _ nq107_106, upR_n _ nq107_108, upR_n _ nq107_109, upR_n _ nq108_83, upR_n _ nq108_104, upR_n _ nq108_105, upR_n _ nq108_106, upR_n _ nq108_107, upR_n _ nq108_109, upR_n _ nq109_83, upR_n _ nq109_104, upR_n _ nq109_105, upR_n _ nq109_106, upR_n _ nq109_107, upR_n _ nq109_108, upR_s, ur_s, ur_n _ uq31_35, ur_n _ uq31_36, ur_n _ uq35_31, ur_n _ uq35_36, ur_n _ uq36_31, ur_n _ uq36_35, en1, en4, en6]
            refine S_il1 qX7_see_63 ?_
            refine S_iast qX7_see_64 a104 (K := ?_)
            refine S_al0 qX7_see_65 ?_
            refine S_getR qX7_see_66 fX7_111 e83_33 ?_
            refine S_al0 qX7_see_69 ?_
            refine S_getI qX7_see_70 fX7_105 e83_31 ?_
            simp only [upR_n _ nq83_104, upR_n _ nq83_105, upR_n _ nq83_106, upR_n _ nq83_107, upR_n _ nq83_108, upR_n _ nq83_109, upR_n _ nq104_83, upR_n _ nq104_105, upR_n _ nq104_106, upR_n _ nq104_107, upR_n _ nq104_108, upR_n _ nq104_109, upR_n _ nq105_83, upR_n _ nq105_104, upR_n _ nq105_106, upR_n _ nq105_107, upR_n _ nq105_108, upR_n _ nq105_109, upR_n _ nq106_83, upR_n _ nq106_104, upR_n _ nq106_105, upR_n _ nq106_107, upR_n _ nq106_108, upR_n _ nq106_109, upR_n _ nq107_83, upR_n _ nq107_104, upR_n _ nq107_105, upR_n _ nq107_106, upR_n _ nq107_108, upR_n _ nq107_109, upR_n _ nq108_83, upR_n _ nq108_104, upR_n _ nq108_105, upR_n _ nq108_106, upR_n _ nq108_107, upR_n _ nq108_109, upR_n _ nq109_83, upR_n _ nq109_104, upR_n _ nq109_105, upR_n _ nq109_106, upR_n _ nq109_107, upR_n _ nq109_108, upR_s, ur_s, ur_n _ uq31_35, ur_n _ uq31_36, ur_n _ uq35_31, ur_n _ uq35_36, ur_n _ uq36_31, ur_n _ uq36_35, en1, en4, en6]
            refine S_il2 qX7_see_73 ?_
            refine S_iast qX7_see_74 a105 (K := ?_)
            refine S_al0 qX7_see_75 ?_
            refine S_getR qX7_see_76 fX7_114 e83_34 ?_
            refine S_al0 qX7_see_79 ?_
            refine S_getI qX7_see_80 fX7_105 e83_31 ?_
            simp only [upR_n _ nq83_104, upR_n _ nq83_105, upR_n _ nq83_106, upR_n _ nq83_107, upR_n _ nq83_108, upR_n _ nq83_109, upR_n _ nq104_83, upR_n _ nq104_105, upR_n _ nq104_106, upR_n _ nq104_107, upR_n _ nq104_108, upR_n _ nq104_109, upR_n _ nq105_83, upR_n _ nq105_104, upR_n _ nq105_106, upR_n _ nq105_107, upR_n _ nq105_108, upR_n _ nq105_109, upR_n _ nq106_83, upR_n _ nq106_104, upR_n _ nq106_105, upR_n _ nq106_107, upR_n _ nq106_108, upR_n _ nq106_109, upR_n _ nq107_83, upR_n _ nq107_104, upR_n _ nq107_105, upR_n _ nq107_106, upR_n _ nq107_108, upR_n _ nq107_109, upR_n _ nq108_83, upR_n _ nq108_104, upR_n _ nq108_105, upR_n _ nq108_106, upR_n _ nq108_107, upR_n _ nq108_109, upR_n _ nq109_83, upR_n _ nq109_104, upR_n _ nq109_105, upR_n _ nq109_106, upR_n _ nq109_107, upR_n _ nq109_108, upR_s, ur_s, ur_n _ uq31_35, ur_n _ uq31_36, ur_n _ uq35_31, ur_n _ uq35_36, ur_n _ uq36_31, ur_n _ uq36_35, en1, en4, en6]
            refine S_il3 qX7_see_83 ?_
            refine S_iast qX7_see_84 a106 (K := ?_)
            refine S_al0 qX7_see_85 ?_
            refine S_dup (d := qX7_see_86) (k := ?_)
            refine S_getI qX7_see_87 fX7_105 e83_31 ?_
            simp only [upR_n _ nq83_104, upR_n _ nq83_105, upR_n _ nq83_106, upR_n _ nq83_107, upR_n _ nq83_108, upR_n _ nq83_109, upR_n _ nq104_83, upR_n _ nq104_105, upR_n _ nq104_106, upR_n _ nq104_107, upR_n _ nq104_108, upR_n _ nq104_109, upR_n _ nq105_83, upR_n _ nq105_104, upR_n _ nq105_106, upR_n _ nq105_107, upR_n _ nq105_108, upR_n _ nq105_109, upR_n _ nq106_83, upR_n _ nq106_104, upR_n _ nq106_105, upR_n _ nq106_107, upR_n _ nq106_108, upR_n _ nq106_109, upR_n _ nq107_83, upR_n _ nq107_104, upR_n _ nq107_105, upR_n _ nq107_106, upR_n _ nq107_108, upR_n _ nq107_109, upR_n _ nq108_83, upR_n _ nq108_104, upR_n _ nq108_105, upR_n _ nq108_106, upR_n _ nq108_107, upR_n _ nq108_109, upR_n _ nq109_83, upR_n _ nq109_104, upR_n _ nq109_105, upR_n _ nq109_106, upR_n _ nq109_107, upR_n _ nq109_108, upR_s, ur_s, ur_n _ uq31_35, ur_n _ uq31_36, ur_n _ uq35_31, ur_n _ uq35_36, ur_n _ uq36_31, ur_n _ uq36_35, en1, en4, en6]
            refine S_iconst qX7_see_90 ?_
            refine S_iadd qX7_see_91 ?_
            refine S_putI qX7_see_92 fX7_105 e83_31 tX7_31 ?_
            refine S_al0 qX7_see_95 ?_
            refine S_getI qX7_see_96 fX7_105 e83_31 ?_
            simp only [upR_n _ nq83_104, upR_n _ nq83_105, upR_n _ nq83_106, upR_n _ nq83_107, upR_n _ nq83_108, upR_n _ nq83_109, upR_n _ nq104_83, upR_n _ nq104_105, upR_n _ nq104_106, upR_n _ nq104_107, upR_n _ nq104_108, upR_n _ nq104_109, upR_n _ nq105_83, upR_n _ nq105_104, upR_n _ nq105_106, upR_n _ nq105_107, upR_n _ nq105_108, upR_n _ nq105_109, upR_n _ nq106_83, upR_n _ nq106_104, upR_n _ nq106_105, upR_n _ nq106_107, upR_n _ nq106_108, upR_n _ nq106_109, upR_n _ nq107_83, upR_n _ nq107_104, upR_n _ nq107_105, upR_n _ nq107_106, upR_n _ nq107_108, upR_n _ nq107_109, upR_n _ nq108_83, upR_n _ nq108_104, upR_n _ nq108_105, upR_n _ nq108_106, upR_n _ nq108_107, upR_n _ nq108_109, upR_n _ nq109_83, upR_n _ nq109_104, upR_n _ nq109_105, upR_n _ nq109_106, upR_n _ nq109_107, upR_n _ nq109_108, upR_s, ur_s, ur_n _ uq31_35, ur_n _ uq31_36, ur_n _ uq35_31, ur_n _ uq35_36, ur_n _ uq36_31, ur_n _ uq36_35, en1, en4, en6]
            refine S_iret hz qX7_see_99 ?_
            refine RM.to (hZ.nn (N' := (Z.2.2.2.2.1.1 + 1, ur Z.2.2.2.2.1.2.1 Z.2.2.2.2.1.1 d, ur Z.2.2.2.2.1.2.2.1 Z.2.2.2.2.1.1 p, ur Z.2.2.2.2.1.2.2.2.1 Z.2.2.2.2.1.1 n, Z.2.2.2.2.1.2.2.2.2)) ?_ ⟨by show 0 ≤ Z.2.2.2.2.1.1 + 1 ∧ Z.2.2.2.2.1.1 + 1 ≤ 5; omega, fun i hi => ?_, m3, m4, m5, m6⟩ (fun k a b => by simp only [upR_n _ a, upR_n _ (show k ≠ 104 by omega), upR_n _ (show k ≠ 105 by omega), upR_n _ (show k ≠ 106 by omega), upR_n _ (show k ≠ 107 by omega), upR_n _ (show k ≠ 108 by omega), upR_n _ (show k ≠ 109 by omega)]) (fun j a b c => by simp only [upR_n _ nq83_104, upR_n _ nq83_105, upR_n _ nq83_106, upR_n _ nq83_107, upR_n _ nq83_108, upR_n _ nq83_109, upR_n _ nq104_83, upR_n _ nq104_105, upR_n _ nq104_106, upR_n _ nq104_107, upR_n _ nq104_108, upR_n _ nq104_109, upR_n _ nq105_83, upR_n _ nq105_104, upR_n _ nq105_106, upR_n _ nq105_107, upR_n _ nq105_108, upR_n _ nq105_109, upR_n _ nq106_83, upR_n _ nq106_104, upR_n _ nq106_105, upR_n _ nq106_107, upR_n _ nq106_108, upR_n _ nq106_109, upR_n _ nq107_83, upR_n _ nq107_104, upR_n _ nq107_105, upR_n _ nq107_106, upR_n _ nq107_108, upR_n _ nq107_109, upR_n _ nq108_83, upR_n _ nq108_104, upR_n _ nq108_105, upR_n _ nq108_106, upR_n _ nq108_107, upR_n _ nq108_109, upR_n _ nq109_83, upR_n _ nq109_104, upR_n _ nq109_105, upR_n _ nq109_106, upR_n _ nq109_107, upR_n _ nq109_108, upR_s, ur_n _ a, ur_n _ b, ur_n _ c])) (fun k a => by simp only [upR_n _ (show k ≠ 83 by omega), upR_n _ (show k ≠ 104 by omega), upR_n _ (show k ≠ 105 by omega), upR_n _ (show k ≠ 106 by omega), upR_n _ (show k ≠ 107 by omega), upR_n _ (show k ≠ 108 by omega), upR_n _ (show k ≠ 109 by omega)]) ?_
            · unfold snM
              simp only [upR_n _ nq83_104, upR_n _ nq83_105, upR_n _ nq83_106, upR_n _ nq83_107, upR_n _ nq83_108, upR_n _ nq83_109, upR_n _ nq104_83, upR_n _ nq104_105, upR_n _ nq104_106, upR_n _ nq104_107, upR_n _ nq104_108, upR_n _ nq104_109, upR_n _ nq105_83, upR_n _ nq105_104, upR_n _ nq105_106, upR_n _ nq105_107, upR_n _ nq105_108, upR_n _ nq105_109, upR_n _ nq106_83, upR_n _ nq106_104, upR_n _ nq106_105, upR_n _ nq106_107, upR_n _ nq106_108, upR_n _ nq106_109, upR_n _ nq107_83, upR_n _ nq107_104, upR_n _ nq107_105, upR_n _ nq107_106, upR_n _ nq107_108, upR_n _ nq107_109, upR_n _ nq108_83, upR_n _ nq108_104, upR_n _ nq108_105, upR_n _ nq108_106, upR_n _ nq108_107, upR_n _ nq108_109, upR_n _ nq109_83, upR_n _ nq109_104, upR_n _ nq109_105, upR_n _ nq109_106, upR_n _ nq109_107, upR_n _ nq109_108, upR_s, ur_s, ur_n _ uq31_35, ur_n _ uq31_36, ur_n _ uq35_31, ur_n _ uq35_36, ur_n _ uq36_31, ur_n _ uq36_35, en1, en4, en6, e4, e5, e6, e7, e8, e9]
            · replace hi : 0 ≤ i ∧ i < Z.2.2.2.2.1.1 + 1 := hi
              show (0 ≤ ur Z.2.2.2.2.1.2.1 Z.2.2.2.2.1.1 d i ∧ ur Z.2.2.2.2.1.2.1 Z.2.2.2.2.1.1 d i < Z.1.1) ∧ (0 ≤ ur Z.2.2.2.2.1.2.2.1 Z.2.2.2.2.1.1 p i ∧ ur Z.2.2.2.2.1.2.2.1 Z.2.2.2.2.1.1 p i ≤ 98) ∧ (0 ≤ ur Z.2.2.2.2.1.2.2.2.1 Z.2.2.2.2.1.1 n i ∧ ur Z.2.2.2.2.1.2.2.2.1 Z.2.2.2.2.1.1 n i ≤ 12)
              by_cases e : i = Z.2.2.2.2.1.1
              · rw [e, ur_s, ur_s, ur_s]; omega
              · rw [ur_n _ e, ur_n _ e, ur_n _ e]
                exact m2 i (by omega)
            · unfold nSee
              rw [if_neg (by omega), if_neg (by omega), if_neg (by omega), if_neg (by omega)]
          · refine S_bipush (d := qX7_see_52) (k := ?_)
            refine S_iret hz qX7_see_54 ?_
            refine RM.eq hZ ?_
            unfold nSee
            first | (rw [if_pos (by omega)]; done) | (rw [if_neg (by omega), if_pos (by omega)]; done) | (rw [if_neg (by omega), if_neg (by omega), if_pos (by omega)]; done) | (rw [if_neg (by omega), if_neg (by omega), if_neg (by omega), if_pos (by omega)]; done)
        · refine S_if_ne (d := qX7_see_38) (kt := fun c => absurd c (by decide)) (kf := fun _ => ?_)
          refine S_bipush (d := qX7_see_41) (k := ?_)
          refine S_iret hz qX7_see_43 ?_
          refine RM.eq hZ ?_
          unfold nSee
          first | (rw [if_pos (by omega)]; done) | (rw [if_neg (by omega), if_pos (by omega)]; done) | (rw [if_neg (by omega), if_neg (by omega), if_pos (by omega)]; done) | (rw [if_neg (by omega), if_neg (by omega), if_neg (by omega), if_pos (by omega)]; done)
      · refine S_if_eq (d := qX7_see_27) (kt := fun _ => ?_) (kf := fun c => absurd c (by decide))
        refine S_bipush (d := qX7_see_41) (k := ?_)
        refine S_iret hz qX7_see_43 ?_
        refine RM.eq hZ ?_
        unfold nSee
        first | (rw [if_pos (by omega)]; done) | (rw [if_neg (by omega), if_pos (by omega)]; done) | (rw [if_neg (by omega), if_neg (by omega), if_pos (by omega)]; done) | (rw [if_neg (by omega), if_neg (by omega), if_neg (by omega), if_pos (by omega)]; done)
    · refine S_if_ne (d := qX7_see_17) (kt := fun c => absurd c (by decide)) (kf := fun _ => ?_)
      refine S_iconst qX7_see_20 ?_
      refine S_iret hz qX7_see_21 ?_
      refine RM.eq hZ ?_
      unfold nSee
      first | (rw [if_pos (by omega)]; done) | (rw [if_neg (by omega), if_pos (by omega)]; done) | (rw [if_neg (by omega), if_neg (by omega), if_pos (by omega)]; done) | (rw [if_neg (by omega), if_neg (by omega), if_neg (by omega), if_pos (by omega)]; done)
  · refine S_al0 qX7_see_5 ?_
    refine S_iconst qX7_see_6 ?_
    refine S_putI qX7_see_7 fX7_105 e83_31 tX7_31 ?_
    refine S_iconst qX7_see_10 ?_
    refine S_iret hz qX7_see_11 ?_
    refine RM.to (hZ.nn (N' := (0, Z.2.2.2.2.1.2)) ?_ ⟨by show (0 : Int) ≤ 0 ∧ (0 : Int) ≤ 5; omega, fun i hi => by exfalso; replace hi : 0 ≤ i ∧ i < 0 := hi; omega, m3, m4, m5, m6⟩ (fun k a b => by simp only [upR_n _ a, upR_n _ (show k ≠ 104 by omega), upR_n _ (show k ≠ 105 by omega), upR_n _ (show k ≠ 106 by omega), upR_n _ (show k ≠ 107 by omega), upR_n _ (show k ≠ 108 by omega), upR_n _ (show k ≠ 109 by omega)]) (fun j a b c => by simp only [upR_n _ nq83_104, upR_n _ nq83_105, upR_n _ nq83_106, upR_n _ nq83_107, upR_n _ nq83_108, upR_n _ nq83_109, upR_n _ nq104_83, upR_n _ nq104_105, upR_n _ nq104_106, upR_n _ nq104_107, upR_n _ nq104_108, upR_n _ nq104_109, upR_n _ nq105_83, upR_n _ nq105_104, upR_n _ nq105_106, upR_n _ nq105_107, upR_n _ nq105_108, upR_n _ nq105_109, upR_n _ nq106_83, upR_n _ nq106_104, upR_n _ nq106_105, upR_n _ nq106_107, upR_n _ nq106_108, upR_n _ nq106_109, upR_n _ nq107_83, upR_n _ nq107_104, upR_n _ nq107_105, upR_n _ nq107_106, upR_n _ nq107_108, upR_n _ nq107_109, upR_n _ nq108_83, upR_n _ nq108_104, upR_n _ nq108_105, upR_n _ nq108_106, upR_n _ nq108_107, upR_n _ nq108_109, upR_n _ nq109_83, upR_n _ nq109_104, upR_n _ nq109_105, upR_n _ nq109_106, upR_n _ nq109_107, upR_n _ nq109_108, upR_s, ur_n _ a, ur_n _ b, ur_n _ c])) (fun k a => by simp only [upR_n _ (show k ≠ 83 by omega), upR_n _ (show k ≠ 104 by omega), upR_n _ (show k ≠ 105 by omega), upR_n _ (show k ≠ 106 by omega), upR_n _ (show k ≠ 107 by omega), upR_n _ (show k ≠ 108 by omega), upR_n _ (show k ≠ 109 by omega)]) ?_
    · unfold snM
      simp only [upR_n _ nq83_104, upR_n _ nq83_105, upR_n _ nq83_106, upR_n _ nq83_107, upR_n _ nq83_108, upR_n _ nq83_109, upR_n _ nq104_83, upR_n _ nq104_105, upR_n _ nq104_106, upR_n _ nq104_107, upR_n _ nq104_108, upR_n _ nq104_109, upR_n _ nq105_83, upR_n _ nq105_104, upR_n _ nq105_106, upR_n _ nq105_107, upR_n _ nq105_108, upR_n _ nq105_109, upR_n _ nq106_83, upR_n _ nq106_104, upR_n _ nq106_105, upR_n _ nq106_107, upR_n _ nq106_108, upR_n _ nq106_109, upR_n _ nq107_83, upR_n _ nq107_104, upR_n _ nq107_105, upR_n _ nq107_106, upR_n _ nq107_108, upR_n _ nq107_109, upR_n _ nq108_83, upR_n _ nq108_104, upR_n _ nq108_105, upR_n _ nq108_106, upR_n _ nq108_107, upR_n _ nq108_109, upR_n _ nq109_83, upR_n _ nq109_104, upR_n _ nq109_105, upR_n _ nq109_106, upR_n _ nq109_107, upR_n _ nq109_108, upR_s, ur_s, ur_n _ uq31_35, ur_n _ uq31_36, ur_n _ uq35_31, ur_n _ uq35_36, ur_n _ uq36_31, ur_n _ uq36_35, en1, en4, en6, e4, e5, e6, e7, e8, e9]
    · unfold nSee
      rw [if_pos (by omega)]

theorem m_dance {g : GC} {V : MM} {Z : ZT} {w : Int} (hZ : MA V Z) (rw : -2147483648 ≤ w ∧ w ≤ 2147483647) : Ct g mX7_dance 8 [vr 83, vi w] V (RM V (nDance Z w).1 (nDance Z w).2) := by
  refine Ct.of (ls := [some (vr 83), some (vi w)]) (plainFor_of_name (by decide +kernel)) rfl (by exact Nat.le_of_ble_eq_true rfl) (fun X hz hD => ?_)
  obtain ⟨M, hI0, hn6, hbb, hwz, hkz⟩ := hZ.pf
  have hT := Tm.rf V
  obtain ⟨r1, r2, r3⟩ := hZ.2.2.2.2.2.1
  obtain ⟨hN, hNI⟩ := hZ.2.2.2.1
  have c7 := hZ.2.1.1
  have c9 := hZ.2.2.1.1
  have en1 : V 83 31 = Z.2.2.2.2.1.1 := by rw [← hN]
  have en4 : V 83 35 = Z.2.2.2.2.1.2.2.2.2.1 := by rw [← hN]
  have en6 : V 83 36 = Z.2.2.2.2.1.2.2.2.2.2.2.1 := by rw [← hN]
  have en0 := M.n
  obtain ⟨m1, m2, m3, m4, m5, m6⟩ := id hNI
  have e4 : V 104 = Z.2.2.2.2.1.2.1 := by rw [← hN]
  have e5 : V 105 = Z.2.2.2.2.1.2.2.1 := by rw [← hN]
  have e6 : V 106 = Z.2.2.2.2.1.2.2.2.1 := by rw [← hN]
  have e7 : V 107 = Z.2.2.2.2.1.2.2.2.2.2.1 := by rw [← hN]
  have e8 : V 108 = Z.2.2.2.2.1.2.2.2.2.2.2.2.1 := by rw [← hN]
  have e9 : V 109 = Z.2.2.2.2.1.2.2.2.2.2.2.2.2 := by rw [← hN]
  refine S_il1 qX7_dance_0 ?_
  refine S_iconst qX7_dance_1 ?_
  refine S_icmp_ne (d := qX7_dance_2) (kt := fun c2 => ?_) (kf := fun c2 => ?_)
  · refine S_al0 qX7_dance_12 ?_
    refine S_il1 qX7_dance_13 ?_
    refine S_iconst qX7_dance_14 ?_
    refine S_iconst qX7_dance_15 ?_
    refine S_V3B hD qX7_dance_16 lX7_206 vX7_in r83 (m_in (by omega) (by omega) (by omega)) (kt := fun j16 => ?_) (kf := fun j16 => ?_)
    · refine S_if_ne (d := qX7_dance_19) (kt := fun _ => ?_) (kf := fun c => absurd c (by decide))
      refine S_al0 qX7_dance_24 ?_
      refine S_getI qX7_dance_25 fX7_117 e83_35 ?_
      rw [en4]
      refine S_bipush (d := qX7_dance_28) (k := ?_)
      refine S_icmp_ne (d := qX7_dance_30) (kt := fun c30 => ?_) (kf := fun c30 => ?_)
      · refine S_al0 qX7_dance_36 ?_
        refine S_getR qX7_dance_37 fX7_123 e83_37 ?_
        refine S_al0 qX7_dance_40 ?_
        refine S_getI qX7_dance_41 fX7_117 e83_35 ?_
        simp only [upR_n _ nq83_104, upR_n _ nq83_105, upR_n _ nq83_106, upR_n _ nq83_107, upR_n _ nq83_108, upR_n _ nq83_109, upR_n _ nq104_83, upR_n _ nq104_105, upR_n _ nq104_106, upR_n _ nq104_107, upR_n _ nq104_108, upR_n _ nq104_109, upR_n _ nq105_83, upR_n _ nq105_104, upR_n _ nq105_106, upR_n _ nq105_107, upR_n _ nq105_108, upR_n _ nq105_109, upR_n _ nq106_83, upR_n _ nq106_104, upR_n _ nq106_105, upR_n _ nq106_107, upR_n _ nq106_108, upR_n _ nq106_109, upR_n _ nq107_83, upR_n _ nq107_104, upR_n _ nq107_105, upR_n _ nq107_106, upR_n _ nq107_108, upR_n _ nq107_109, upR_n _ nq108_83, upR_n _ nq108_104, upR_n _ nq108_105, upR_n _ nq108_106, upR_n _ nq108_107, upR_n _ nq108_109, upR_n _ nq109_83, upR_n _ nq109_104, upR_n _ nq109_105, upR_n _ nq109_106, upR_n _ nq109_107, upR_n _ nq109_108, upR_s, ur_s, ur_n _ uq31_35, ur_n _ uq31_36, ur_n _ uq35_31, ur_n _ uq35_36, ur_n _ uq36_31, ur_n _ uq36_35, en1, en4, en6]
        refine S_il1 qX7_dance_44 ?_
        refine S_iast qX7_dance_45 a107 (K := ?_)
        refine S_al0 qX7_dance_46 ?_
        refine S_dup (d := qX7_dance_47) (k := ?_)
        refine S_getI qX7_dance_48 fX7_117 e83_35 ?_
        simp only [upR_n _ nq83_104, upR_n _ nq83_105, upR_n _ nq83_106, upR_n _ nq83_107, upR_n _ nq83_108, upR_n _ nq83_109, upR_n _ nq104_83, upR_n _ nq104_105, upR_n _ nq104_106, upR_n _ nq104_107, upR_n _ nq104_108, upR_n _ nq104_109, upR_n _ nq105_83, upR_n _ nq105_104, upR_n _ nq105_106, upR_n _ nq105_107, upR_n _ nq105_108, upR_n _ nq105_109, upR_n _ nq106_83, upR_n _ nq106_104, upR_n _ nq106_105, upR_n _ nq106_107, upR_n _ nq106_108, upR_n _ nq106_109, upR_n _ nq107_83, upR_n _ nq107_104, upR_n _ nq107_105, upR_n _ nq107_106, upR_n _ nq107_108, upR_n _ nq107_109, upR_n _ nq108_83, upR_n _ nq108_104, upR_n _ nq108_105, upR_n _ nq108_106, upR_n _ nq108_107, upR_n _ nq108_109, upR_n _ nq109_83, upR_n _ nq109_104, upR_n _ nq109_105, upR_n _ nq109_106, upR_n _ nq109_107, upR_n _ nq109_108, upR_s, ur_s, ur_n _ uq31_35, ur_n _ uq31_36, ur_n _ uq35_31, ur_n _ uq35_36, ur_n _ uq36_31, ur_n _ uq36_35, en1, en4, en6]
        refine S_iconst qX7_dance_51 ?_
        refine S_iadd qX7_dance_52 ?_
        refine S_putI qX7_dance_53 fX7_117 e83_35 tX7_35 ?_
        refine S_al0 qX7_dance_56 ?_
        refine S_getI qX7_dance_57 fX7_117 e83_35 ?_
        simp only [upR_n _ nq83_104, upR_n _ nq83_105, upR_n _ nq83_106, upR_n _ nq83_107, upR_n _ nq83_108, upR_n _ nq83_109, upR_n _ nq104_83, upR_n _ nq104_105, upR_n _ nq104_106, upR_n _ nq104_107, upR_n _ nq104_108, upR_n _ nq104_109, upR_n _ nq105_83, upR_n _ nq105_104, upR_n _ nq105_106, upR_n _ nq105_107, upR_n _ nq105_108, upR_n _ nq105_109, upR_n _ nq106_83, upR_n _ nq106_104, upR_n _ nq106_105, upR_n _ nq106_107, upR_n _ nq106_108, upR_n _ nq106_109, upR_n _ nq107_83, upR_n _ nq107_104, upR_n _ nq107_105, upR_n _ nq107_106, upR_n _ nq107_108, upR_n _ nq107_109, upR_n _ nq108_83, upR_n _ nq108_104, upR_n _ nq108_105, upR_n _ nq108_106, upR_n _ nq108_107, upR_n _ nq108_109, upR_n _ nq109_83, upR_n _ nq109_104, upR_n _ nq109_105, upR_n _ nq109_106, upR_n _ nq109_107, upR_n _ nq109_108, upR_s, ur_s, ur_n _ uq31_35, ur_n _ uq31_36, ur_n _ uq35_31, ur_n _ uq35_36, ur_n _ uq36_31, ur_n _ uq36_35, en1, en4, en6]
        refine S_iret hz qX7_dance_60 ?_
        refine RM.to (hZ.nn (N' := (Z.2.2.2.2.1.1, Z.2.2.2.2.1.2.1, Z.2.2.2.2.1.2.2.1, Z.2.2.2.2.1.2.2.2.1, Z.2.2.2.2.1.2.2.2.2.1 + 1, ur Z.2.2.2.2.1.2.2.2.2.2.1 Z.2.2.2.2.1.2.2.2.2.1 w, Z.2.2.2.2.1.2.2.2.2.2.2)) ?_ ⟨m1, m2, by show 0 ≤ Z.2.2.2.2.1.2.2.2.2.1 + 1 ∧ Z.2.2.2.2.1.2.2.2.2.1 + 1 ≤ 10; omega, fun i hi => ?_, m5, m6⟩ (fun k a b => by simp only [upR_n _ a, upR_n _ (show k ≠ 104 by omega), upR_n _ (show k ≠ 105 by omega), upR_n _ (show k ≠ 106 by omega), upR_n _ (show k ≠ 107 by omega), upR_n _ (show k ≠ 108 by omega), upR_n _ (show k ≠ 109 by omega)]) (fun j a b c => by simp only [upR_n _ nq83_104, upR_n _ nq83_105, upR_n _ nq83_106, upR_n _ nq83_107, upR_n _ nq83_108, upR_n _ nq83_109, upR_n _ nq104_83, upR_n _ nq104_105, upR_n _ nq104_106, upR_n _ nq104_107, upR_n _ nq104_108, upR_n _ nq104_109, upR_n _ nq105_83, upR_n _ nq105_104, upR_n _ nq105_106, upR_n _ nq105_107, upR_n _ nq105_108, upR_n _ nq105_109, upR_n _ nq106_83, upR_n _ nq106_104, upR_n _ nq106_105, upR_n _ nq106_107, upR_n _ nq106_108, upR_n _ nq106_109, upR_n _ nq107_83, upR_n _ nq107_104, upR_n _ nq107_105, upR_n _ nq107_106, upR_n _ nq107_108, upR_n _ nq107_109, upR_n _ nq108_83, upR_n _ nq108_104, upR_n _ nq108_105, upR_n _ nq108_106, upR_n _ nq108_107, upR_n _ nq108_109, upR_n _ nq109_83, upR_n _ nq109_104, upR_n _ nq109_105, upR_n _ nq109_106, upR_n _ nq109_107, upR_n _ nq109_108, upR_s, ur_n _ a, ur_n _ b, ur_n _ c])) (fun k a => by simp only [upR_n _ (show k ≠ 83 by omega), upR_n _ (show k ≠ 104 by omega), upR_n _ (show k ≠ 105 by omega), upR_n _ (show k ≠ 106 by omega), upR_n _ (show k ≠ 107 by omega), upR_n _ (show k ≠ 108 by omega), upR_n _ (show k ≠ 109 by omega)]) ?_
        · unfold snM
          simp only [upR_n _ nq83_104, upR_n _ nq83_105, upR_n _ nq83_106, upR_n _ nq83_107, upR_n _ nq83_108, upR_n _ nq83_109, upR_n _ nq104_83, upR_n _ nq104_105, upR_n _ nq104_106, upR_n _ nq104_107, upR_n _ nq104_108, upR_n _ nq104_109, upR_n _ nq105_83, upR_n _ nq105_104, upR_n _ nq105_106, upR_n _ nq105_107, upR_n _ nq105_108, upR_n _ nq105_109, upR_n _ nq106_83, upR_n _ nq106_104, upR_n _ nq106_105, upR_n _ nq106_107, upR_n _ nq106_108, upR_n _ nq106_109, upR_n _ nq107_83, upR_n _ nq107_104, upR_n _ nq107_105, upR_n _ nq107_106, upR_n _ nq107_108, upR_n _ nq107_109, upR_n _ nq108_83, upR_n _ nq108_104, upR_n _ nq108_105, upR_n _ nq108_106, upR_n _ nq108_107, upR_n _ nq108_109, upR_n _ nq109_83, upR_n _ nq109_104, upR_n _ nq109_105, upR_n _ nq109_106, upR_n _ nq109_107, upR_n _ nq109_108, upR_s, ur_s, ur_n _ uq31_35, ur_n _ uq31_36, ur_n _ uq35_31, ur_n _ uq35_36, ur_n _ uq36_31, ur_n _ uq36_35, en1, en4, en6, e4, e5, e6, e7, e8, e9]
        · replace hi : 0 ≤ i ∧ i < Z.2.2.2.2.1.2.2.2.2.1 + 1 := hi
          show 0 ≤ ur Z.2.2.2.2.1.2.2.2.2.2.1 Z.2.2.2.2.1.2.2.2.2.1 w i ∧ ur Z.2.2.2.2.1.2.2.2.2.2.1 Z.2.2.2.2.1.2.2.2.2.1 w i ≤ 2
          by_cases e : i = Z.2.2.2.2.1.2.2.2.2.1
          · rw [e, ur_s]; omega
          · rw [ur_n _ e]
            exact m4 i (by omega)
        · unfold nDance
          rw [if_neg (by omega), if_neg (by omega), if_neg (by omega)]
      · refine S_bipush (d := qX7_dance_33) (k := ?_)
        refine S_iret hz qX7_dance_35 ?_
        refine RM.eq hZ ?_
        unfold nDance
        first | (rw [if_pos (by omega)]; done) | (rw [if_neg (by omega), if_pos (by omega)]; done) | (rw [if_neg (by omega), if_neg (by omega), if_pos (by omega)]; done) | (rw [if_neg (by omega), if_neg (by omega), if_neg (by omega), if_pos (by omega)]; done)
    · refine S_if_ne (d := qX7_dance_19) (kt := fun c => absurd c (by decide)) (kf := fun _ => ?_)
      refine S_iconst qX7_dance_22 ?_
      refine S_iret hz qX7_dance_23 ?_
      refine RM.eq hZ ?_
      unfold nDance
      first | (rw [if_pos (by omega)]; done) | (rw [if_neg (by omega), if_pos (by omega)]; done) | (rw [if_neg (by omega), if_neg (by omega), if_pos (by omega)]; done) | (rw [if_neg (by omega), if_neg (by omega), if_neg (by omega), if_pos (by omega)]; done)
  · refine S_al0 qX7_dance_5 ?_
    refine S_iconst qX7_dance_6 ?_
    refine S_putI qX7_dance_7 fX7_117 e83_35 tX7_35 ?_
    refine S_iconst qX7_dance_10 ?_
    refine S_iret hz qX7_dance_11 ?_
    refine RM.to (hZ.nn (N' := (Z.2.2.2.2.1.1, Z.2.2.2.2.1.2.1, Z.2.2.2.2.1.2.2.1, Z.2.2.2.2.1.2.2.2.1, 0, Z.2.2.2.2.1.2.2.2.2.2)) ?_ ⟨m1, m2, by show (0 : Int) ≤ 0 ∧ (0 : Int) ≤ 10; omega, fun i hi => by exfalso; replace hi : 0 ≤ i ∧ i < 0 := hi; omega, m5, m6⟩ (fun k a b => by simp only [upR_n _ a, upR_n _ (show k ≠ 104 by omega), upR_n _ (show k ≠ 105 by omega), upR_n _ (show k ≠ 106 by omega), upR_n _ (show k ≠ 107 by omega), upR_n _ (show k ≠ 108 by omega), upR_n _ (show k ≠ 109 by omega)]) (fun j a b c => by simp only [upR_n _ nq83_104, upR_n _ nq83_105, upR_n _ nq83_106, upR_n _ nq83_107, upR_n _ nq83_108, upR_n _ nq83_109, upR_n _ nq104_83, upR_n _ nq104_105, upR_n _ nq104_106, upR_n _ nq104_107, upR_n _ nq104_108, upR_n _ nq104_109, upR_n _ nq105_83, upR_n _ nq105_104, upR_n _ nq105_106, upR_n _ nq105_107, upR_n _ nq105_108, upR_n _ nq105_109, upR_n _ nq106_83, upR_n _ nq106_104, upR_n _ nq106_105, upR_n _ nq106_107, upR_n _ nq106_108, upR_n _ nq106_109, upR_n _ nq107_83, upR_n _ nq107_104, upR_n _ nq107_105, upR_n _ nq107_106, upR_n _ nq107_108, upR_n _ nq107_109, upR_n _ nq108_83, upR_n _ nq108_104, upR_n _ nq108_105, upR_n _ nq108_106, upR_n _ nq108_107, upR_n _ nq108_109, upR_n _ nq109_83, upR_n _ nq109_104, upR_n _ nq109_105, upR_n _ nq109_106, upR_n _ nq109_107, upR_n _ nq109_108, upR_s, ur_n _ a, ur_n _ b, ur_n _ c])) (fun k a => by simp only [upR_n _ (show k ≠ 83 by omega), upR_n _ (show k ≠ 104 by omega), upR_n _ (show k ≠ 105 by omega), upR_n _ (show k ≠ 106 by omega), upR_n _ (show k ≠ 107 by omega), upR_n _ (show k ≠ 108 by omega), upR_n _ (show k ≠ 109 by omega)]) ?_
    · unfold snM
      simp only [upR_n _ nq83_104, upR_n _ nq83_105, upR_n _ nq83_106, upR_n _ nq83_107, upR_n _ nq83_108, upR_n _ nq83_109, upR_n _ nq104_83, upR_n _ nq104_105, upR_n _ nq104_106, upR_n _ nq104_107, upR_n _ nq104_108, upR_n _ nq104_109, upR_n _ nq105_83, upR_n _ nq105_104, upR_n _ nq105_106, upR_n _ nq105_107, upR_n _ nq105_108, upR_n _ nq105_109, upR_n _ nq106_83, upR_n _ nq106_104, upR_n _ nq106_105, upR_n _ nq106_107, upR_n _ nq106_108, upR_n _ nq106_109, upR_n _ nq107_83, upR_n _ nq107_104, upR_n _ nq107_105, upR_n _ nq107_106, upR_n _ nq107_108, upR_n _ nq107_109, upR_n _ nq108_83, upR_n _ nq108_104, upR_n _ nq108_105, upR_n _ nq108_106, upR_n _ nq108_107, upR_n _ nq108_109, upR_n _ nq109_83, upR_n _ nq109_104, upR_n _ nq109_105, upR_n _ nq109_106, upR_n _ nq109_107, upR_n _ nq109_108, upR_s, ur_s, ur_n _ uq31_35, ur_n _ uq31_36, ur_n _ uq35_31, ur_n _ uq35_36, ur_n _ uq36_31, ur_n _ uq36_35, en1, en4, en6, e4, e5, e6, e7, e8, e9]
    · unfold nDance
      rw [if_pos (by omega)]

theorem m_book {g : GC} {V : MM} {Z : ZT} {d p : Int} (hZ : MA V Z) (rd : -2147483648 ≤ d ∧ d ≤ 2147483647) (rp : -2147483648 ≤ p ∧ p ≤ 2147483647) : Ct g mX7_book 8 [vr 83, vi d, vi p] V (RM V (nBook Z d p).1 (nBook Z d p).2) := by
  refine Ct.of (ls := [some (vr 83), some (vi d), some (vi p)]) (plainFor_of_name (by decide +kernel)) rfl (by exact Nat.le_of_ble_eq_true rfl) (fun X hz hD => ?_)
  obtain ⟨M, hI0, hn6, hbb, hwz, hkz⟩ := hZ.pf
  have hT := Tm.rf V
  obtain ⟨r1, r2, r3⟩ := hZ.2.2.2.2.2.1
  obtain ⟨hN, hNI⟩ := hZ.2.2.2.1
  have c7 := hZ.2.1.1
  have c9 := hZ.2.2.1.1
  have en1 : V 83 31 = Z.2.2.2.2.1.1 := by rw [← hN]
  have en4 : V 83 35 = Z.2.2.2.2.1.2.2.2.2.1 := by rw [← hN]
  have en6 : V 83 36 = Z.2.2.2.2.1.2.2.2.2.2.2.1 := by rw [← hN]
  have en0 := M.n
  obtain ⟨m1, m2, m3, m4, m5, m6⟩ := id hNI
  have e4 : V 104 = Z.2.2.2.2.1.2.1 := by rw [← hN]
  have e5 : V 105 = Z.2.2.2.2.1.2.2.1 := by rw [← hN]
  have e6 : V 106 = Z.2.2.2.2.1.2.2.2.1 := by rw [← hN]
  have e7 : V 107 = Z.2.2.2.2.1.2.2.2.2.2.1 := by rw [← hN]
  have e8 : V 108 = Z.2.2.2.2.1.2.2.2.2.2.2.2.1 := by rw [← hN]
  have e9 : V 109 = Z.2.2.2.2.1.2.2.2.2.2.2.2.2 := by rw [← hN]
  refine S_il1 qX7_book_0 ?_
  refine S_iconst qX7_book_1 ?_
  refine S_icmp_ne (d := qX7_book_2) (kt := fun c2 => ?_) (kf := fun c2 => ?_)
  · refine S_al0 qX7_book_12 ?_
    refine S_il1 qX7_book_13 ?_
    refine S_V1B hD qX7_book_14 lX7_218 vX7_isDancer r83 (m_isDancer M (by omega)) (kt := fun j14 => ?_) (kf := fun j14 => ?_)
    · refine S_if_ne (d := qX7_book_17) (kt := fun _ => ?_) (kf := fun c => absurd c (by decide))
      refine S_al0 qX7_book_22 ?_
      refine S_il2 qX7_book_23 ?_
      refine S_V1B hD qX7_book_24 lX7_333 vX7_isPlace r83 (m_isPlace (by omega)) (kt := fun j24 => ?_) (kf := fun j24 => ?_)
      · refine S_if_ne (d := qX7_book_27) (kt := fun _ => ?_) (kf := fun c => absurd c (by decide))
        refine S_al0 qX7_book_33 ?_
        refine S_getI qX7_book_34 fX7_120 e83_36 ?_
        rw [en6]
        refine S_bipush (d := qX7_book_37) (k := ?_)
        refine S_icmp_ne (d := qX7_book_39) (kt := fun c39 => ?_) (kf := fun c39 => ?_)
        · refine S_al0 qX7_book_45 ?_
          refine S_getR qX7_book_46 fX7_126 e83_38 ?_
          refine S_al0 qX7_book_49 ?_
          refine S_getI qX7_book_50 fX7_120 e83_36 ?_
          simp only [upR_n _ nq83_104, upR_n _ nq83_105, upR_n _ nq83_106, upR_n _ nq83_107, upR_n _ nq83_108, upR_n _ nq83_109, upR_n _ nq104_83, upR_n _ nq104_105, upR_n _ nq104_106, upR_n _ nq104_107, upR_n _ nq104_108, upR_n _ nq104_109, upR_n _ nq105_83, upR_n _ nq105_104, upR_n _ nq105_106, upR_n _ nq105_107, upR_n _ nq105_108, upR_n _ nq105_109, upR_n _ nq106_83, upR_n _ nq106_104, upR_n _ nq106_105, upR_n _ nq106_107, upR_n _ nq106_108, upR_n _ nq106_109, upR_n _ nq107_83, upR_n _ nq107_104, upR_n _ nq107_105, upR_n _ nq107_106, upR_n _ nq107_108, upR_n _ nq107_109, upR_n _ nq108_83, upR_n _ nq108_104, upR_n _ nq108_105, upR_n _ nq108_106, upR_n _ nq108_107, upR_n _ nq108_109, upR_n _ nq109_83, upR_n _ nq109_104, upR_n _ nq109_105, upR_n _ nq109_106, upR_n _ nq109_107, upR_n _ nq109_108, upR_s, ur_s, ur_n _ uq31_35, ur_n _ uq31_36, ur_n _ uq35_31, ur_n _ uq35_36, ur_n _ uq36_31, ur_n _ uq36_35, en1, en4, en6]
          refine S_il1 qX7_book_53 ?_
          refine S_iast qX7_book_54 a108 (K := ?_)
          refine S_al0 qX7_book_55 ?_
          refine S_getR qX7_book_56 fX7_129 e83_39 ?_
          refine S_al0 qX7_book_59 ?_
          refine S_getI qX7_book_60 fX7_120 e83_36 ?_
          simp only [upR_n _ nq83_104, upR_n _ nq83_105, upR_n _ nq83_106, upR_n _ nq83_107, upR_n _ nq83_108, upR_n _ nq83_109, upR_n _ nq104_83, upR_n _ nq104_105, upR_n _ nq104_106, upR_n _ nq104_107, upR_n _ nq104_108, upR_n _ nq104_109, upR_n _ nq105_83, upR_n _ nq105_104, upR_n _ nq105_106, upR_n _ nq105_107, upR_n _ nq105_108, upR_n _ nq105_109, upR_n _ nq106_83, upR_n _ nq106_104, upR_n _ nq106_105, upR_n _ nq106_107, upR_n _ nq106_108, upR_n _ nq106_109, upR_n _ nq107_83, upR_n _ nq107_104, upR_n _ nq107_105, upR_n _ nq107_106, upR_n _ nq107_108, upR_n _ nq107_109, upR_n _ nq108_83, upR_n _ nq108_104, upR_n _ nq108_105, upR_n _ nq108_106, upR_n _ nq108_107, upR_n _ nq108_109, upR_n _ nq109_83, upR_n _ nq109_104, upR_n _ nq109_105, upR_n _ nq109_106, upR_n _ nq109_107, upR_n _ nq109_108, upR_s, ur_s, ur_n _ uq31_35, ur_n _ uq31_36, ur_n _ uq35_31, ur_n _ uq35_36, ur_n _ uq36_31, ur_n _ uq36_35, en1, en4, en6]
          refine S_il2 qX7_book_63 ?_
          refine S_iast qX7_book_64 a109 (K := ?_)
          refine S_al0 qX7_book_65 ?_
          refine S_dup (d := qX7_book_66) (k := ?_)
          refine S_getI qX7_book_67 fX7_120 e83_36 ?_
          simp only [upR_n _ nq83_104, upR_n _ nq83_105, upR_n _ nq83_106, upR_n _ nq83_107, upR_n _ nq83_108, upR_n _ nq83_109, upR_n _ nq104_83, upR_n _ nq104_105, upR_n _ nq104_106, upR_n _ nq104_107, upR_n _ nq104_108, upR_n _ nq104_109, upR_n _ nq105_83, upR_n _ nq105_104, upR_n _ nq105_106, upR_n _ nq105_107, upR_n _ nq105_108, upR_n _ nq105_109, upR_n _ nq106_83, upR_n _ nq106_104, upR_n _ nq106_105, upR_n _ nq106_107, upR_n _ nq106_108, upR_n _ nq106_109, upR_n _ nq107_83, upR_n _ nq107_104, upR_n _ nq107_105, upR_n _ nq107_106, upR_n _ nq107_108, upR_n _ nq107_109, upR_n _ nq108_83, upR_n _ nq108_104, upR_n _ nq108_105, upR_n _ nq108_106, upR_n _ nq108_107, upR_n _ nq108_109, upR_n _ nq109_83, upR_n _ nq109_104, upR_n _ nq109_105, upR_n _ nq109_106, upR_n _ nq109_107, upR_n _ nq109_108, upR_s, ur_s, ur_n _ uq31_35, ur_n _ uq31_36, ur_n _ uq35_31, ur_n _ uq35_36, ur_n _ uq36_31, ur_n _ uq36_35, en1, en4, en6]
          refine S_iconst qX7_book_70 ?_
          refine S_iadd qX7_book_71 ?_
          refine S_putI qX7_book_72 fX7_120 e83_36 tX7_36 ?_
          refine S_al0 qX7_book_75 ?_
          refine S_getI qX7_book_76 fX7_120 e83_36 ?_
          simp only [upR_n _ nq83_104, upR_n _ nq83_105, upR_n _ nq83_106, upR_n _ nq83_107, upR_n _ nq83_108, upR_n _ nq83_109, upR_n _ nq104_83, upR_n _ nq104_105, upR_n _ nq104_106, upR_n _ nq104_107, upR_n _ nq104_108, upR_n _ nq104_109, upR_n _ nq105_83, upR_n _ nq105_104, upR_n _ nq105_106, upR_n _ nq105_107, upR_n _ nq105_108, upR_n _ nq105_109, upR_n _ nq106_83, upR_n _ nq106_104, upR_n _ nq106_105, upR_n _ nq106_107, upR_n _ nq106_108, upR_n _ nq106_109, upR_n _ nq107_83, upR_n _ nq107_104, upR_n _ nq107_105, upR_n _ nq107_106, upR_n _ nq107_108, upR_n _ nq107_109, upR_n _ nq108_83, upR_n _ nq108_104, upR_n _ nq108_105, upR_n _ nq108_106, upR_n _ nq108_107, upR_n _ nq108_109, upR_n _ nq109_83, upR_n _ nq109_104, upR_n _ nq109_105, upR_n _ nq109_106, upR_n _ nq109_107, upR_n _ nq109_108, upR_s, ur_s, ur_n _ uq31_35, ur_n _ uq31_36, ur_n _ uq35_31, ur_n _ uq35_36, ur_n _ uq36_31, ur_n _ uq36_35, en1, en4, en6]
          refine S_iret hz qX7_book_79 ?_
          refine RM.to (hZ.nn (N' := (Z.2.2.2.2.1.1, Z.2.2.2.2.1.2.1, Z.2.2.2.2.1.2.2.1, Z.2.2.2.2.1.2.2.2.1, Z.2.2.2.2.1.2.2.2.2.1, Z.2.2.2.2.1.2.2.2.2.2.1, Z.2.2.2.2.1.2.2.2.2.2.2.1 + 1, ur Z.2.2.2.2.1.2.2.2.2.2.2.2.1 Z.2.2.2.2.1.2.2.2.2.2.2.1 d, ur Z.2.2.2.2.1.2.2.2.2.2.2.2.2 Z.2.2.2.2.1.2.2.2.2.2.2.1 p)) ?_ ⟨m1, m2, m3, m4, by show 0 ≤ Z.2.2.2.2.1.2.2.2.2.2.2.1 + 1 ∧ Z.2.2.2.2.1.2.2.2.2.2.2.1 + 1 ≤ 8; omega, fun i hi => ?_⟩ (fun k a b => by simp only [upR_n _ a, upR_n _ (show k ≠ 104 by omega), upR_n _ (show k ≠ 105 by omega), upR_n _ (show k ≠ 106 by omega), upR_n _ (show k ≠ 107 by omega), upR_n _ (show k ≠ 108 by omega), upR_n _ (show k ≠ 109 by omega)]) (fun j a b c => by simp only [upR_n _ nq83_104, upR_n _ nq83_105, upR_n _ nq83_106, upR_n _ nq83_107, upR_n _ nq83_108, upR_n _ nq83_109, upR_n _ nq104_83, upR_n _ nq104_105, upR_n _ nq104_106, upR_n _ nq104_107, upR_n _ nq104_108, upR_n _ nq104_109, upR_n _ nq105_83, upR_n _ nq105_104, upR_n _ nq105_106, upR_n _ nq105_107, upR_n _ nq105_108, upR_n _ nq105_109, upR_n _ nq106_83, upR_n _ nq106_104, upR_n _ nq106_105, upR_n _ nq106_107, upR_n _ nq106_108, upR_n _ nq106_109, upR_n _ nq107_83, upR_n _ nq107_104, upR_n _ nq107_105, upR_n _ nq107_106, upR_n _ nq107_108, upR_n _ nq107_109, upR_n _ nq108_83, upR_n _ nq108_104, upR_n _ nq108_105, upR_n _ nq108_106, upR_n _ nq108_107, upR_n _ nq108_109, upR_n _ nq109_83, upR_n _ nq109_104, upR_n _ nq109_105, upR_n _ nq109_106, upR_n _ nq109_107, upR_n _ nq109_108, upR_s, ur_n _ a, ur_n _ b, ur_n _ c])) (fun k a => by simp only [upR_n _ (show k ≠ 83 by omega), upR_n _ (show k ≠ 104 by omega), upR_n _ (show k ≠ 105 by omega), upR_n _ (show k ≠ 106 by omega), upR_n _ (show k ≠ 107 by omega), upR_n _ (show k ≠ 108 by omega), upR_n _ (show k ≠ 109 by omega)]) ?_
          · unfold snM
            simp only [upR_n _ nq83_104, upR_n _ nq83_105, upR_n _ nq83_106, upR_n _ nq83_107, upR_n _ nq83_108, upR_n _ nq83_109, upR_n _ nq104_83, upR_n _ nq104_105, upR_n _ nq104_106, upR_n _ nq104_107, upR_n _ nq104_108, upR_n _ nq104_109, upR_n _ nq105_83, upR_n _ nq105_104, upR_n _ nq105_106, upR_n _ nq105_107, upR_n _ nq105_108, upR_n _ nq105_109, upR_n _ nq106_83, upR_n _ nq106_104, upR_n _ nq106_105, upR_n _ nq106_107, upR_n _ nq106_108, upR_n _ nq106_109, upR_n _ nq107_83, upR_n _ nq107_104, upR_n _ nq107_105, upR_n _ nq107_106, upR_n _ nq107_108, upR_n _ nq107_109, upR_n _ nq108_83, upR_n _ nq108_104, upR_n _ nq108_105, upR_n _ nq108_106, upR_n _ nq108_107, upR_n _ nq108_109, upR_n _ nq109_83, upR_n _ nq109_104, upR_n _ nq109_105, upR_n _ nq109_106, upR_n _ nq109_107, upR_n _ nq109_108, upR_s, ur_s, ur_n _ uq31_35, ur_n _ uq31_36, ur_n _ uq35_31, ur_n _ uq35_36, ur_n _ uq36_31, ur_n _ uq36_35, en1, en4, en6, e4, e5, e6, e7, e8, e9]
          · replace hi : 0 ≤ i ∧ i < Z.2.2.2.2.1.2.2.2.2.2.2.1 + 1 := hi
            show (0 ≤ ur Z.2.2.2.2.1.2.2.2.2.2.2.2.1 Z.2.2.2.2.1.2.2.2.2.2.2.1 d i ∧ ur Z.2.2.2.2.1.2.2.2.2.2.2.2.1 Z.2.2.2.2.1.2.2.2.2.2.2.1 d i < Z.1.1) ∧ (0 ≤ ur Z.2.2.2.2.1.2.2.2.2.2.2.2.2 Z.2.2.2.2.1.2.2.2.2.2.2.1 p i ∧ ur Z.2.2.2.2.1.2.2.2.2.2.2.2.2 Z.2.2.2.2.1.2.2.2.2.2.2.1 p i ≤ 98)
            by_cases e : i = Z.2.2.2.2.1.2.2.2.2.2.2.1
            · rw [e, ur_s, ur_s]; omega
            · rw [ur_n _ e, ur_n _ e]
              exact m6 i (by omega)
          · unfold nBook
            rw [if_neg (by omega), if_neg (by omega), if_neg (by omega), if_neg (by omega)]
        · refine S_bipush (d := qX7_book_42) (k := ?_)
          refine S_iret hz qX7_book_44 ?_
          refine RM.eq hZ ?_
          unfold nBook
          first | (rw [if_pos (by omega)]; done) | (rw [if_neg (by omega), if_pos (by omega)]; done) | (rw [if_neg (by omega), if_neg (by omega), if_pos (by omega)]; done) | (rw [if_neg (by omega), if_neg (by omega), if_neg (by omega), if_pos (by omega)]; done)
      · refine S_if_ne (d := qX7_book_27) (kt := fun c => absurd c (by decide)) (kf := fun _ => ?_)
        refine S_bipush (d := qX7_book_30) (k := ?_)
        refine S_iret hz qX7_book_32 ?_
        refine RM.eq hZ ?_
        unfold nBook
        first | (rw [if_pos (by omega)]; done) | (rw [if_neg (by omega), if_pos (by omega)]; done) | (rw [if_neg (by omega), if_neg (by omega), if_pos (by omega)]; done) | (rw [if_neg (by omega), if_neg (by omega), if_neg (by omega), if_pos (by omega)]; done)
    · refine S_if_ne (d := qX7_book_17) (kt := fun c => absurd c (by decide)) (kf := fun _ => ?_)
      refine S_iconst qX7_book_20 ?_
      refine S_iret hz qX7_book_21 ?_
      refine RM.eq hZ ?_
      unfold nBook
      first | (rw [if_pos (by omega)]; done) | (rw [if_neg (by omega), if_pos (by omega)]; done) | (rw [if_neg (by omega), if_neg (by omega), if_pos (by omega)]; done) | (rw [if_neg (by omega), if_neg (by omega), if_neg (by omega), if_pos (by omega)]; done)
  · refine S_al0 qX7_book_5 ?_
    refine S_iconst qX7_book_6 ?_
    refine S_putI qX7_book_7 fX7_120 e83_36 tX7_36 ?_
    refine S_iconst qX7_book_10 ?_
    refine S_iret hz qX7_book_11 ?_
    refine RM.to (hZ.nn (N' := (Z.2.2.2.2.1.1, Z.2.2.2.2.1.2.1, Z.2.2.2.2.1.2.2.1, Z.2.2.2.2.1.2.2.2.1, Z.2.2.2.2.1.2.2.2.2.1, Z.2.2.2.2.1.2.2.2.2.2.1, 0, Z.2.2.2.2.1.2.2.2.2.2.2.2)) ?_ ⟨m1, m2, m3, m4, by show (0 : Int) ≤ 0 ∧ (0 : Int) ≤ 8; omega, fun i hi => by exfalso; replace hi : 0 ≤ i ∧ i < 0 := hi; omega⟩ (fun k a b => by simp only [upR_n _ a, upR_n _ (show k ≠ 104 by omega), upR_n _ (show k ≠ 105 by omega), upR_n _ (show k ≠ 106 by omega), upR_n _ (show k ≠ 107 by omega), upR_n _ (show k ≠ 108 by omega), upR_n _ (show k ≠ 109 by omega)]) (fun j a b c => by simp only [upR_n _ nq83_104, upR_n _ nq83_105, upR_n _ nq83_106, upR_n _ nq83_107, upR_n _ nq83_108, upR_n _ nq83_109, upR_n _ nq104_83, upR_n _ nq104_105, upR_n _ nq104_106, upR_n _ nq104_107, upR_n _ nq104_108, upR_n _ nq104_109, upR_n _ nq105_83, upR_n _ nq105_104, upR_n _ nq105_106, upR_n _ nq105_107, upR_n _ nq105_108, upR_n _ nq105_109, upR_n _ nq106_83, upR_n _ nq106_104, upR_n _ nq106_105, upR_n _ nq106_107, upR_n _ nq106_108, upR_n _ nq106_109, upR_n _ nq107_83, upR_n _ nq107_104, upR_n _ nq107_105, upR_n _ nq107_106, upR_n _ nq107_108, upR_n _ nq107_109, upR_n _ nq108_83, upR_n _ nq108_104, upR_n _ nq108_105, upR_n _ nq108_106, upR_n _ nq108_107, upR_n _ nq108_109, upR_n _ nq109_83, upR_n _ nq109_104, upR_n _ nq109_105, upR_n _ nq109_106, upR_n _ nq109_107, upR_n _ nq109_108, upR_s, ur_n _ a, ur_n _ b, ur_n _ c])) (fun k a => by simp only [upR_n _ (show k ≠ 83 by omega), upR_n _ (show k ≠ 104 by omega), upR_n _ (show k ≠ 105 by omega), upR_n _ (show k ≠ 106 by omega), upR_n _ (show k ≠ 107 by omega), upR_n _ (show k ≠ 108 by omega), upR_n _ (show k ≠ 109 by omega)]) ?_
    · unfold snM
      simp only [upR_n _ nq83_104, upR_n _ nq83_105, upR_n _ nq83_106, upR_n _ nq83_107, upR_n _ nq83_108, upR_n _ nq83_109, upR_n _ nq104_83, upR_n _ nq104_105, upR_n _ nq104_106, upR_n _ nq104_107, upR_n _ nq104_108, upR_n _ nq104_109, upR_n _ nq105_83, upR_n _ nq105_104, upR_n _ nq105_106, upR_n _ nq105_107, upR_n _ nq105_108, upR_n _ nq105_109, upR_n _ nq106_83, upR_n _ nq106_104, upR_n _ nq106_105, upR_n _ nq106_107, upR_n _ nq106_108, upR_n _ nq106_109, upR_n _ nq107_83, upR_n _ nq107_104, upR_n _ nq107_105, upR_n _ nq107_106, upR_n _ nq107_108, upR_n _ nq107_109, upR_n _ nq108_83, upR_n _ nq108_104, upR_n _ nq108_105, upR_n _ nq108_106, upR_n _ nq108_107, upR_n _ nq108_109, upR_n _ nq109_83, upR_n _ nq109_104, upR_n _ nq109_105, upR_n _ nq109_106, upR_n _ nq109_107, upR_n _ nq109_108, upR_s, ur_s, ur_n _ uq31_35, ur_n _ uq31_36, ur_n _ uq35_31, ur_n _ uq35_36, ur_n _ uq36_31, ur_n _ uq36_35, en1, en4, en6, e4, e5, e6, e7, e8, e9]
    · unfold nBook
      rw [if_pos (by omega)]
