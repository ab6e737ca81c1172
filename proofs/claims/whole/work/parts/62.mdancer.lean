theorem nq83_84 : (83 : Nat) ≠ 84 := by decide
theorem nq83_85 : (83 : Nat) ≠ 85 := by decide
theorem nq83_86 : (83 : Nat) ≠ 86 := by decide
theorem nq83_87 : (83 : Nat) ≠ 87 := by decide
theorem nq83_88 : (83 : Nat) ≠ 88 := by decide
theorem nq83_89 : (83 : Nat) ≠ 89 := by decide
theorem nq83_104 : (83 : Nat) ≠ 104 := by decide
theorem nq83_105 : (83 : Nat) ≠ 105 := by decide
theorem nq83_106 : (83 : Nat) ≠ 106 := by decide
theorem nq83_107 : (83 : Nat) ≠ 107 := by decide
theorem nq83_108 : (83 : Nat) ≠ 108 := by decide
theorem nq83_109 : (83 : Nat) ≠ 109 := by decide
theorem nq84_83 : (84 : Nat) ≠ 83 := by decide
theorem nq84_85 : (84 : Nat) ≠ 85 := by decide
theorem nq84_86 : (84 : Nat) ≠ 86 := by decide
theorem nq84_87 : (84 : Nat) ≠ 87 := by decide
theorem nq84_88 : (84 : Nat) ≠ 88 := by decide
theorem nq84_89 : (84 : Nat) ≠ 89 := by decide
theorem nq84_104 : (84 : Nat) ≠ 104 := by decide
theorem nq84_105 : (84 : Nat) ≠ 105 := by decide
theorem nq84_106 : (84 : Nat) ≠ 106 := by decide
theorem nq84_107 : (84 : Nat) ≠ 107 := by decide
theorem nq84_108 : (84 : Nat) ≠ 108 := by decide
theorem nq84_109 : (84 : Nat) ≠ 109 := by decide
theorem nq85_83 : (85 : Nat) ≠ 83 := by decide
theorem nq85_84 : (85 : Nat) ≠ 84 := by decide
theorem nq85_86 : (85 : Nat) ≠ 86 := by decide
theorem nq85_87 : (85 : Nat) ≠ 87 := by decide
theorem nq85_88 : (85 : Nat) ≠ 88 := by decide
theorem nq85_89 : (85 : Nat) ≠ 89 := by decide
theorem nq85_104 : (85 : Nat) ≠ 104 := by decide
theorem nq85_105 : (85 : Nat) ≠ 105 := by decide
theorem nq85_106 : (85 : Nat) ≠ 106 := by decide
theorem nq85_107 : (85 : Nat) ≠ 107 := by decide
theorem nq85_108 : (85 : Nat) ≠ 108 := by decide
theorem nq85_109 : (85 : Nat) ≠ 109 := by decide
theorem nq86_83 : (86 : Nat) ≠ 83 := by decide
theorem nq86_84 : (86 : Nat) ≠ 84 := by decide
theorem nq86_85 : (86 : Nat) ≠ 85 := by decide
theorem nq86_87 : (86 : Nat) ≠ 87 := by decide
theorem nq86_88 : (86 : Nat) ≠ 88 := by decide
theorem nq86_89 : (86 : Nat) ≠ 89 := by decide
theorem nq86_104 : (86 : Nat) ≠ 104 := by decide
theorem nq86_105 : (86 : Nat) ≠ 105 := by decide
theorem nq86_106 : (86 : Nat) ≠ 106 := by decide
theorem nq86_107 : (86 : Nat) ≠ 107 := by decide
theorem nq86_108 : (86 : Nat) ≠ 108 := by decide
theorem nq86_109 : (86 : Nat) ≠ 109 := by decide
theorem nq87_83 : (87 : Nat) ≠ 83 := by decide
theorem nq87_84 : (87 : Nat) ≠ 84 := by decide
theorem nq87_85 : (87 : Nat) ≠ 85 := by decide
theorem nq87_86 : (87 : Nat) ≠ 86 := by decide
theorem nq87_88 : (87 : Nat) ≠ 88 := by decide
theorem nq87_89 : (87 : Nat) ≠ 89 := by decide
theorem nq87_104 : (87 : Nat) ≠ 104 := by decide
theorem nq87_105 : (87 : Nat) ≠ 105 := by decide
theorem nq87_106 : (87 : Nat) ≠ 106 := by decide
theorem nq87_107 : (87 : Nat) ≠ 107 := by decide
theorem nq87_108 : (87 : Nat) ≠ 108 := by decide
theorem nq87_109 : (87 : Nat) ≠ 109 := by decide
theorem nq88_83 : (88 : Nat) ≠ 83 := by decide
theorem nq88_84 : (88 : Nat) ≠ 84 := by decide
theorem nq88_85 : (88 : Nat) ≠ 85 := by decide
theorem nq88_86 : (88 : Nat) ≠ 86 := by decide
theorem nq88_87 : (88 : Nat) ≠ 87 := by decide
theorem nq88_89 : (88 : Nat) ≠ 89 := by decide
theorem nq88_104 : (88 : Nat) ≠ 104 := by decide
theorem nq88_105 : (88 : Nat) ≠ 105 := by decide
theorem nq88_106 : (88 : Nat) ≠ 106 := by decide
theorem nq88_107 : (88 : Nat) ≠ 107 := by decide
theorem nq88_108 : (88 : Nat) ≠ 108 := by decide
theorem nq88_109 : (88 : Nat) ≠ 109 := by decide
theorem nq89_83 : (89 : Nat) ≠ 83 := by decide
theorem nq89_84 : (89 : Nat) ≠ 84 := by decide
theorem nq89_85 : (89 : Nat) ≠ 85 := by decide
theorem nq89_86 : (89 : Nat) ≠ 86 := by decide
theorem nq89_87 : (89 : Nat) ≠ 87 := by decide
theorem nq89_88 : (89 : Nat) ≠ 88 := by decide
theorem nq89_104 : (89 : Nat) ≠ 104 := by decide
theorem nq89_105 : (89 : Nat) ≠ 105 := by decide
theorem nq89_106 : (89 : Nat) ≠ 106 := by decide
theorem nq89_107 : (89 : Nat) ≠ 107 := by decide
theorem nq89_108 : (89 : Nat) ≠ 108 := by decide
theorem nq89_109 : (89 : Nat) ≠ 109 := by decide
theorem nq104_83 : (104 : Nat) ≠ 83 := by decide
theorem nq104_84 : (104 : Nat) ≠ 84 := by decide
theorem nq104_85 : (104 : Nat) ≠ 85 := by decide
theorem nq104_86 : (104 : Nat) ≠ 86 := by decide
theorem nq104_87 : (104 : Nat) ≠ 87 := by decide
theorem nq104_88 : (104 : Nat) ≠ 88 := by decide
theorem nq104_89 : (104 : Nat) ≠ 89 := by decide
theorem nq104_105 : (104 : Nat) ≠ 105 := by decide
theorem nq104_106 : (104 : Nat) ≠ 106 := by decide
theorem nq104_107 : (104 : Nat) ≠ 107 := by decide
theorem nq104_108 : (104 : Nat) ≠ 108 := by decide
theorem nq104_109 : (104 : Nat) ≠ 109 := by decide
theorem nq105_83 : (105 : Nat) ≠ 83 := by decide
theorem nq105_84 : (105 : Nat) ≠ 84 := by decide
theorem nq105_85 : (105 : Nat) ≠ 85 := by decide
theorem nq105_86 : (105 : Nat) ≠ 86 := by decide
theorem nq105_87 : (105 : Nat) ≠ 87 := by decide
theorem nq105_88 : (105 : Nat) ≠ 88 := by decide
theorem nq105_89 : (105 : Nat) ≠ 89 := by decide
theorem nq105_104 : (105 : Nat) ≠ 104 := by decide
theorem nq105_106 : (105 : Nat) ≠ 106 := by decide
theorem nq105_107 : (105 : Nat) ≠ 107 := by decide
theorem nq105_108 : (105 : Nat) ≠ 108 := by decide
theorem nq105_109 : (105 : Nat) ≠ 109 := by decide
theorem nq106_83 : (106 : Nat) ≠ 83 := by decide
theorem nq106_84 : (106 : Nat) ≠ 84 := by decide
theorem nq106_85 : (106 : Nat) ≠ 85 := by decide
theorem nq106_86 : (106 : Nat) ≠ 86 := by decide
theorem nq106_87 : (106 : Nat) ≠ 87 := by decide
theorem nq106_88 : (106 : Nat) ≠ 88 := by decide
theorem nq106_89 : (106 : Nat) ≠ 89 := by decide
theorem nq106_104 : (106 : Nat) ≠ 104 := by decide
theorem nq106_105 : (106 : Nat) ≠ 105 := by decide
theorem nq106_107 : (106 : Nat) ≠ 107 := by decide
theorem nq106_108 : (106 : Nat) ≠ 108 := by decide
theorem nq106_109 : (106 : Nat) ≠ 109 := by decide
theorem nq107_83 : (107 : Nat) ≠ 83 := by decide
theorem nq107_84 : (107 : Nat) ≠ 84 := by decide
theorem nq107_85 : (107 : Nat) ≠ 85 := by decide
theorem nq107_86 : (107 : Nat) ≠ 86 := by decide
theorem nq107_87 : (107 : Nat) ≠ 87 := by decide
theorem nq107_88 : (107 : Nat) ≠ 88 := by decide
theorem nq107_89 : (107 : Nat) ≠ 89 := by decide
theorem nq107_104 : (107 : Nat) ≠ 104 := by decide
theorem nq107_105 : (107 : Nat) ≠ 105 := by decide
theorem nq107_106 : (107 : Nat) ≠ 106 := by decide
theorem nq107_108 : (107 : Nat) ≠ 108 := by decide
theorem nq107_109 : (107 : Nat) ≠ 109 := by decide
theorem nq108_83 : (108 : Nat) ≠ 83 := by decide
theorem nq108_84 : (108 : Nat) ≠ 84 := by decide
theorem nq108_85 : (108 : Nat) ≠ 85 := by decide
theorem nq108_86 : (108 : Nat) ≠ 86 := by decide
theorem nq108_87 : (108 : Nat) ≠ 87 := by decide
theorem nq108_88 : (108 : Nat) ≠ 88 := by decide
theorem nq108_89 : (108 : Nat) ≠ 89 := by decide
theorem nq108_104 : (108 : Nat) ≠ 104 := by decide
theorem nq108_105 : (108 : Nat) ≠ 105 := by decide
theorem nq108_106 : (108 : Nat) ≠ 106 := by decide
theorem nq108_107 : (108 : Nat) ≠ 107 := by decide
theorem nq108_109 : (108 : Nat) ≠ 109 := by decide
theorem nq109_83 : (109 : Nat) ≠ 83 := by decide
theorem nq109_84 : (109 : Nat) ≠ 84 := by decide
theorem nq109_85 : (109 : Nat) ≠ 85 := by decide
theorem nq109_86 : (109 : Nat) ≠ 86 := by decide
theorem nq109_87 : (109 : Nat) ≠ 87 := by decide
theorem nq109_88 : (109 : Nat) ≠ 88 := by decide
theorem nq109_89 : (109 : Nat) ≠ 89 := by decide
theorem nq109_104 : (109 : Nat) ≠ 104 := by decide
theorem nq109_105 : (109 : Nat) ≠ 105 := by decide
theorem nq109_106 : (109 : Nat) ≠ 106 := by decide
theorem nq109_107 : (109 : Nat) ≠ 107 := by decide
theorem nq109_108 : (109 : Nat) ≠ 108 := by decide
theorem uq31_35 : (31 : Int) ≠ 35 := by decide
theorem uq31_36 : (31 : Int) ≠ 36 := by decide
theorem uq35_31 : (35 : Int) ≠ 31 := by decide
theorem uq35_36 : (35 : Int) ≠ 36 := by decide
theorem uq36_31 : (36 : Int) ≠ 31 := by decide
theorem uq36_35 : (36 : Int) ≠ 35 := by decide
theorem mdr_loop {g : GC} {X : CX} {W : MM} {k v p n0 : Int} (hn : 0 ≤ n0 ∧ n0 < 6) (h83 : W 83 0 = n0) (hk : SW g X RX7 cX7_dancer 126 [some (vr 83), some (vi k), some (vi v), some (vi p), none] [] (upR W 87 (lz (W 87) (4 * n0) 0 4))) : ∀ (n : Nat) (i : Int), 0 ≤ i → i + n = 4 → SW g X RX7 cX7_dancer 99 [some (vr 83), some (vi k), some (vi v), some (vi p), some (vi i)] [] (upR W 87 (lz (W 87) (4 * n0) 0 i)) := by
  intro n
  induction n with
  | zero =>
    intro i h0 h1
    have e : i = 4 := by omega
    subst e
    refine S_il4 qX7_dancer_99 ?_
    refine S_iconst qX7_dancer_101 ?_
    refine S_icmp_ge (d := qX7_dancer_102) (kt := fun c102 => ?_) (kf := fun c102 => ?_)
    rotate_left
    · omega
    exact SW.forget 4 hk
  | succ n ih =>
    intro i h0 h1
    refine S_il4 qX7_dancer_99 ?_
    refine S_iconst qX7_dancer_101 ?_
    refine S_icmp_ge (d := qX7_dancer_102) (kt := fun c102 => ?_) (kf := fun c102 => ?_)
    · omega
    refine S_al0 qX7_dancer_105 ?_
    refine S_getR qX7_dancer_106 fX7_26 e83_5 ?_
    refine S_iconst qX7_dancer_109 ?_
    refine S_al0 qX7_dancer_110 ?_
    refine S_getI qX7_dancer_111 fX7_7 e83_0 ?_
    simp only [upR_n _ nq83_84, upR_n _ nq83_85, upR_n _ nq83_86, upR_n _ nq83_87, upR_n _ nq83_88, upR_n _ nq83_89, upR_n _ nq83_104, upR_n _ nq83_105, upR_n _ nq83_106, upR_n _ nq83_107, upR_n _ nq83_108, upR_n _ nq83_109, h83]
    refine S_imul qX7_dancer_114 ?_
    refine S_il4 qX7_dancer_115 ?_
    refine S_iadd qX7_dancer_117 ?_
    refine S_iconst qX7_dancer_118 ?_
    refine S_iast qX7_dancer_119 a87 (K := ?_)
    refine S_inc4 qX7_dancer_120 (K := ?_)
    refine S_goto qX7_dancer_123 ?_
    rw [upR_s, upR_u, lz_1 _ h0 (by omega)]
    exact ih (i + 1) (by omega) (by omega)
theorem m_dancer {g : GC} {V : MM} {Z : ZT} {k v p : Int} (hZ : MA V Z) (rk : -2147483648 ≤ k ∧ k ≤ 2147483647) (rv : -2147483648 ≤ v ∧ v ≤ 2147483647) (rp : -2147483648 ≤ p ∧ p ≤ 2147483647) : Ct g mX7_dancer 8 [vr 83, vi k, vi v, vi p] V (RM V (nDancer Z k v p).1 (nDancer Z k v p).2) := by
  refine Ct.of (ls := [some (vr 83), some (vi k), some (vi v), some (vi p), none]) (plainFor_of_name (by decide +kernel)) rfl (by exact Nat.le_of_ble_eq_true rfl) (fun X hz hD => ?_)
  obtain ⟨M, hI0, hn6, hbb, hwz, hkz⟩ := hZ.pf
  have hT := Tm.rf V
  refine S_al0 qX7_dancer_0 ?_
  refine S_il1 qX7_dancer_1 ?_
  refine S_iconst qX7_dancer_2 ?_
  refine S_bipush (d := qX7_dancer_3) (k := ?_)
  refine S_V3B hD qX7_dancer_5 lX7_206 vX7_in r83 (m_in (by omega) (by omega) (by omega)) (kt := fun j5 => ?_) (kf := fun j5 => ?_)
  · refine S_if_ne (d := qX7_dancer_8) (kt := fun _ => ?_) (kf := fun c => absurd c (by decide))
    refine S_al0 qX7_dancer_13 ?_
    refine S_il2 qX7_dancer_14 ?_
    refine S_iconst qX7_dancer_15 ?_
    refine S_bipush (d := qX7_dancer_16) (k := ?_)
    refine S_V3B hD qX7_dancer_18 lX7_206 vX7_in r83 (m_in (by omega) (by omega) (by omega)) (kt := fun j18 => ?_) (kf := fun j18 => ?_)
    · refine S_if_eq (d := qX7_dancer_21) (kt := fun c => absurd c (by decide)) (kf := fun _ => ?_)
      refine S_al0 qX7_dancer_24 ?_
      refine S_il3 qX7_dancer_25 ?_
      refine S_iconst qX7_dancer_26 ?_
      refine S_al0 qX7_dancer_27 ?_
      refine S_V0E hD qX7_dancer_28 lX7_210 vX7_wide r83 (m_wide M) (K := ?_)
      refine S_iconst qX7_dancer_31 ?_
      refine S_isub qX7_dancer_32 ?_
      refine S_V3B hD qX7_dancer_33 lX7_206 vX7_in r83 (m_in (by omega) (by omega) (by omega)) (kt := fun j33 => ?_) (kf := fun j33 => ?_)
      · refine S_if_ne (d := qX7_dancer_36) (kt := fun _ => ?_) (kf := fun c => absurd c (by decide))
        refine S_al0 qX7_dancer_42 ?_
        refine S_getI qX7_dancer_43 fX7_7 e83_0 ?_
        rw [M.n]
        refine S_bipush (d := qX7_dancer_46) (k := ?_)
        refine S_icmp_ne (d := qX7_dancer_48) (kt := fun c48 => ?_) (kf := fun c48 => ?_)
        · refine S_al0 qX7_dancer_54 ?_
          refine S_getR qX7_dancer_55 fX7_16 e83_2 ?_
          refine S_al0 qX7_dancer_58 ?_
          refine S_getI qX7_dancer_59 fX7_7 e83_0 ?_
          simp only [upR_n _ nq83_84, upR_n _ nq83_85, upR_n _ nq83_86, upR_n _ nq83_87, upR_n _ nq83_88, upR_n _ nq83_89, upR_n _ nq83_104, upR_n _ nq83_105, upR_n _ nq83_106, upR_n _ nq83_107, upR_n _ nq83_108, upR_n _ nq83_109, M.n]
          refine S_il1 qX7_dancer_62 ?_
          refine S_iast qX7_dancer_63 a84 (K := ?_)
          refine S_al0 qX7_dancer_64 ?_
          refine S_getR qX7_dancer_65 fX7_20 e83_3 ?_
          refine S_al0 qX7_dancer_68 ?_
          refine S_getI qX7_dancer_69 fX7_7 e83_0 ?_
          simp only [upR_n _ nq83_84, upR_n _ nq83_85, upR_n _ nq83_86, upR_n _ nq83_87, upR_n _ nq83_88, upR_n _ nq83_89, upR_n _ nq83_104, upR_n _ nq83_105, upR_n _ nq83_106, upR_n _ nq83_107, upR_n _ nq83_108, upR_n _ nq83_109, M.n]
          refine S_il2 qX7_dancer_72 ?_
          refine S_iast qX7_dancer_73 a85 (K := ?_)
          refine S_al0 qX7_dancer_74 ?_
          refine S_getR qX7_dancer_75 fX7_23 e83_4 ?_
          refine S_al0 qX7_dancer_78 ?_
          refine S_getI qX7_dancer_79 fX7_7 e83_0 ?_
          simp only [upR_n _ nq83_84, upR_n _ nq83_85, upR_n _ nq83_86, upR_n _ nq83_87, upR_n _ nq83_88, upR_n _ nq83_89, upR_n _ nq83_104, upR_n _ nq83_105, upR_n _ nq83_106, upR_n _ nq83_107, upR_n _ nq83_108, upR_n _ nq83_109, M.n]
          refine S_al0 qX7_dancer_82 ?_
          refine S_getI qX7_dancer_83 fX7_7 e83_0 ?_
          simp only [upR_n _ nq83_84, upR_n _ nq83_85, upR_n _ nq83_86, upR_n _ nq83_87, upR_n _ nq83_88, upR_n _ nq83_89, upR_n _ nq83_104, upR_n _ nq83_105, upR_n _ nq83_106, upR_n _ nq83_107, upR_n _ nq83_108, upR_n _ nq83_109, M.n]
          refine S_iast qX7_dancer_86 a86 (K := ?_)
          refine S_al0 qX7_dancer_87 ?_
          refine S_al0 qX7_dancer_88 ?_
          refine S_getI qX7_dancer_89 fX7_7 e83_0 ?_
          simp only [upR_n _ nq83_84, upR_n _ nq83_85, upR_n _ nq83_86, upR_n _ nq83_87, upR_n _ nq83_88, upR_n _ nq83_89, upR_n _ nq83_104, upR_n _ nq83_105, upR_n _ nq83_106, upR_n _ nq83_107, upR_n _ nq83_108, upR_n _ nq83_109, M.n]
          refine S_il3 qX7_dancer_92 ?_
          refine S_V2W hD qX7_dancer_93 lX7_214 vX7_laysAll r83 (m_laysAll (by omega)) (K := ?_)
          refine S_iconst qX7_dancer_96 ?_
          refine S_is4 qX7_dancer_97 (K := ?_)
          simp only [upR_n _ nq85_84, upR_n _ nq85_86, upR_n _ nq85_88, upR_n _ nq86_84, upR_n _ nq86_85, upR_n _ nq86_88, upR_n _ nq88_84, upR_n _ nq88_85, upR_n _ nq88_86]
          generalize hW : upR (upR (upR (upR V 84 (ur (V 84) Z.1.1 k)) 85 (ur (V 85) Z.1.1 v)) 86 (ur (V 86) Z.1.1 Z.1.1)) 88 (layS (V 88) Z.1.1 p 8) = W
          have w84 : W 84 = ur (V 84) Z.1.1 k := by rw [← hW]; simp only [upR_n _ nq84_85, upR_n _ nq84_86, upR_n _ nq84_88, upR_s]
          have w85 : W 85 = ur (V 85) Z.1.1 v := by rw [← hW]; simp only [upR_n _ nq85_86, upR_n _ nq85_88, upR_s]
          have w86 : W 86 = ur (V 86) Z.1.1 Z.1.1 := by rw [← hW]; simp only [upR_n _ nq86_88, upR_s]
          have w88 : W 88 = layS (V 88) Z.1.1 p 8 := by rw [← hW, upR_s]
          have wk : ∀ j : Nat, j ≠ 84 → j ≠ 85 → j ≠ 86 → j ≠ 88 → W j = V j := fun j a b c d => by rw [← hW, upR_n _ d, upR_n _ c, upR_n _ b, upR_n _ a]
          rw [← upR_id W 87, ← lz_0 (W 87) (4 * Z.1.1) 0]
          refine mdr_loop (by omega) (by rw [wk 83 (by omega) (by omega) (by omega) (by omega), M.n]) ?_ 4 0 (by omega) (by omega)
          have x83 : upR W 87 (lz (W 87) (4 * Z.1.1) 0 4) 83 = V 83 := by rw [upR_n _ (by omega), wk 83 (by omega) (by omega) (by omega) (by omega)]
          refine S_al0 qX7_dancer_126 ?_
          refine S_dup (d := qX7_dancer_127) (k := ?_)
          refine S_getI qX7_dancer_128 fX7_7 e83_0 ?_
          rw [x83, M.n]
          refine S_iconst qX7_dancer_131 ?_
          refine S_iadd qX7_dancer_132 ?_
          refine S_putI qX7_dancer_133 fX7_7 e83_0 tX7_0 ?_
          refine S_al0 qX7_dancer_136 ?_
          refine S_getI qX7_dancer_137 fX7_7 e83_0 ?_
          refine S_iconst qX7_dancer_140 ?_
          refine S_isub qX7_dancer_141 ?_
          refine S_iret hz qX7_dancer_142 ?_
          rw [x83, upR_s, ur_s]
          refine RM.to (hZ.fs (V' := upR (upR W 87 (lz (W 87) (4 * Z.1.1) 0 4)) 83 (ur (V 83) 0 (Z.1.1 + 1))) (s' := joiS Z.1 k v p) (fun j a => by rw [upR_n _ (by omega), upR_n _ (by omega), wk j (by omega) (by omega) (by omega) (by omega)]) (fun j a => by rw [upR_s, ur_n _ (by omega)]) ?_ (joi_inv hI0 (by omega) (by omega) (by omega) (by omega)) hbb.2 (by show Z.1.1 ≤ Z.1.1 + 1; omega)) (fun j a => by rw [upR_n _ (by omega), upR_n _ (by omega), wk j (by omega) (by omega) (by omega) (by omega)]) ?_
          · show joiS Z.1 k v p = (upR (upR W 87 (lz (W 87) (4 * Z.1.1) 0 4)) 83 (ur (V 83) 0 (Z.1.1 + 1)) 83 0, upR (upR W 87 (lz (W 87) (4 * Z.1.1) 0 4)) 83 (ur (V 83) 0 (Z.1.1 + 1)) 83 1, upR (upR W 87 (lz (W 87) (4 * Z.1.1) 0 4)) 83 (ur (V 83) 0 (Z.1.1 + 1)) 84, upR (upR W 87 (lz (W 87) (4 * Z.1.1) 0 4)) 83 (ur (V 83) 0 (Z.1.1 + 1)) 85, upR (upR W 87 (lz (W 87) (4 * Z.1.1) 0 4)) 83 (ur (V 83) 0 (Z.1.1 + 1)) 86, upR (upR W 87 (lz (W 87) (4 * Z.1.1) 0 4)) 83 (ur (V 83) 0 (Z.1.1 + 1)) 88, upR (upR W 87 (lz (W 87) (4 * Z.1.1) 0 4)) 83 (ur (V 83) 0 (Z.1.1 + 1)) 87)
            simp only [upR_s, ur_s, ur_n _ (show (1 : Int) ≠ 0 by omega), upR_n _ nq84_83, upR_n _ nq84_87, upR_n _ nq85_83, upR_n _ nq85_87, upR_n _ nq86_83, upR_n _ nq86_87, upR_n _ nq87_83, upR_n _ nq88_83, upR_n _ nq88_87, w84, w85, w86, w88, wk 87 (by omega) (by omega) (by omega) (by omega), M.b, M.w84, M.w85, M.w86, M.w88, M.w87]
            rfl
          · unfold nDancer
            rw [if_neg (by omega), if_neg (by omega), if_neg (by omega)]
            refine congrArg (fun q => (q, (joiS Z.1 k v p, Z.2))) ?_
            omega
        · refine S_bipush (d := qX7_dancer_51) (k := ?_)
          refine S_iret hz qX7_dancer_53 ?_
          refine RM.eq hZ ?_
          unfold nDancer
          first | (rw [if_pos (by omega)]; done) | (rw [if_neg (by omega), if_pos (by omega)]; done) | (rw [if_neg (by omega), if_neg (by omega), if_pos (by omega)]; done) | (rw [if_neg (by omega), if_neg (by omega), if_neg (by omega), if_pos (by omega)]; done)
      · refine S_if_ne (d := qX7_dancer_36) (kt := fun c => absurd c (by decide)) (kf := fun _ => ?_)
        refine S_bipush (d := qX7_dancer_39) (k := ?_)
        refine S_iret hz qX7_dancer_41 ?_
        refine RM.eq hZ ?_
        unfold nDancer
        first | (rw [if_pos (by omega)]; done) | (rw [if_neg (by omega), if_pos (by omega)]; done) | (rw [if_neg (by omega), if_neg (by omega), if_pos (by omega)]; done) | (rw [if_neg (by omega), if_neg (by omega), if_neg (by omega), if_pos (by omega)]; done)
    · refine S_if_eq (d := qX7_dancer_21) (kt := fun _ => ?_) (kf := fun c => absurd c (by decide))
      refine S_bipush (d := qX7_dancer_39) (k := ?_)
      refine S_iret hz qX7_dancer_41 ?_
      refine RM.eq hZ ?_
      unfold nDancer
      first | (rw [if_pos (by omega)]; done) | (rw [if_neg (by omega), if_pos (by omega)]; done) | (rw [if_neg (by omega), if_neg (by omega), if_pos (by omega)]; done) | (rw [if_neg (by omega), if_neg (by omega), if_neg (by omega), if_pos (by omega)]; done)
  · refine S_if_ne (d := qX7_dancer_8) (kt := fun c => absurd c (by decide)) (kf := fun _ => ?_)
    refine S_iconst qX7_dancer_11 ?_
    refine S_iret hz qX7_dancer_12 ?_
    refine RM.eq hZ ?_
    unfold nDancer
    first | (rw [if_pos (by omega)]; done) | (rw [if_neg (by omega), if_pos (by omega)]; done) | (rw [if_neg (by omega), if_neg (by omega), if_pos (by omega)]; done) | (rw [if_neg (by omega), if_neg (by omega), if_neg (by omega), if_pos (by omega)]; done)

theorem m_feed {g : GC} {V : MM} {Z : ZT} {c : Int} (hZ : MA V Z) (rc : -2147483648 ≤ c ∧ c ≤ 2147483647) : Ct g mX7_feed 8 [vr 83, vi c] V (RM V (nFeed Z c).1 (nFeed Z c).2) := by
  refine Ct.of (ls := [some (vr 83), some (vi c)]) (plainFor_of_name (by decide +kernel)) rfl (by exact Nat.le_of_ble_eq_true rfl) (fun X hz hD => ?_)
  obtain ⟨M, hI0, hn6, hbb, hwz, hkz⟩ := hZ.pf
  have hT := Tm.rf V
  obtain ⟨t1, t2, t3, t4⟩ := hZ.2.2.1
  refine S_al0 qX7_feed_0 ?_
  refine S_il1 qX7_feed_1 ?_
  refine S_iconst qX7_feed_2 ?_
  refine S_bipush (d := qX7_feed_3) (k := ?_)
  refine S_V3B hD qX7_feed_5 lX7_206 vX7_in r83 (m_in (by omega) (by omega) (by omega)) (kt := fun j5 => ?_) (kf := fun j5 => ?_)
  · refine S_if_ne (d := qX7_feed_8) (kt := fun _ => ?_) (kf := fun c => absurd c (by decide))
    refine S_al0 qX7_feed_14 ?_
    refine S_getI qX7_feed_15 fX7_38 e83_9 ?_
    rw [t1]
    refine S_bipush (d := qX7_feed_18) (k := ?_)
    refine S_icmp_ne (d := qX7_feed_20) (kt := fun c20 => ?_) (kf := fun c20 => ?_)
    · refine S_al0 qX7_feed_26 ?_
      refine S_getR qX7_feed_27 fX7_47 e83_12 ?_
      refine S_al0 qX7_feed_30 ?_
      refine S_getI qX7_feed_31 fX7_38 e83_9 ?_
      rw [t1]
      refine S_il1 qX7_feed_34 ?_
      refine S_iast qX7_feed_35 a89 (K := ?_)
      refine S_al0 qX7_feed_36 ?_
      refine S_dup (d := qX7_feed_37) (k := ?_)
      refine S_getI qX7_feed_38 fX7_38 e83_9 ?_
      simp only [upR_n _ nq83_84, upR_n _ nq83_85, upR_n _ nq83_86, upR_n _ nq83_87, upR_n _ nq83_88, upR_n _ nq83_89, upR_n _ nq83_104, upR_n _ nq83_105, upR_n _ nq83_106, upR_n _ nq83_107, upR_n _ nq83_108, upR_n _ nq83_109, t1]
      refine S_iconst qX7_feed_41 ?_
      refine S_iadd qX7_feed_42 ?_
      refine S_putI qX7_feed_43 fX7_38 e83_9 tX7_9 ?_
      refine S_al0 qX7_feed_46 ?_
      refine S_getI qX7_feed_47 fX7_38 e83_9 ?_
      simp only [upR_s, ur_s]
      refine S_iret hz qX7_feed_50 ?_
      simp only [upR_n _ nq83_89]
      generalize hW : upR (upR V 89 (ur (V 89) Z.2.2.2.1.1 c)) 83 (ur (V 83) 9 (Z.2.2.2.1.1 + 1)) = W
      have w83 : W 83 = ur (V 83) 9 (Z.2.2.2.1.1 + 1) := by rw [← hW, upR_s]
      have w89 : W 89 = ur (V 89) Z.2.2.2.1.1 c := by rw [← hW, upR_n _ (by omega), upR_s]
      have wk : ∀ j : Nat, j ≠ 83 → j ≠ 89 → W j = V j := fun j a b => by rw [← hW, upR_n _ a, upR_n _ b]
      have wj : ∀ j : Int, j ≠ 9 → W 83 j = V 83 j := fun j a => by rw [w83, ur_n _ a]
      obtain ⟨h1, h2, h3, h4, h5, h6, h7, h8⟩ := id hZ
      refine RM.to (Z' := txZ Z (Z.2.2.2.1.1 + 1, ur Z.2.2.2.1.2 Z.2.2.2.1.1 c)) ⟨⟨M.mk3 (fun k a b => wk k (by omega) (by omega)) (wj 8 (by omega)) ?_ hI0, h1.2⟩, MAh_c h2 (wj 7 (by omega)) (wj 8 (by omega)) rfl, ⟨by rw [w83, ur_s]; rfl, by rw [w89, t2]; rfl, by show 0 ≤ Z.2.2.2.1.1 + 1 ∧ Z.2.2.2.1.1 + 1 ≤ 100; omega, fun i hi => ?_⟩, MAn_c h4 (fun k a b => wk k (by omega) (by omega)) (wj 31 (by omega)) (wj 35 (by omega)) (wj 36 (by omega)) (Int.le_refl _) rfl, MAi_c h5 (fun k a => wk k (by omega) (by omega)) (fun j a => wj j (by omega)) rfl rfl, MAr_c h6 (wj 58 (by omega)) (wk 121 (by omega) (by omega)) rfl, MAg_c h7 (wk 122 (by omega) (by omega)) (wk 123 (by omega) (by omega)) (wk 124 (by omega) (by omega)) rfl, MAl_c h8 (wk 97 (by omega) (by omega))⟩ (fun k a => wk k (by omega) (by omega)) ?_
      · show Z.1 = (W 83 0, W 83 1, W 84, W 85, W 86, W 88, W 87)
        rw [wj 0 (by omega), wj 1 (by omega), wk 84 (by omega) (by omega), wk 85 (by omega) (by omega), wk 86 (by omega) (by omega), wk 88 (by omega) (by omega), wk 87 (by omega) (by omega)]
        exact M.1
      · have := t4 i hi
        show 0 ≤ ur Z.2.2.2.1.2 Z.2.2.2.1.1 c i ∧ ur Z.2.2.2.1.2 Z.2.2.2.1.1 c i ≤ 127
        unfold ur
        split <;> omega
      · unfold nFeed
        rw [if_neg (by omega), if_neg (by omega)]
    · refine S_bipush (d := qX7_feed_23) (k := ?_)
      refine S_iret hz qX7_feed_25 ?_
      refine RM.eq hZ ?_
      unfold nFeed
      first | (rw [if_pos (by omega)]; done) | (rw [if_neg (by omega), if_pos (by omega)]; done) | (rw [if_neg (by omega), if_neg (by omega), if_pos (by omega)]; done) | (rw [if_neg (by omega), if_neg (by omega), if_neg (by omega), if_pos (by omega)]; done)
  · refine S_if_ne (d := qX7_feed_8) (kt := fun c => absurd c (by decide)) (kf := fun _ => ?_)
    refine S_bipush (d := qX7_feed_11) (k := ?_)
    refine S_iret hz qX7_feed_13 ?_
    refine RM.eq hZ ?_
    unfold nFeed
    first | (rw [if_pos (by omega)]; done) | (rw [if_neg (by omega), if_pos (by omega)]; done) | (rw [if_neg (by omega), if_neg (by omega), if_pos (by omega)]; done) | (rw [if_neg (by omega), if_neg (by omega), if_neg (by omega), if_pos (by omega)]; done)
