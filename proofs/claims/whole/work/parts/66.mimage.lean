theorem msh_1 {g : GC} {X : CX} {V : MM} {t i o j n : Int} (ht : 0 ≤ t ∧ t < 6) (hi : 0 ≤ i ∧ i + n ≤ 60) (hn : 0 ≤ n) (hk : SW g X RX7 cX7_shift 138 [some (vr 83), some (vi t), some (vi i), some (vi o), some (vi j), some (vi n), none] [] (upR V 125 (cpS (V 124) (V 125) (60 * t + i) 0 n))) : ∀ (m : Nat) (k : Int), 0 ≤ k → k + m = n → SW g X RX7 cX7_shift 104 [some (vr 83), some (vi t), some (vi i), some (vi o), some (vi j), some (vi n), some (vi k)] [] (upR V 125 (cpS (V 124) (V 125) (60 * t + i) 0 k)) := by
  intro m
  induction m with
  | zero =>
    intro k h0 h1
    have e : k = n := by omega
    subst e
    refine S_il6 qX7_shift_104 ?_
    refine S_il5 qX7_shift_106 ?_
    refine S_icmp_ge (d := qX7_shift_108) (kt := fun c108 => ?_) (kf := fun c108 => ?_)
    rotate_left
    · omega
    exact SW.forget 6 hk
  | succ m ih =>
    intro k h0 h1
    refine S_il6 qX7_shift_104 ?_
    refine S_il5 qX7_shift_106 ?_
    refine S_icmp_ge (d := qX7_shift_108) (kt := fun c108 => ?_) (kf := fun c108 => ?_)
    · omega
    refine S_al0 qX7_shift_111 ?_
    refine S_getR qX7_shift_112 fX7_203 e83_63 ?_
    refine S_il6 qX7_shift_115 ?_
    refine S_al0 qX7_shift_117 ?_
    refine S_getR qX7_shift_118 fX7_199 e83_62 ?_
    refine S_bipush (d := qX7_shift_121) (k := ?_)
    refine S_il1 qX7_shift_123 ?_
    refine S_imul qX7_shift_124 ?_
    refine S_il2 qX7_shift_125 ?_
    refine S_iadd qX7_shift_126 ?_
    refine S_il6 qX7_shift_127 ?_
    refine S_iadd qX7_shift_129 ?_
    refine S_lald qX7_shift_130 a124 (K := ?_)
    refine S_last qX7_shift_131 a125 (K := ?_)
    refine S_inc6 qX7_shift_132 (K := ?_)
    refine S_goto qX7_shift_135 ?_
    rw [upR_s, upR_u, upR_n _ (show (124 : Nat) ≠ 125 by omega), cps_1 _ _ h0 (by omega) rfl]
    exact ih (k + 1) (by omega) (by omega)
theorem msh_2 {g : GC} {X : CX} {V : MM} {t i o j n : Int} (ho : 0 ≤ o ∧ o < 6) (hj : 0 ≤ j ∧ j + n ≤ 60) (hn : 0 ≤ n) (hk : SW g X RX7 cX7_shift 176 [some (vr 83), some (vi t), some (vi i), some (vi o), some (vi j), some (vi n), none] [] (upR V 124 (cpS (V 125) (V 124) 0 (60 * o + j) n))) : ∀ (m : Nat) (k : Int), 0 ≤ k → k + m = n → SW g X RX7 cX7_shift 141 [some (vr 83), some (vi t), some (vi i), some (vi o), some (vi j), some (vi n), some (vi k)] [] (upR V 124 (cpS (V 125) (V 124) 0 (60 * o + j) k)) := by
  intro m
  induction m with
  | zero =>
    intro k h0 h1
    have e : k = n := by omega
    subst e
    refine S_il6 qX7_shift_141 ?_
    refine S_il5 qX7_shift_143 ?_
    refine S_icmp_ge (d := qX7_shift_145) (kt := fun c145 => ?_) (kf := fun c145 => ?_)
    rotate_left
    · omega
    exact SW.forget 6 hk
  | succ m ih =>
    intro k h0 h1
    refine S_il6 qX7_shift_141 ?_
    refine S_il5 qX7_shift_143 ?_
    refine S_icmp_ge (d := qX7_shift_145) (kt := fun c145 => ?_) (kf := fun c145 => ?_)
    · omega
    refine S_al0 qX7_shift_148 ?_
    refine S_getR qX7_shift_149 fX7_199 e83_62 ?_
    refine S_bipush (d := qX7_shift_152) (k := ?_)
    refine S_il3 qX7_shift_154 ?_
    refine S_imul qX7_shift_155 ?_
    refine S_il4 qX7_shift_156 ?_
    refine S_iadd qX7_shift_158 ?_
    refine S_il6 qX7_shift_159 ?_
    refine S_iadd qX7_shift_161 ?_
    refine S_al0 qX7_shift_162 ?_
    refine S_getR qX7_shift_163 fX7_203 e83_63 ?_
    refine S_il6 qX7_shift_166 ?_
    refine S_lald qX7_shift_168 a125 (K := ?_)
    refine S_last qX7_shift_169 a124 (K := ?_)
    refine S_inc6 qX7_shift_170 (K := ?_)
    refine S_goto qX7_shift_173 ?_
    rw [upR_s, upR_u, upR_n _ (show (125 : Nat) ≠ 124 by omega), cps_1 _ _ h0 (by omega) (by rw [Int.zero_add])]
    exact ih (k + 1) (by omega) (by omega)
theorem m_shift {g : GC} {V : MM} {Z : ZT} {t i o j n : Int} (hZ : MA V Z) (rt : -2147483648 ≤ t ∧ t ≤ 2147483647) (ri : -2147483648 ≤ i ∧ i ≤ 2147483647) (ro : -2147483648 ≤ o ∧ o ≤ 2147483647) (rj : -2147483648 ≤ j ∧ j ≤ 2147483647) (rn : -2147483648 ≤ n ∧ n ≤ 2147483647) : Ct g mX7_shift 8 [vr 83, vi t, vi i, vi o, vi j, vi n] V (RM V (nShift Z t i o j n).1 (nShift Z t i o j n).2) := by
  refine Ct.of (ls := [some (vr 83), some (vi t), some (vi i), some (vi o), some (vi j), some (vi n), none]) (plainFor_of_name (by decide +kernel)) rfl (by exact Nat.le_of_ble_eq_true rfl) (fun X hz hD => ?_)
  obtain ⟨M, hI0, hn6, hbb, hwz, hkz⟩ := hZ.pf
  have hT := Tm.rf V
  refine S_al0 qX7_shift_0 ?_
  refine S_il1 qX7_shift_1 ?_
  refine S_V1B hD qX7_shift_2 lX7_348 vX7_isTape r83 (m_isTape (by omega)) (kt := fun j2 => ?_) (kf := fun j2 => ?_)
  · refine S_if_eq (d := qX7_shift_5) (kt := fun c => absurd c (by decide)) (kf := fun _ => ?_)
    refine S_al0 qX7_shift_8 ?_
    refine S_il3 qX7_shift_9 ?_
    refine S_V1B hD qX7_shift_10 lX7_348 vX7_isTape r83 (m_isTape (by omega)) (kt := fun j10 => ?_) (kf := fun j10 => ?_)
    · refine S_if_ne (d := qX7_shift_13) (kt := fun _ => ?_) (kf := fun c => absurd c (by decide))
      obtain ⟨t1, t2, t3, t4, t5, t6⟩ := hZ.2.2.2.2.2.2.1.at (t := t) (by omega)
      obtain ⟨u1, u2, u3, u4, u5, u6⟩ := hZ.2.2.2.2.2.2.1.at (t := o) (by omega)
      refine S_al0 qX7_shift_18 ?_
      refine S_getR qX7_shift_19 fX7_193 e83_60 ?_
      refine S_il1 qX7_shift_22 ?_
      refine S_iald qX7_shift_23 a122 (K := ?_)
      refine S_if_lt (d := qX7_shift_24) (kt := fun c24 => ?_) (kf := fun c24 => ?_)
      · refine S_bipush (d := qX7_shift_36) (k := ?_)
        refine S_iret hz qX7_shift_38 ?_
        refine RM.eq hZ ?_
        unfold nShift
        first | (rw [if_pos (by omega)]; done) | (rw [if_neg (by omega), if_pos (by omega)]; done) | (rw [if_neg (by omega), if_neg (by omega), if_pos (by omega)]; done) | (rw [if_neg (by omega), if_neg (by omega), if_neg (by omega), if_pos (by omega)]; done)
      · refine S_al0 qX7_shift_27 ?_
        refine S_getR qX7_shift_28 fX7_193 e83_60 ?_
        refine S_il3 qX7_shift_31 ?_
        refine S_iald qX7_shift_32 a122 (K := ?_)
        refine S_if_ge (d := qX7_shift_33) (kt := fun c33 => ?_) (kf := fun c33 => ?_)
        · refine S_al0 qX7_shift_39 ?_
          refine S_getR qX7_shift_40 fX7_193 e83_60 ?_
          refine S_il1 qX7_shift_43 ?_
          refine S_iald qX7_shift_44 a122 (K := ?_)
          refine S_al0 qX7_shift_45 ?_
          refine S_getR qX7_shift_46 fX7_193 e83_60 ?_
          refine S_il3 qX7_shift_49 ?_
          refine S_iald qX7_shift_50 a122 (K := ?_)
          refine S_icmp_eq (d := qX7_shift_51) (kt := fun c51 => ?_) (kf := fun c51 => ?_)
          · refine S_il5 qX7_shift_57 ?_
            refine S_if_lt (d := qX7_shift_59) (kt := fun c59 => ?_) (kf := fun c59 => ?_)
            · refine S_bipush (d := qX7_shift_98) (k := ?_)
              refine S_iret hz qX7_shift_100 ?_
              refine RM.eq hZ ?_
              unfold nShift
              first | (rw [if_pos (by omega)]; done) | (rw [if_neg (by omega), if_pos (by omega)]; done) | (rw [if_neg (by omega), if_neg (by omega), if_pos (by omega)]; done) | (rw [if_neg (by omega), if_neg (by omega), if_neg (by omega), if_pos (by omega)]; done)
            · refine S_il2 qX7_shift_62 ?_
              refine S_if_lt (d := qX7_shift_63) (kt := fun c63 => ?_) (kf := fun c63 => ?_)
              · refine S_bipush (d := qX7_shift_98) (k := ?_)
                refine S_iret hz qX7_shift_100 ?_
                refine RM.eq hZ ?_
                unfold nShift
                first | (rw [if_pos (by omega)]; done) | (rw [if_neg (by omega), if_pos (by omega)]; done) | (rw [if_neg (by omega), if_neg (by omega), if_pos (by omega)]; done) | (rw [if_neg (by omega), if_neg (by omega), if_neg (by omega), if_pos (by omega)]; done)
              · refine S_il4 qX7_shift_66 ?_
                refine S_if_lt (d := qX7_shift_68) (kt := fun c68 => ?_) (kf := fun c68 => ?_)
                · refine S_bipush (d := qX7_shift_98) (k := ?_)
                  refine S_iret hz qX7_shift_100 ?_
                  refine RM.eq hZ ?_
                  unfold nShift
                  first | (rw [if_pos (by omega)]; done) | (rw [if_neg (by omega), if_pos (by omega)]; done) | (rw [if_neg (by omega), if_neg (by omega), if_pos (by omega)]; done) | (rw [if_neg (by omega), if_neg (by omega), if_neg (by omega), if_pos (by omega)]; done)
                · refine S_il2 qX7_shift_71 ?_
                  refine S_al0 qX7_shift_72 ?_
                  refine S_getR qX7_shift_73 fX7_196 e83_61 ?_
                  refine S_il1 qX7_shift_76 ?_
                  refine S_iald qX7_shift_77 a123 (K := ?_)
                  refine S_il5 qX7_shift_78 ?_
                  refine S_isub qX7_shift_80 ?_
                  refine S_icmp_gt (d := qX7_shift_81) (kt := fun c81 => ?_) (kf := fun c81 => ?_)
                  · refine S_bipush (d := qX7_shift_98) (k := ?_)
                    refine S_iret hz qX7_shift_100 ?_
                    refine RM.eq hZ ?_
                    unfold nShift
                    first | (rw [if_pos (by omega)]; done) | (rw [if_neg (by omega), if_pos (by omega)]; done) | (rw [if_neg (by omega), if_neg (by omega), if_pos (by omega)]; done) | (rw [if_neg (by omega), if_neg (by omega), if_neg (by omega), if_pos (by omega)]; done)
                  · refine S_il4 qX7_shift_84 ?_
                    refine S_al0 qX7_shift_86 ?_
                    refine S_getR qX7_shift_87 fX7_196 e83_61 ?_
                    refine S_il3 qX7_shift_90 ?_
                    refine S_iald qX7_shift_91 a123 (K := ?_)
                    refine S_il5 qX7_shift_92 ?_
                    refine S_isub qX7_shift_94 ?_
                    refine S_icmp_le (d := qX7_shift_95) (kt := fun c95 => ?_) (kf := fun c95 => ?_)
                    · refine S_iconst qX7_shift_101 ?_
                      refine S_is6 qX7_shift_102 (K := ?_)
                      rw [← upR_id V 125, ← cps_0 (V 124) (V 125) (60 * t + i) 0]
                      refine msh_1 (by omega) (by omega) (by omega) ?_ n.toNat 0 (by omega) (by omega)
                      refine S_iconst qX7_shift_138 ?_
                      refine S_is6 qX7_shift_139 (K := ?_)
                      generalize hW : upR V 125 (cpS (V 124) (V 125) (60 * t + i) 0 n) = W
                      have w5 : W 125 = cpS (V 124) (V 125) (60 * t + i) 0 n := by rw [← hW, upR_s]
                      have wk : ∀ k : Nat, k ≠ 125 → W k = V k := fun k a => by rw [← hW, upR_n _ a]
                      rw [← upR_id W 124, ← cps_0 (W 125) (W 124) 0 (60 * o + j)]
                      refine msh_2 (by omega) (by omega) (by omega) ?_ n.toNat 0 (by omega) (by omega)
                      refine S_il5 qX7_shift_176 ?_
                      refine S_iret hz qX7_shift_178 ?_
                      refine RM.to (hZ.tp (t := o) (x := (tpS Z o, tpN Z o, cpS (tpR Z t) (tpR Z o) i j n)) (by omega) (fun k a b c d => by rw [upR_n _ c, wk k d]) (fun q a => ⟨by rw [upR_n _ (by omega), wk 122 (by omega)], by rw [upR_n _ (by omega), wk 123 (by omega)]⟩) (fun q a => ?_) (by rw [upR_n _ (by omega), wk 122 (by omega), u1]) (by rw [upR_n _ (by omega), wk 123 (by omega), u2]) (fun q a => ?_) ⟨u4, u5, u6⟩) (fun k a => by rw [upR_n _ (by omega), wk k (by omega)]) ?_
                      · rw [upR_s, wk 124 (by omega)]
                        unfold cpS
                        rw [if_neg (by omega)]
                      · rw [upR_s, wk 124 (by omega), w5]
                        show cpS (cpS (V 124) (V 125) (60 * t + i) 0 n) (V 124) 0 (60 * o + j) n (60 * o + q) = cpS (tpR Z t) (tpR Z o) i j n q
                        unfold cpS
                        by_cases c : j ≤ q ∧ q < j + n
                        · rw [if_pos (by omega), if_pos (by omega), if_pos c, ← t3 _ (by omega)]
                          exact congrArg _ (by omega)
                        · rw [if_neg (by omega), if_neg c]
                          exact u3 q a
                      · unfold nShift
                        rw [if_neg (by omega), if_neg (by omega), if_neg (by omega), if_neg (by omega)]
                    · refine S_bipush (d := qX7_shift_98) (k := ?_)
                      refine S_iret hz qX7_shift_100 ?_
                      refine RM.eq hZ ?_
                      unfold nShift
                      first | (rw [if_pos (by omega)]; done) | (rw [if_neg (by omega), if_pos (by omega)]; done) | (rw [if_neg (by omega), if_neg (by omega), if_pos (by omega)]; done) | (rw [if_neg (by omega), if_neg (by omega), if_neg (by omega), if_pos (by omega)]; done)
          · refine S_bipush (d := qX7_shift_54) (k := ?_)
            refine S_iret hz qX7_shift_56 ?_
            refine RM.eq hZ ?_
            unfold nShift
            first | (rw [if_pos (by omega)]; done) | (rw [if_neg (by omega), if_pos (by omega)]; done) | (rw [if_neg (by omega), if_neg (by omega), if_pos (by omega)]; done) | (rw [if_neg (by omega), if_neg (by omega), if_neg (by omega), if_pos (by omega)]; done)
        · refine S_bipush (d := qX7_shift_36) (k := ?_)
          refine S_iret hz qX7_shift_38 ?_
          refine RM.eq hZ ?_
          unfold nShift
          first | (rw [if_pos (by omega)]; done) | (rw [if_neg (by omega), if_pos (by omega)]; done) | (rw [if_neg (by omega), if_neg (by omega), if_pos (by omega)]; done) | (rw [if_neg (by omega), if_neg (by omega), if_neg (by omega), if_pos (by omega)]; done)
    · refine S_if_ne (d := qX7_shift_13) (kt := fun c => absurd c (by decide)) (kf := fun _ => ?_)
      refine S_iconst qX7_shift_16 ?_
      refine S_iret hz qX7_shift_17 ?_
      refine RM.eq hZ ?_
      unfold nShift
      first | (rw [if_pos (by omega)]; done) | (rw [if_neg (by omega), if_pos (by omega)]; done) | (rw [if_neg (by omega), if_neg (by omega), if_pos (by omega)]; done) | (rw [if_neg (by omega), if_neg (by omega), if_neg (by omega), if_pos (by omega)]; done)
  · refine S_if_eq (d := qX7_shift_5) (kt := fun _ => ?_) (kf := fun c => absurd c (by decide))
    refine S_iconst qX7_shift_16 ?_
    refine S_iret hz qX7_shift_17 ?_
    refine RM.eq hZ ?_
    unfold nShift
    first | (rw [if_pos (by omega)]; done) | (rw [if_neg (by omega), if_pos (by omega)]; done) | (rw [if_neg (by omega), if_neg (by omega), if_pos (by omega)]; done) | (rw [if_neg (by omega), if_neg (by omega), if_neg (by omega), if_pos (by omega)]; done)

theorem mim_l0 {g : GC} {X : CX} {V : MM} (hk : SW g X RX7 cX7_image 103 [some (vr 83), none] [] (upR (upR (upR V 110 (V 84)) 111 (V 85)) 112 (V 86))) : ∀ (n : Nat) (i : Int), 0 ≤ i → i + n = 6 → SW g X RX7 cX7_image 55 [some (vr 83), some (vi i)] [] (upR (upR (upR V 110 (cpS (V 84) (V 110) 0 0 i)) 111 (cpS (V 85) (V 111) 0 0 i)) 112 (cpS (V 86) (V 112) 0 0 i)) := by
  intro n
  induction n with
  | zero =>
    intro i h0 h1
    have e : i = 6 := by omega
    subst e
    refine S_il1 qX7_image_55 ?_
    refine S_bipush (d := qX7_image_56) (k := ?_)
    refine S_icmp_ge (d := qX7_image_58) (kt := fun c58 => ?_) (kf := fun c58 => ?_)
    rotate_left
    · omega
    refine SW.castR (SW.forget 1 hk) (fun k q h => ?_)
    by_cases e112 : k = 112
    · subst e112
      have h2 := inR_a a112 h
      simp only [upR_n _ (show (84 : Nat) ≠ 110 by decide), upR_n _ (show (84 : Nat) ≠ 111 by decide), upR_n _ (show (84 : Nat) ≠ 112 by decide), upR_n _ (show (85 : Nat) ≠ 110 by decide), upR_n _ (show (85 : Nat) ≠ 111 by decide), upR_n _ (show (85 : Nat) ≠ 112 by decide), upR_n _ (show (86 : Nat) ≠ 110 by decide), upR_n _ (show (86 : Nat) ≠ 111 by decide), upR_n _ (show (86 : Nat) ≠ 112 by decide), upR_n _ (show (110 : Nat) ≠ 111 by decide), upR_n _ (show (110 : Nat) ≠ 112 by decide), upR_n _ (show (111 : Nat) ≠ 110 by decide), upR_n _ (show (111 : Nat) ≠ 112 by decide), upR_n _ (show (112 : Nat) ≠ 110 by decide), upR_n _ (show (112 : Nat) ≠ 111 by decide), upR_s]
      rw [cps_in _ _ (by omega)]
    by_cases e111 : k = 111
    · subst e111
      have h2 := inR_a a111 h
      simp only [upR_n _ (show (84 : Nat) ≠ 110 by decide), upR_n _ (show (84 : Nat) ≠ 111 by decide), upR_n _ (show (84 : Nat) ≠ 112 by decide), upR_n _ (show (85 : Nat) ≠ 110 by decide), upR_n _ (show (85 : Nat) ≠ 111 by decide), upR_n _ (show (85 : Nat) ≠ 112 by decide), upR_n _ (show (86 : Nat) ≠ 110 by decide), upR_n _ (show (86 : Nat) ≠ 111 by decide), upR_n _ (show (86 : Nat) ≠ 112 by decide), upR_n _ (show (110 : Nat) ≠ 111 by decide), upR_n _ (show (110 : Nat) ≠ 112 by decide), upR_n _ (show (111 : Nat) ≠ 110 by decide), upR_n _ (show (111 : Nat) ≠ 112 by decide), upR_n _ (show (112 : Nat) ≠ 110 by decide), upR_n _ (show (112 : Nat) ≠ 111 by decide), upR_s]
      rw [cps_in _ _ (by omega)]
    by_cases e110 : k = 110
    · subst e110
      have h2 := inR_a a110 h
      simp only [upR_n _ (show (84 : Nat) ≠ 110 by decide), upR_n _ (show (84 : Nat) ≠ 111 by decide), upR_n _ (show (84 : Nat) ≠ 112 by decide), upR_n _ (show (85 : Nat) ≠ 110 by decide), upR_n _ (show (85 : Nat) ≠ 111 by decide), upR_n _ (show (85 : Nat) ≠ 112 by decide), upR_n _ (show (86 : Nat) ≠ 110 by decide), upR_n _ (show (86 : Nat) ≠ 111 by decide), upR_n _ (show (86 : Nat) ≠ 112 by decide), upR_n _ (show (110 : Nat) ≠ 111 by decide), upR_n _ (show (110 : Nat) ≠ 112 by decide), upR_n _ (show (111 : Nat) ≠ 110 by decide), upR_n _ (show (111 : Nat) ≠ 112 by decide), upR_n _ (show (112 : Nat) ≠ 110 by decide), upR_n _ (show (112 : Nat) ≠ 111 by decide), upR_s]
      rw [cps_in _ _ (by omega)]
    simp only [upR_n _ e110, upR_n _ e111, upR_n _ e112]
  | succ n ih =>
    intro i h0 h1
    have ih2 := ih (i + 1) (by omega) (by omega)
    rw [← cp_1 (V 84) (V 110) h0 rfl] at ih2
    rw [← cp_1 (V 85) (V 111) h0 rfl] at ih2
    rw [← cp_1 (V 86) (V 112) h0 rfl] at ih2
    refine S_il1 qX7_image_55 ?_
    refine S_bipush (d := qX7_image_56) (k := ?_)
    refine S_icmp_ge (d := qX7_image_58) (kt := fun c58 => ?_) (kf := fun c58 => ?_)
    · omega
    refine S_al0 qX7_image_61 ?_
    refine S_getR qX7_image_62 fX7_154 e83_47 ?_
    refine S_il1 qX7_image_65 ?_
    refine S_al0 qX7_image_66 ?_
    refine S_getR qX7_image_67 fX7_16 e83_2 ?_
    refine S_il1 qX7_image_70 ?_
    refine S_iald qX7_image_71 a84 (K := ?_)
    refine S_iast qX7_image_72 a110 (K := ?_)
    refine S_al0 qX7_image_73 ?_
    refine S_getR qX7_image_74 fX7_157 e83_48 ?_
    refine S_il1 qX7_image_77 ?_
    refine S_al0 qX7_image_78 ?_
    refine S_getR qX7_image_79 fX7_20 e83_3 ?_
    refine S_il1 qX7_image_82 ?_
    refine S_iald qX7_image_83 a85 (K := ?_)
    refine S_iast qX7_image_84 a111 (K := ?_)
    refine S_al0 qX7_image_85 ?_
    refine S_getR qX7_image_86 fX7_160 e83_49 ?_
    refine S_il1 qX7_image_89 ?_
    refine S_al0 qX7_image_90 ?_
    refine S_getR qX7_image_91 fX7_23 e83_4 ?_
    refine S_il1 qX7_image_94 ?_
    refine S_iald qX7_image_95 a86 (K := ?_)
    refine S_iast qX7_image_96 a112 (K := ?_)
    refine S_inc1 qX7_image_97 (K := ?_)
    refine S_goto qX7_image_100 ?_
    refine SW.cast ih2 ?_
    funext k
    by_cases e112 : k = 112
    · subst e112
      simp only [upR_n _ (show (84 : Nat) ≠ 110 by decide), upR_n _ (show (84 : Nat) ≠ 111 by decide), upR_n _ (show (84 : Nat) ≠ 112 by decide), upR_n _ (show (85 : Nat) ≠ 110 by decide), upR_n _ (show (85 : Nat) ≠ 111 by decide), upR_n _ (show (85 : Nat) ≠ 112 by decide), upR_n _ (show (86 : Nat) ≠ 110 by decide), upR_n _ (show (86 : Nat) ≠ 111 by decide), upR_n _ (show (86 : Nat) ≠ 112 by decide), upR_n _ (show (110 : Nat) ≠ 111 by decide), upR_n _ (show (110 : Nat) ≠ 112 by decide), upR_n _ (show (111 : Nat) ≠ 110 by decide), upR_n _ (show (111 : Nat) ≠ 112 by decide), upR_n _ (show (112 : Nat) ≠ 110 by decide), upR_n _ (show (112 : Nat) ≠ 111 by decide), upR_s]
    by_cases e111 : k = 111
    · subst e111
      simp only [upR_n _ (show (84 : Nat) ≠ 110 by decide), upR_n _ (show (84 : Nat) ≠ 111 by decide), upR_n _ (show (84 : Nat) ≠ 112 by decide), upR_n _ (show (85 : Nat) ≠ 110 by decide), upR_n _ (show (85 : Nat) ≠ 111 by decide), upR_n _ (show (85 : Nat) ≠ 112 by decide), upR_n _ (show (86 : Nat) ≠ 110 by decide), upR_n _ (show (86 : Nat) ≠ 111 by decide), upR_n _ (show (86 : Nat) ≠ 112 by decide), upR_n _ (show (110 : Nat) ≠ 111 by decide), upR_n _ (show (110 : Nat) ≠ 112 by decide), upR_n _ (show (111 : Nat) ≠ 110 by decide), upR_n _ (show (111 : Nat) ≠ 112 by decide), upR_n _ (show (112 : Nat) ≠ 110 by decide), upR_n _ (show (112 : Nat) ≠ 111 by decide), upR_s]
    by_cases e110 : k = 110
    · subst e110
      simp only [upR_n _ (show (84 : Nat) ≠ 110 by decide), upR_n _ (show (84 : Nat) ≠ 111 by decide), upR_n _ (show (84 : Nat) ≠ 112 by decide), upR_n _ (show (85 : Nat) ≠ 110 by decide), upR_n _ (show (85 : Nat) ≠ 111 by decide), upR_n _ (show (85 : Nat) ≠ 112 by decide), upR_n _ (show (86 : Nat) ≠ 110 by decide), upR_n _ (show (86 : Nat) ≠ 111 by decide), upR_n _ (show (86 : Nat) ≠ 112 by decide), upR_n _ (show (110 : Nat) ≠ 111 by decide), upR_n _ (show (110 : Nat) ≠ 112 by decide), upR_n _ (show (111 : Nat) ≠ 110 by decide), upR_n _ (show (111 : Nat) ≠ 112 by decide), upR_n _ (show (112 : Nat) ≠ 110 by decide), upR_n _ (show (112 : Nat) ≠ 111 by decide), upR_s]
    simp only [upR_n _ e110, upR_n _ e111, upR_n _ e112]
theorem mim_l1 {g : GC} {X : CX} {V : MM} (hk : SW g X RX7 cX7_image 129 [some (vr 83), none] [] (upR V 113 (V 87))) : ∀ (n : Nat) (i : Int), 0 ≤ i → i + n = 24 → SW g X RX7 cX7_image 105 [some (vr 83), some (vi i)] [] (upR V 113 (cpS (V 87) (V 113) 0 0 i)) := by
  intro n
  induction n with
  | zero =>
    intro i h0 h1
    have e : i = 24 := by omega
    subst e
    refine S_il1 qX7_image_105 ?_
    refine S_bipush (d := qX7_image_106) (k := ?_)
    refine S_icmp_ge (d := qX7_image_108) (kt := fun c108 => ?_) (kf := fun c108 => ?_)
    rotate_left
    · omega
    refine SW.castR (SW.forget 1 hk) (fun k q h => ?_)
    by_cases e113 : k = 113
    · subst e113
      have h2 := inR_a a113 h
      simp only [upR_n _ (show (87 : Nat) ≠ 113 by decide), upR_s]
      rw [cps_in _ _ (by omega)]
    simp only [upR_n _ e113]
  | succ n ih =>
    intro i h0 h1
    have ih2 := ih (i + 1) (by omega) (by omega)
    rw [← cp_1 (V 87) (V 113) h0 rfl] at ih2
    refine S_il1 qX7_image_105 ?_
    refine S_bipush (d := qX7_image_106) (k := ?_)
    refine S_icmp_ge (d := qX7_image_108) (kt := fun c108 => ?_) (kf := fun c108 => ?_)
    · omega
    refine S_al0 qX7_image_111 ?_
    refine S_getR qX7_image_112 fX7_163 e83_50 ?_
    refine S_il1 qX7_image_115 ?_
    refine S_al0 qX7_image_116 ?_
    refine S_getR qX7_image_117 fX7_26 e83_5 ?_
    refine S_il1 qX7_image_120 ?_
    refine S_iald qX7_image_121 a87 (K := ?_)
    refine S_iast qX7_image_122 a113 (K := ?_)
    refine S_inc1 qX7_image_123 (K := ?_)
    refine S_goto qX7_image_126 ?_
    refine SW.cast ih2 ?_
    funext k
    by_cases e113 : k = 113
    · subst e113
      simp only [upR_n _ (show (87 : Nat) ≠ 113 by decide), upR_s]
    simp only [upR_n _ e113]
theorem mim_l2 {g : GC} {X : CX} {V : MM} (hk : SW g X RX7 cX7_image 155 [some (vr 83), none] [] (upR V 114 (V 88))) : ∀ (n : Nat) (i : Int), 0 ≤ i → i + n = 48 → SW g X RX7 cX7_image 131 [some (vr 83), some (vi i)] [] (upR V 114 (cpS (V 88) (V 114) 0 0 i)) := by
  intro n
  induction n with
  | zero =>
    intro i h0 h1
    have e : i = 48 := by omega
    subst e
    refine S_il1 qX7_image_131 ?_
    refine S_bipush (d := qX7_image_132) (k := ?_)
    refine S_icmp_ge (d := qX7_image_134) (kt := fun c134 => ?_) (kf := fun c134 => ?_)
    rotate_left
    · omega
    refine SW.castR (SW.forget 1 hk) (fun k q h => ?_)
    by_cases e114 : k = 114
    · subst e114
      have h2 := inR_a a114 h
      simp only [upR_n _ (show (88 : Nat) ≠ 114 by decide), upR_s]
      rw [cps_in _ _ (by omega)]
    simp only [upR_n _ e114]
  | succ n ih =>
    intro i h0 h1
    have ih2 := ih (i + 1) (by omega) (by omega)
    rw [← cp_1 (V 88) (V 114) h0 rfl] at ih2
    refine S_il1 qX7_image_131 ?_
    refine S_bipush (d := qX7_image_132) (k := ?_)
    refine S_icmp_ge (d := qX7_image_134) (kt := fun c134 => ?_) (kf := fun c134 => ?_)
    · omega
    refine S_al0 qX7_image_137 ?_
    refine S_getR qX7_image_138 fX7_166 e83_51 ?_
    refine S_il1 qX7_image_141 ?_
    refine S_al0 qX7_image_142 ?_
    refine S_getR qX7_image_143 fX7_29 e83_6 ?_
    refine S_il1 qX7_image_146 ?_
    refine S_iald qX7_image_147 a88 (K := ?_)
    refine S_iast qX7_image_148 a114 (K := ?_)
    refine S_inc1 qX7_image_149 (K := ?_)
    refine S_goto qX7_image_152 ?_
    refine SW.cast ih2 ?_
    funext k
    by_cases e114 : k = 114
    · subst e114
      simp only [upR_n _ (show (88 : Nat) ≠ 114 by decide), upR_s]
    simp only [upR_n _ e114]
theorem mim_l3 {g : GC} {X : CX} {V : MM} (hk : SW g X RX7 cX7_image 204 [some (vr 83), none] [] (upR (upR (upR V 115 (V 104)) 116 (V 105)) 117 (V 106))) : ∀ (n : Nat) (i : Int), 0 ≤ i → i + n = 5 → SW g X RX7 cX7_image 157 [some (vr 83), some (vi i)] [] (upR (upR (upR V 115 (cpS (V 104) (V 115) 0 0 i)) 116 (cpS (V 105) (V 116) 0 0 i)) 117 (cpS (V 106) (V 117) 0 0 i)) := by
  intro n
  induction n with
  | zero =>
    intro i h0 h1
    have e : i = 5 := by omega
    subst e
    refine S_il1 qX7_image_157 ?_
    refine S_iconst qX7_image_158 ?_
    refine S_icmp_ge (d := qX7_image_159) (kt := fun c159 => ?_) (kf := fun c159 => ?_)
    rotate_left
    · omega
    refine SW.castR (SW.forget 1 hk) (fun k q h => ?_)
    by_cases e117 : k = 117
    · subst e117
      have h2 := inR_a a117 h
      simp only [upR_n _ (show (104 : Nat) ≠ 115 by decide), upR_n _ (show (104 : Nat) ≠ 116 by decide), upR_n _ (show (104 : Nat) ≠ 117 by decide), upR_n _ (show (105 : Nat) ≠ 115 by decide), upR_n _ (show (105 : Nat) ≠ 116 by decide), upR_n _ (show (105 : Nat) ≠ 117 by decide), upR_n _ (show (106 : Nat) ≠ 115 by decide), upR_n _ (show (106 : Nat) ≠ 116 by decide), upR_n _ (show (106 : Nat) ≠ 117 by decide), upR_n _ (show (115 : Nat) ≠ 116 by decide), upR_n _ (show (115 : Nat) ≠ 117 by decide), upR_n _ (show (116 : Nat) ≠ 115 by decide), upR_n _ (show (116 : Nat) ≠ 117 by decide), upR_n _ (show (117 : Nat) ≠ 115 by decide), upR_n _ (show (117 : Nat) ≠ 116 by decide), upR_s]
      rw [cps_in _ _ (by omega)]
    by_cases e116 : k = 116
    · subst e116
      have h2 := inR_a a116 h
      simp only [upR_n _ (show (104 : Nat) ≠ 115 by decide), upR_n _ (show (104 : Nat) ≠ 116 by decide), upR_n _ (show (104 : Nat) ≠ 117 by decide), upR_n _ (show (105 : Nat) ≠ 115 by decide), upR_n _ (show (105 : Nat) ≠ 116 by decide), upR_n _ (show (105 : Nat) ≠ 117 by decide), upR_n _ (show (106 : Nat) ≠ 115 by decide), upR_n _ (show (106 : Nat) ≠ 116 by decide), upR_n _ (show (106 : Nat) ≠ 117 by decide), upR_n _ (show (115 : Nat) ≠ 116 by decide), upR_n _ (show (115 : Nat) ≠ 117 by decide), upR_n _ (show (116 : Nat) ≠ 115 by decide), upR_n _ (show (116 : Nat) ≠ 117 by decide), upR_n _ (show (117 : Nat) ≠ 115 by decide), upR_n _ (show (117 : Nat) ≠ 116 by decide), upR_s]
      rw [cps_in _ _ (by omega)]
    by_cases e115 : k = 115
    · subst e115
      have h2 := inR_a a115 h
      simp only [upR_n _ (show (104 : Nat) ≠ 115 by decide), upR_n _ (show (104 : Nat) ≠ 116 by decide), upR_n _ (show (104 : Nat) ≠ 117 by decide), upR_n _ (show (105 : Nat) ≠ 115 by decide), upR_n _ (show (105 : Nat) ≠ 116 by decide), upR_n _ (show (105 : Nat) ≠ 117 by decide), upR_n _ (show (106 : Nat) ≠ 115 by decide), upR_n _ (show (106 : Nat) ≠ 116 by decide), upR_n _ (show (106 : Nat) ≠ 117 by decide), upR_n _ (show (115 : Nat) ≠ 116 by decide), upR_n _ (show (115 : Nat) ≠ 117 by decide), upR_n _ (show (116 : Nat) ≠ 115 by decide), upR_n _ (show (116 : Nat) ≠ 117 by decide), upR_n _ (show (117 : Nat) ≠ 115 by decide), upR_n _ (show (117 : Nat) ≠ 116 by decide), upR_s]
      rw [cps_in _ _ (by omega)]
    simp only [upR_n _ e115, upR_n _ e116, upR_n _ e117]
  | succ n ih =>
    intro i h0 h1
    have ih2 := ih (i + 1) (by omega) (by omega)
    rw [← cp_1 (V 104) (V 115) h0 rfl] at ih2
    rw [← cp_1 (V 105) (V 116) h0 rfl] at ih2
    rw [← cp_1 (V 106) (V 117) h0 rfl] at ih2
    refine S_il1 qX7_image_157 ?_
    refine S_iconst qX7_image_158 ?_
    refine S_icmp_ge (d := qX7_image_159) (kt := fun c159 => ?_) (kf := fun c159 => ?_)
    · omega
    refine S_al0 qX7_image_162 ?_
    refine S_getR qX7_image_163 fX7_169 e83_52 ?_
    refine S_il1 qX7_image_166 ?_
    refine S_al0 qX7_image_167 ?_
    refine S_getR qX7_image_168 fX7_108 e83_32 ?_
    refine S_il1 qX7_image_171 ?_
    refine S_iald qX7_image_172 a104 (K := ?_)
    refine S_iast qX7_image_173 a115 (K := ?_)
    refine S_al0 qX7_image_174 ?_
    refine S_getR qX7_image_175 fX7_172 e83_53 ?_
    refine S_il1 qX7_image_178 ?_
    refine S_al0 qX7_image_179 ?_
    refine S_getR qX7_image_180 fX7_111 e83_33 ?_
    refine S_il1 qX7_image_183 ?_
    refine S_iald qX7_image_184 a105 (K := ?_)
    refine S_iast qX7_image_185 a116 (K := ?_)
    refine S_al0 qX7_image_186 ?_
    refine S_getR qX7_image_187 fX7_175 e83_54 ?_
    refine S_il1 qX7_image_190 ?_
    refine S_al0 qX7_image_191 ?_
    refine S_getR qX7_image_192 fX7_114 e83_34 ?_
    refine S_il1 qX7_image_195 ?_
    refine S_iald qX7_image_196 a106 (K := ?_)
    refine S_iast qX7_image_197 a117 (K := ?_)
    refine S_inc1 qX7_image_198 (K := ?_)
    refine S_goto qX7_image_201 ?_
    refine SW.cast ih2 ?_
    funext k
    by_cases e117 : k = 117
    · subst e117
      simp only [upR_n _ (show (104 : Nat) ≠ 115 by decide), upR_n _ (show (104 : Nat) ≠ 116 by decide), upR_n _ (show (104 : Nat) ≠ 117 by decide), upR_n _ (show (105 : Nat) ≠ 115 by decide), upR_n _ (show (105 : Nat) ≠ 116 by decide), upR_n _ (show (105 : Nat) ≠ 117 by decide), upR_n _ (show (106 : Nat) ≠ 115 by decide), upR_n _ (show (106 : Nat) ≠ 116 by decide), upR_n _ (show (106 : Nat) ≠ 117 by decide), upR_n _ (show (115 : Nat) ≠ 116 by decide), upR_n _ (show (115 : Nat) ≠ 117 by decide), upR_n _ (show (116 : Nat) ≠ 115 by decide), upR_n _ (show (116 : Nat) ≠ 117 by decide), upR_n _ (show (117 : Nat) ≠ 115 by decide), upR_n _ (show (117 : Nat) ≠ 116 by decide), upR_s]
    by_cases e116 : k = 116
    · subst e116
      simp only [upR_n _ (show (104 : Nat) ≠ 115 by decide), upR_n _ (show (104 : Nat) ≠ 116 by decide), upR_n _ (show (104 : Nat) ≠ 117 by decide), upR_n _ (show (105 : Nat) ≠ 115 by decide), upR_n _ (show (105 : Nat) ≠ 116 by decide), upR_n _ (show (105 : Nat) ≠ 117 by decide), upR_n _ (show (106 : Nat) ≠ 115 by decide), upR_n _ (show (106 : Nat) ≠ 116 by decide), upR_n _ (show (106 : Nat) ≠ 117 by decide), upR_n _ (show (115 : Nat) ≠ 116 by decide), upR_n _ (show (115 : Nat) ≠ 117 by decide), upR_n _ (show (116 : Nat) ≠ 115 by decide), upR_n _ (show (116 : Nat) ≠ 117 by decide), upR_n _ (show (117 : Nat) ≠ 115 by decide), upR_n _ (show (117 : Nat) ≠ 116 by decide), upR_s]
    by_cases e115 : k = 115
    · subst e115
      simp only [upR_n _ (show (104 : Nat) ≠ 115 by decide), upR_n _ (show (104 : Nat) ≠ 116 by decide), upR_n _ (show (104 : Nat) ≠ 117 by decide), upR_n _ (show (105 : Nat) ≠ 115 by decide), upR_n _ (show (105 : Nat) ≠ 116 by decide), upR_n _ (show (105 : Nat) ≠ 117 by decide), upR_n _ (show (106 : Nat) ≠ 115 by decide), upR_n _ (show (106 : Nat) ≠ 116 by decide), upR_n _ (show (106 : Nat) ≠ 117 by decide), upR_n _ (show (115 : Nat) ≠ 116 by decide), upR_n _ (show (115 : Nat) ≠ 117 by decide), upR_n _ (show (116 : Nat) ≠ 115 by decide), upR_n _ (show (116 : Nat) ≠ 117 by decide), upR_n _ (show (117 : Nat) ≠ 115 by decide), upR_n _ (show (117 : Nat) ≠ 116 by decide), upR_s]
    simp only [upR_n _ e115, upR_n _ e116, upR_n _ e117]
theorem mim_l4 {g : GC} {X : CX} {V : MM} (hk : SW g X RX7 cX7_image 230 [some (vr 83), none] [] (upR V 118 (V 107))) : ∀ (n : Nat) (i : Int), 0 ≤ i → i + n = 10 → SW g X RX7 cX7_image 206 [some (vr 83), some (vi i)] [] (upR V 118 (cpS (V 107) (V 118) 0 0 i)) := by
  intro n
  induction n with
  | zero =>
    intro i h0 h1
    have e : i = 10 := by omega
    subst e
    refine S_il1 qX7_image_206 ?_
    refine S_bipush (d := qX7_image_207) (k := ?_)
    refine S_icmp_ge (d := qX7_image_209) (kt := fun c209 => ?_) (kf := fun c209 => ?_)
    rotate_left
    · omega
    refine SW.castR (SW.forget 1 hk) (fun k q h => ?_)
    by_cases e118 : k = 118
    · subst e118
      have h2 := inR_a a118 h
      simp only [upR_n _ (show (107 : Nat) ≠ 118 by decide), upR_s]
      rw [cps_in _ _ (by omega)]
    simp only [upR_n _ e118]
  | succ n ih =>
    intro i h0 h1
    have ih2 := ih (i + 1) (by omega) (by omega)
    rw [← cp_1 (V 107) (V 118) h0 rfl] at ih2
    refine S_il1 qX7_image_206 ?_
    refine S_bipush (d := qX7_image_207) (k := ?_)
    refine S_icmp_ge (d := qX7_image_209) (kt := fun c209 => ?_) (kf := fun c209 => ?_)
    · omega
    refine S_al0 qX7_image_212 ?_
    refine S_getR qX7_image_213 fX7_178 e83_55 ?_
    refine S_il1 qX7_image_216 ?_
    refine S_al0 qX7_image_217 ?_
    refine S_getR qX7_image_218 fX7_123 e83_37 ?_
    refine S_il1 qX7_image_221 ?_
    refine S_iald qX7_image_222 a107 (K := ?_)
    refine S_iast qX7_image_223 a118 (K := ?_)
    refine S_inc1 qX7_image_224 (K := ?_)
    refine S_goto qX7_image_227 ?_
    refine SW.cast ih2 ?_
    funext k
    by_cases e118 : k = 118
    · subst e118
      simp only [upR_n _ (show (107 : Nat) ≠ 118 by decide), upR_s]
    simp only [upR_n _ e118]
theorem mim_l5 {g : GC} {X : CX} {V : MM} (hk : SW g X RX7 cX7_image 268 [some (vr 83), none] [] (upR (upR V 119 (V 108)) 120 (V 109))) : ∀ (n : Nat) (i : Int), 0 ≤ i → i + n = 8 → SW g X RX7 cX7_image 232 [some (vr 83), some (vi i)] [] (upR (upR V 119 (cpS (V 108) (V 119) 0 0 i)) 120 (cpS (V 109) (V 120) 0 0 i)) := by
  intro n
  induction n with
  | zero =>
    intro i h0 h1
    have e : i = 8 := by omega
    subst e
    refine S_il1 qX7_image_232 ?_
    refine S_bipush (d := qX7_image_233) (k := ?_)
    refine S_icmp_ge (d := qX7_image_235) (kt := fun c235 => ?_) (kf := fun c235 => ?_)
    rotate_left
    · omega
    refine SW.castR (SW.forget 1 hk) (fun k q h => ?_)
    by_cases e120 : k = 120
    · subst e120
      have h2 := inR_a a120 h
      simp only [upR_n _ (show (108 : Nat) ≠ 119 by decide), upR_n _ (show (108 : Nat) ≠ 120 by decide), upR_n _ (show (109 : Nat) ≠ 119 by decide), upR_n _ (show (109 : Nat) ≠ 120 by decide), upR_n _ (show (119 : Nat) ≠ 120 by decide), upR_n _ (show (120 : Nat) ≠ 119 by decide), upR_s]
      rw [cps_in _ _ (by omega)]
    by_cases e119 : k = 119
    · subst e119
      have h2 := inR_a a119 h
      simp only [upR_n _ (show (108 : Nat) ≠ 119 by decide), upR_n _ (show (108 : Nat) ≠ 120 by decide), upR_n _ (show (109 : Nat) ≠ 119 by decide), upR_n _ (show (109 : Nat) ≠ 120 by decide), upR_n _ (show (119 : Nat) ≠ 120 by decide), upR_n _ (show (120 : Nat) ≠ 119 by decide), upR_s]
      rw [cps_in _ _ (by omega)]
    simp only [upR_n _ e119, upR_n _ e120]
  | succ n ih =>
    intro i h0 h1
    have ih2 := ih (i + 1) (by omega) (by omega)
    rw [← cp_1 (V 108) (V 119) h0 rfl] at ih2
    rw [← cp_1 (V 109) (V 120) h0 rfl] at ih2
    refine S_il1 qX7_image_232 ?_
    refine S_bipush (d := qX7_image_233) (k := ?_)
    refine S_icmp_ge (d := qX7_image_235) (kt := fun c235 => ?_) (kf := fun c235 => ?_)
    · omega
    refine S_al0 qX7_image_238 ?_
    refine S_getR qX7_image_239 fX7_181 e83_56 ?_
    refine S_il1 qX7_image_242 ?_
    refine S_al0 qX7_image_243 ?_
    refine S_getR qX7_image_244 fX7_126 e83_38 ?_
    refine S_il1 qX7_image_247 ?_
    refine S_iald qX7_image_248 a108 (K := ?_)
    refine S_iast qX7_image_249 a119 (K := ?_)
    refine S_al0 qX7_image_250 ?_
    refine S_getR qX7_image_251 fX7_184 e83_57 ?_
    refine S_il1 qX7_image_254 ?_
    refine S_al0 qX7_image_255 ?_
    refine S_getR qX7_image_256 fX7_129 e83_39 ?_
    refine S_il1 qX7_image_259 ?_
    refine S_iald qX7_image_260 a109 (K := ?_)
    refine S_iast qX7_image_261 a120 (K := ?_)
    refine S_inc1 qX7_image_262 (K := ?_)
    refine S_goto qX7_image_265 ?_
    refine SW.cast ih2 ?_
    funext k
    by_cases e120 : k = 120
    · subst e120
      simp only [upR_n _ (show (108 : Nat) ≠ 119 by decide), upR_n _ (show (108 : Nat) ≠ 120 by decide), upR_n _ (show (109 : Nat) ≠ 119 by decide), upR_n _ (show (109 : Nat) ≠ 120 by decide), upR_n _ (show (119 : Nat) ≠ 120 by decide), upR_n _ (show (120 : Nat) ≠ 119 by decide), upR_s]
    by_cases e119 : k = 119
    · subst e119
      simp only [upR_n _ (show (108 : Nat) ≠ 119 by decide), upR_n _ (show (108 : Nat) ≠ 120 by decide), upR_n _ (show (109 : Nat) ≠ 119 by decide), upR_n _ (show (109 : Nat) ≠ 120 by decide), upR_n _ (show (119 : Nat) ≠ 120 by decide), upR_n _ (show (120 : Nat) ≠ 119 by decide), upR_s]
    simp only [upR_n _ e119, upR_n _ e120]
theorem mun_l0 {g : GC} {X : CX} {V : MM} (hk : SW g X RX7 cX7_undo 108 [some (vr 83), none] [] (upR (upR (upR V 84 (V 110)) 85 (V 111)) 86 (V 112))) : ∀ (n : Nat) (i : Int), 0 ≤ i → i + n = 6 → SW g X RX7 cX7_undo 60 [some (vr 83), some (vi i)] [] (upR (upR (upR V 84 (cpS (V 110) (V 84) 0 0 i)) 85 (cpS (V 111) (V 85) 0 0 i)) 86 (cpS (V 112) (V 86) 0 0 i)) := by
  intro n
  induction n with
  | zero =>
    intro i h0 h1
    have e : i = 6 := by omega
    subst e
    refine S_il1 qX7_undo_60 ?_
    refine S_bipush (d := qX7_undo_61) (k := ?_)
    refine S_icmp_ge (d := qX7_undo_63) (kt := fun c63 => ?_) (kf := fun c63 => ?_)
    rotate_left
    · omega
    refine SW.castR (SW.forget 1 hk) (fun k q h => ?_)
    by_cases e86 : k = 86
    · subst e86
      have h2 := inR_a a86 h
      simp only [upR_n _ (show (84 : Nat) ≠ 85 by decide), upR_n _ (show (84 : Nat) ≠ 86 by decide), upR_n _ (show (85 : Nat) ≠ 84 by decide), upR_n _ (show (85 : Nat) ≠ 86 by decide), upR_n _ (show (86 : Nat) ≠ 84 by decide), upR_n _ (show (86 : Nat) ≠ 85 by decide), upR_n _ (show (110 : Nat) ≠ 84 by decide), upR_n _ (show (110 : Nat) ≠ 85 by decide), upR_n _ (show (110 : Nat) ≠ 86 by decide), upR_n _ (show (111 : Nat) ≠ 84 by decide), upR_n _ (show (111 : Nat) ≠ 85 by decide), upR_n _ (show (111 : Nat) ≠ 86 by decide), upR_n _ (show (112 : Nat) ≠ 84 by decide), upR_n _ (show (112 : Nat) ≠ 85 by decide), upR_n _ (show (112 : Nat) ≠ 86 by decide), upR_s]
      rw [cps_in _ _ (by omega)]
    by_cases e85 : k = 85
    · subst e85
      have h2 := inR_a a85 h
      simp only [upR_n _ (show (84 : Nat) ≠ 85 by decide), upR_n _ (show (84 : Nat) ≠ 86 by decide), upR_n _ (show (85 : Nat) ≠ 84 by decide), upR_n _ (show (85 : Nat) ≠ 86 by decide), upR_n _ (show (86 : Nat) ≠ 84 by decide), upR_n _ (show (86 : Nat) ≠ 85 by decide), upR_n _ (show (110 : Nat) ≠ 84 by decide), upR_n _ (show (110 : Nat) ≠ 85 by decide), upR_n _ (show (110 : Nat) ≠ 86 by decide), upR_n _ (show (111 : Nat) ≠ 84 by decide), upR_n _ (show (111 : Nat) ≠ 85 by decide), upR_n _ (show (111 : Nat) ≠ 86 by decide), upR_n _ (show (112 : Nat) ≠ 84 by decide), upR_n _ (show (112 : Nat) ≠ 85 by decide), upR_n _ (show (112 : Nat) ≠ 86 by decide), upR_s]
      rw [cps_in _ _ (by omega)]
    by_cases e84 : k = 84
    · subst e84
      have h2 := inR_a a84 h
      simp only [upR_n _ (show (84 : Nat) ≠ 85 by decide), upR_n _ (show (84 : Nat) ≠ 86 by decide), upR_n _ (show (85 : Nat) ≠ 84 by decide), upR_n _ (show (85 : Nat) ≠ 86 by decide), upR_n _ (show (86 : Nat) ≠ 84 by decide), upR_n _ (show (86 : Nat) ≠ 85 by decide), upR_n _ (show (110 : Nat) ≠ 84 by decide), upR_n _ (show (110 : Nat) ≠ 85 by decide), upR_n _ (show (110 : Nat) ≠ 86 by decide), upR_n _ (show (111 : Nat) ≠ 84 by decide), upR_n _ (show (111 : Nat) ≠ 85 by decide), upR_n _ (show (111 : Nat) ≠ 86 by decide), upR_n _ (show (112 : Nat) ≠ 84 by decide), upR_n _ (show (112 : Nat) ≠ 85 by decide), upR_n _ (show (112 : Nat) ≠ 86 by decide), upR_s]
      rw [cps_in _ _ (by omega)]
    simp only [upR_n _ e84, upR_n _ e85, upR_n _ e86]
  | succ n ih =>
    intro i h0 h1
    have ih2 := ih (i + 1) (by omega) (by omega)
    rw [← cp_1 (V 110) (V 84) h0 rfl] at ih2
    rw [← cp_1 (V 111) (V 85) h0 rfl] at ih2
    rw [← cp_1 (V 112) (V 86) h0 rfl] at ih2
    refine S_il1 qX7_undo_60 ?_
    refine S_bipush (d := qX7_undo_61) (k := ?_)
    refine S_icmp_ge (d := qX7_undo_63) (kt := fun c63 => ?_) (kf := fun c63 => ?_)
    · omega
    refine S_al0 qX7_undo_66 ?_
    refine S_getR qX7_undo_67 fX7_16 e83_2 ?_
    refine S_il1 qX7_undo_70 ?_
    refine S_al0 qX7_undo_71 ?_
    refine S_getR qX7_undo_72 fX7_154 e83_47 ?_
    refine S_il1 qX7_undo_75 ?_
    refine S_iald qX7_undo_76 a110 (K := ?_)
    refine S_iast qX7_undo_77 a84 (K := ?_)
    refine S_al0 qX7_undo_78 ?_
    refine S_getR qX7_undo_79 fX7_20 e83_3 ?_
    refine S_il1 qX7_undo_82 ?_
    refine S_al0 qX7_undo_83 ?_
    refine S_getR qX7_undo_84 fX7_157 e83_48 ?_
    refine S_il1 qX7_undo_87 ?_
    refine S_iald qX7_undo_88 a111 (K := ?_)
    refine S_iast qX7_undo_89 a85 (K := ?_)
    refine S_al0 qX7_undo_90 ?_
    refine S_getR qX7_undo_91 fX7_23 e83_4 ?_
    refine S_il1 qX7_undo_94 ?_
    refine S_al0 qX7_undo_95 ?_
    refine S_getR qX7_undo_96 fX7_160 e83_49 ?_
    refine S_il1 qX7_undo_99 ?_
    refine S_iald qX7_undo_100 a112 (K := ?_)
    refine S_iast qX7_undo_101 a86 (K := ?_)
    refine S_inc1 qX7_undo_102 (K := ?_)
    refine S_goto qX7_undo_105 ?_
    refine SW.cast ih2 ?_
    funext k
    by_cases e86 : k = 86
    · subst e86
      simp only [upR_n _ (show (84 : Nat) ≠ 85 by decide), upR_n _ (show (84 : Nat) ≠ 86 by decide), upR_n _ (show (85 : Nat) ≠ 84 by decide), upR_n _ (show (85 : Nat) ≠ 86 by decide), upR_n _ (show (86 : Nat) ≠ 84 by decide), upR_n _ (show (86 : Nat) ≠ 85 by decide), upR_n _ (show (110 : Nat) ≠ 84 by decide), upR_n _ (show (110 : Nat) ≠ 85 by decide), upR_n _ (show (110 : Nat) ≠ 86 by decide), upR_n _ (show (111 : Nat) ≠ 84 by decide), upR_n _ (show (111 : Nat) ≠ 85 by decide), upR_n _ (show (111 : Nat) ≠ 86 by decide), upR_n _ (show (112 : Nat) ≠ 84 by decide), upR_n _ (show (112 : Nat) ≠ 85 by decide), upR_n _ (show (112 : Nat) ≠ 86 by decide), upR_s]
    by_cases e85 : k = 85
    · subst e85
      simp only [upR_n _ (show (84 : Nat) ≠ 85 by decide), upR_n _ (show (84 : Nat) ≠ 86 by decide), upR_n _ (show (85 : Nat) ≠ 84 by decide), upR_n _ (show (85 : Nat) ≠ 86 by decide), upR_n _ (show (86 : Nat) ≠ 84 by decide), upR_n _ (show (86 : Nat) ≠ 85 by decide), upR_n _ (show (110 : Nat) ≠ 84 by decide), upR_n _ (show (110 : Nat) ≠ 85 by decide), upR_n _ (show (110 : Nat) ≠ 86 by decide), upR_n _ (show (111 : Nat) ≠ 84 by decide), upR_n _ (show (111 : Nat) ≠ 85 by decide), upR_n _ (show (111 : Nat) ≠ 86 by decide), upR_n _ (show (112 : Nat) ≠ 84 by decide), upR_n _ (show (112 : Nat) ≠ 85 by decide), upR_n _ (show (112 : Nat) ≠ 86 by decide), upR_s]
    by_cases e84 : k = 84
    · subst e84
      simp only [upR_n _ (show (84 : Nat) ≠ 85 by decide), upR_n _ (show (84 : Nat) ≠ 86 by decide), upR_n _ (show (85 : Nat) ≠ 84 by decide), upR_n _ (show (85 : Nat) ≠ 86 by decide), upR_n _ (show (86 : Nat) ≠ 84 by decide), upR_n _ (show (86 : Nat) ≠ 85 by decide), upR_n _ (show (110 : Nat) ≠ 84 by decide), upR_n _ (show (110 : Nat) ≠ 85 by decide), upR_n _ (show (110 : Nat) ≠ 86 by decide), upR_n _ (show (111 : Nat) ≠ 84 by decide), upR_n _ (show (111 : Nat) ≠ 85 by decide), upR_n _ (show (111 : Nat) ≠ 86 by decide), upR_n _ (show (112 : Nat) ≠ 84 by decide), upR_n _ (show (112 : Nat) ≠ 85 by decide), upR_n _ (show (112 : Nat) ≠ 86 by decide), upR_s]
    simp only [upR_n _ e84, upR_n _ e85, upR_n _ e86]
theorem mun_l1 {g : GC} {X : CX} {V : MM} (hk : SW g X RX7 cX7_undo 134 [some (vr 83), none] [] (upR V 87 (V 113))) : ∀ (n : Nat) (i : Int), 0 ≤ i → i + n = 24 → SW g X RX7 cX7_undo 110 [some (vr 83), some (vi i)] [] (upR V 87 (cpS (V 113) (V 87) 0 0 i)) := by
  intro n
  induction n with
  | zero =>
    intro i h0 h1
    have e : i = 24 := by omega
    subst e
    refine S_il1 qX7_undo_110 ?_
    refine S_bipush (d := qX7_undo_111) (k := ?_)
    refine S_icmp_ge (d := qX7_undo_113) (kt := fun c113 => ?_) (kf := fun c113 => ?_)
    rotate_left
    · omega
    refine SW.castR (SW.forget 1 hk) (fun k q h => ?_)
    by_cases e87 : k = 87
    · subst e87
      have h2 := inR_a a87 h
      simp only [upR_n _ (show (113 : Nat) ≠ 87 by decide), upR_s]
      rw [cps_in _ _ (by omega)]
    simp only [upR_n _ e87]
  | succ n ih =>
    intro i h0 h1
    have ih2 := ih (i + 1) (by omega) (by omega)
    rw [← cp_1 (V 113) (V 87) h0 rfl] at ih2
    refine S_il1 qX7_undo_110 ?_
    refine S_bipush (d := qX7_undo_111) (k := ?_)
    refine S_icmp_ge (d := qX7_undo_113) (kt := fun c113 => ?_) (kf := fun c113 => ?_)
    · omega
    refine S_al0 qX7_undo_116 ?_
    refine S_getR qX7_undo_117 fX7_26 e83_5 ?_
    refine S_il1 qX7_undo_120 ?_
    refine S_al0 qX7_undo_121 ?_
    refine S_getR qX7_undo_122 fX7_163 e83_50 ?_
    refine S_il1 qX7_undo_125 ?_
    refine S_iald qX7_undo_126 a113 (K := ?_)
    refine S_iast qX7_undo_127 a87 (K := ?_)
    refine S_inc1 qX7_undo_128 (K := ?_)
    refine S_goto qX7_undo_131 ?_
    refine SW.cast ih2 ?_
    funext k
    by_cases e87 : k = 87
    · subst e87
      simp only [upR_n _ (show (113 : Nat) ≠ 87 by decide), upR_s]
    simp only [upR_n _ e87]
theorem mun_l2 {g : GC} {X : CX} {V : MM} (hk : SW g X RX7 cX7_undo 160 [some (vr 83), none] [] (upR V 88 (V 114))) : ∀ (n : Nat) (i : Int), 0 ≤ i → i + n = 48 → SW g X RX7 cX7_undo 136 [some (vr 83), some (vi i)] [] (upR V 88 (cpS (V 114) (V 88) 0 0 i)) := by
  intro n
  induction n with
  | zero =>
    intro i h0 h1
    have e : i = 48 := by omega
    subst e
    refine S_il1 qX7_undo_136 ?_
    refine S_bipush (d := qX7_undo_137) (k := ?_)
    refine S_icmp_ge (d := qX7_undo_139) (kt := fun c139 => ?_) (kf := fun c139 => ?_)
    rotate_left
    · omega
    refine SW.castR (SW.forget 1 hk) (fun k q h => ?_)
    by_cases e88 : k = 88
    · subst e88
      have h2 := inR_a a88 h
      simp only [upR_n _ (show (114 : Nat) ≠ 88 by decide), upR_s]
      rw [cps_in _ _ (by omega)]
    simp only [upR_n _ e88]
  | succ n ih =>
    intro i h0 h1
    have ih2 := ih (i + 1) (by omega) (by omega)
    rw [← cp_1 (V 114) (V 88) h0 rfl] at ih2
    refine S_il1 qX7_undo_136 ?_
    refine S_bipush (d := qX7_undo_137) (k := ?_)
    refine S_icmp_ge (d := qX7_undo_139) (kt := fun c139 => ?_) (kf := fun c139 => ?_)
    · omega
    refine S_al0 qX7_undo_142 ?_
    refine S_getR qX7_undo_143 fX7_29 e83_6 ?_
    refine S_il1 qX7_undo_146 ?_
    refine S_al0 qX7_undo_147 ?_
    refine S_getR qX7_undo_148 fX7_166 e83_51 ?_
    refine S_il1 qX7_undo_151 ?_
    refine S_iald qX7_undo_152 a114 (K := ?_)
    refine S_iast qX7_undo_153 a88 (K := ?_)
    refine S_inc1 qX7_undo_154 (K := ?_)
    refine S_goto qX7_undo_157 ?_
    refine SW.cast ih2 ?_
    funext k
    by_cases e88 : k = 88
    · subst e88
      simp only [upR_n _ (show (114 : Nat) ≠ 88 by decide), upR_s]
    simp only [upR_n _ e88]
theorem mun_l3 {g : GC} {X : CX} {V : MM} (hk : SW g X RX7 cX7_undo 209 [some (vr 83), none] [] (upR (upR (upR V 104 (V 115)) 105 (V 116)) 106 (V 117))) : ∀ (n : Nat) (i : Int), 0 ≤ i → i + n = 5 → SW g X RX7 cX7_undo 162 [some (vr 83), some (vi i)] [] (upR (upR (upR V 104 (cpS (V 115) (V 104) 0 0 i)) 105 (cpS (V 116) (V 105) 0 0 i)) 106 (cpS (V 117) (V 106) 0 0 i)) := by
  intro n
  induction n with
  | zero =>
    intro i h0 h1
    have e : i = 5 := by omega
    subst e
    refine S_il1 qX7_undo_162 ?_
    refine S_iconst qX7_undo_163 ?_
    refine S_icmp_ge (d := qX7_undo_164) (kt := fun c164 => ?_) (kf := fun c164 => ?_)
    rotate_left
    · omega
    refine SW.castR (SW.forget 1 hk) (fun k q h => ?_)
    by_cases e106 : k = 106
    · subst e106
      have h2 := inR_a a106 h
      simp only [upR_n _ (show (104 : Nat) ≠ 105 by decide), upR_n _ (show (104 : Nat) ≠ 106 by decide), upR_n _ (show (105 : Nat) ≠ 104 by decide), upR_n _ (show (105 : Nat) ≠ 106 by decide), upR_n _ (show (106 : Nat) ≠ 104 by decide), upR_n _ (show (106 : Nat) ≠ 105 by decide), upR_n _ (show (115 : Nat) ≠ 104 by decide), upR_n _ (show (115 : Nat) ≠ 105 by decide), upR_n _ (show (115 : Nat) ≠ 106 by decide), upR_n _ (show (116 : Nat) ≠ 104 by decide), upR_n _ (show (116 : Nat) ≠ 105 by decide), upR_n _ (show (116 : Nat) ≠ 106 by decide), upR_n _ (show (117 : Nat) ≠ 104 by decide), upR_n _ (show (117 : Nat) ≠ 105 by decide), upR_n _ (show (117 : Nat) ≠ 106 by decide), upR_s]
      rw [cps_in _ _ (by omega)]
    by_cases e105 : k = 105
    · subst e105
      have h2 := inR_a a105 h
      simp only [upR_n _ (show (104 : Nat) ≠ 105 by decide), upR_n _ (show (104 : Nat) ≠ 106 by decide), upR_n _ (show (105 : Nat) ≠ 104 by decide), upR_n _ (show (105 : Nat) ≠ 106 by decide), upR_n _ (show (106 : Nat) ≠ 104 by decide), upR_n _ (show (106 : Nat) ≠ 105 by decide), upR_n _ (show (115 : Nat) ≠ 104 by decide), upR_n _ (show (115 : Nat) ≠ 105 by decide), upR_n _ (show (115 : Nat) ≠ 106 by decide), upR_n _ (show (116 : Nat) ≠ 104 by decide), upR_n _ (show (116 : Nat) ≠ 105 by decide), upR_n _ (show (116 : Nat) ≠ 106 by decide), upR_n _ (show (117 : Nat) ≠ 104 by decide), upR_n _ (show (117 : Nat) ≠ 105 by decide), upR_n _ (show (117 : Nat) ≠ 106 by decide), upR_s]
      rw [cps_in _ _ (by omega)]
    by_cases e104 : k = 104
    · subst e104
      have h2 := inR_a a104 h
      simp only [upR_n _ (show (104 : Nat) ≠ 105 by decide), upR_n _ (show (104 : Nat) ≠ 106 by decide), upR_n _ (show (105 : Nat) ≠ 104 by decide), upR_n _ (show (105 : Nat) ≠ 106 by decide), upR_n _ (show (106 : Nat) ≠ 104 by decide), upR_n _ (show (106 : Nat) ≠ 105 by decide), upR_n _ (show (115 : Nat) ≠ 104 by decide), upR_n _ (show (115 : Nat) ≠ 105 by decide), upR_n _ (show (115 : Nat) ≠ 106 by decide), upR_n _ (show (116 : Nat) ≠ 104 by decide), upR_n _ (show (116 : Nat) ≠ 105 by decide), upR_n _ (show (116 : Nat) ≠ 106 by decide), upR_n _ (show (117 : Nat) ≠ 104 by decide), upR_n _ (show (117 : Nat) ≠ 105 by decide), upR_n _ (show (117 : Nat) ≠ 106 by decide), upR_s]
      rw [cps_in _ _ (by omega)]
    simp only [upR_n _ e104, upR_n _ e105, upR_n _ e106]
  | succ n ih =>
    intro i h0 h1
    have ih2 := ih (i + 1) (by omega) (by omega)
    rw [← cp_1 (V 115) (V 104) h0 rfl] at ih2
    rw [← cp_1 (V 116) (V 105) h0 rfl] at ih2
    rw [← cp_1 (V 117) (V 106) h0 rfl] at ih2
    refine S_il1 qX7_undo_162 ?_
    refine S_iconst qX7_undo_163 ?_
    refine S_icmp_ge (d := qX7_undo_164) (kt := fun c164 => ?_) (kf := fun c164 => ?_)
    · omega
    refine S_al0 qX7_undo_167 ?_
    refine S_getR qX7_undo_168 fX7_108 e83_32 ?_
    refine S_il1 qX7_undo_171 ?_
    refine S_al0 qX7_undo_172 ?_
    refine S_getR qX7_undo_173 fX7_169 e83_52 ?_
    refine S_il1 qX7_undo_176 ?_
    refine S_iald qX7_undo_177 a115 (K := ?_)
    refine S_iast qX7_undo_178 a104 (K := ?_)
    refine S_al0 qX7_undo_179 ?_
    refine S_getR qX7_undo_180 fX7_111 e83_33 ?_
    refine S_il1 qX7_undo_183 ?_
    refine S_al0 qX7_undo_184 ?_
    refine S_getR qX7_undo_185 fX7_172 e83_53 ?_
    refine S_il1 qX7_undo_188 ?_
    refine S_iald qX7_undo_189 a116 (K := ?_)
    refine S_iast qX7_undo_190 a105 (K := ?_)
    refine S_al0 qX7_undo_191 ?_
    refine S_getR qX7_undo_192 fX7_114 e83_34 ?_
    refine S_il1 qX7_undo_195 ?_
    refine S_al0 qX7_undo_196 ?_
    refine S_getR qX7_undo_197 fX7_175 e83_54 ?_
    refine S_il1 qX7_undo_200 ?_
    refine S_iald qX7_undo_201 a117 (K := ?_)
    refine S_iast qX7_undo_202 a106 (K := ?_)
    refine S_inc1 qX7_undo_203 (K := ?_)
    refine S_goto qX7_undo_206 ?_
    refine SW.cast ih2 ?_
    funext k
    by_cases e106 : k = 106
    · subst e106
      simp only [upR_n _ (show (104 : Nat) ≠ 105 by decide), upR_n _ (show (104 : Nat) ≠ 106 by decide), upR_n _ (show (105 : Nat) ≠ 104 by decide), upR_n _ (show (105 : Nat) ≠ 106 by decide), upR_n _ (show (106 : Nat) ≠ 104 by decide), upR_n _ (show (106 : Nat) ≠ 105 by decide), upR_n _ (show (115 : Nat) ≠ 104 by decide), upR_n _ (show (115 : Nat) ≠ 105 by decide), upR_n _ (show (115 : Nat) ≠ 106 by decide), upR_n _ (show (116 : Nat) ≠ 104 by decide), upR_n _ (show (116 : Nat) ≠ 105 by decide), upR_n _ (show (116 : Nat) ≠ 106 by decide), upR_n _ (show (117 : Nat) ≠ 104 by decide), upR_n _ (show (117 : Nat) ≠ 105 by decide), upR_n _ (show (117 : Nat) ≠ 106 by decide), upR_s]
    by_cases e105 : k = 105
    · subst e105
      simp only [upR_n _ (show (104 : Nat) ≠ 105 by decide), upR_n _ (show (104 : Nat) ≠ 106 by decide), upR_n _ (show (105 : Nat) ≠ 104 by decide), upR_n _ (show (105 : Nat) ≠ 106 by decide), upR_n _ (show (106 : Nat) ≠ 104 by decide), upR_n _ (show (106 : Nat) ≠ 105 by decide), upR_n _ (show (115 : Nat) ≠ 104 by decide), upR_n _ (show (115 : Nat) ≠ 105 by decide), upR_n _ (show (115 : Nat) ≠ 106 by decide), upR_n _ (show (116 : Nat) ≠ 104 by decide), upR_n _ (show (116 : Nat) ≠ 105 by decide), upR_n _ (show (116 : Nat) ≠ 106 by decide), upR_n _ (show (117 : Nat) ≠ 104 by decide), upR_n _ (show (117 : Nat) ≠ 105 by decide), upR_n _ (show (117 : Nat) ≠ 106 by decide), upR_s]
    by_cases e104 : k = 104
    · subst e104
      simp only [upR_n _ (show (104 : Nat) ≠ 105 by decide), upR_n _ (show (104 : Nat) ≠ 106 by decide), upR_n _ (show (105 : Nat) ≠ 104 by decide), upR_n _ (show (105 : Nat) ≠ 106 by decide), upR_n _ (show (106 : Nat) ≠ 104 by decide), upR_n _ (show (106 : Nat) ≠ 105 by decide), upR_n _ (show (115 : Nat) ≠ 104 by decide), upR_n _ (show (115 : Nat) ≠ 105 by decide), upR_n _ (show (115 : Nat) ≠ 106 by decide), upR_n _ (show (116 : Nat) ≠ 104 by decide), upR_n _ (show (116 : Nat) ≠ 105 by decide), upR_n _ (show (116 : Nat) ≠ 106 by decide), upR_n _ (show (117 : Nat) ≠ 104 by decide), upR_n _ (show (117 : Nat) ≠ 105 by decide), upR_n _ (show (117 : Nat) ≠ 106 by decide), upR_s]
    simp only [upR_n _ e104, upR_n _ e105, upR_n _ e106]
theorem mun_l4 {g : GC} {X : CX} {V : MM} (hk : SW g X RX7 cX7_undo 235 [some (vr 83), none] [] (upR V 107 (V 118))) : ∀ (n : Nat) (i : Int), 0 ≤ i → i + n = 10 → SW g X RX7 cX7_undo 211 [some (vr 83), some (vi i)] [] (upR V 107 (cpS (V 118) (V 107) 0 0 i)) := by
  intro n
  induction n with
  | zero =>
    intro i h0 h1
    have e : i = 10 := by omega
    subst e
    refine S_il1 qX7_undo_211 ?_
    refine S_bipush (d := qX7_undo_212) (k := ?_)
    refine S_icmp_ge (d := qX7_undo_214) (kt := fun c214 => ?_) (kf := fun c214 => ?_)
    rotate_left
    · omega
    refine SW.castR (SW.forget 1 hk) (fun k q h => ?_)
    by_cases e107 : k = 107
    · subst e107
      have h2 := inR_a a107 h
      simp only [upR_n _ (show (118 : Nat) ≠ 107 by decide), upR_s]
      rw [cps_in _ _ (by omega)]
    simp only [upR_n _ e107]
  | succ n ih =>
    intro i h0 h1
    have ih2 := ih (i + 1) (by omega) (by omega)
    rw [← cp_1 (V 118) (V 107) h0 rfl] at ih2
    refine S_il1 qX7_undo_211 ?_
    refine S_bipush (d := qX7_undo_212) (k := ?_)
    refine S_icmp_ge (d := qX7_undo_214) (kt := fun c214 => ?_) (kf := fun c214 => ?_)
    · omega
    refine S_al0 qX7_undo_217 ?_
    refine S_getR qX7_undo_218 fX7_123 e83_37 ?_
    refine S_il1 qX7_undo_221 ?_
    refine S_al0 qX7_undo_222 ?_
    refine S_getR qX7_undo_223 fX7_178 e83_55 ?_
    refine S_il1 qX7_undo_226 ?_
    refine S_iald qX7_undo_227 a118 (K := ?_)
    refine S_iast qX7_undo_228 a107 (K := ?_)
    refine S_inc1 qX7_undo_229 (K := ?_)
    refine S_goto qX7_undo_232 ?_
    refine SW.cast ih2 ?_
    funext k
    by_cases e107 : k = 107
    · subst e107
      simp only [upR_n _ (show (118 : Nat) ≠ 107 by decide), upR_s]
    simp only [upR_n _ e107]
theorem mun_l5 {g : GC} {X : CX} {V : MM} (hk : SW g X RX7 cX7_undo 273 [some (vr 83), none] [] (upR (upR V 108 (V 119)) 109 (V 120))) : ∀ (n : Nat) (i : Int), 0 ≤ i → i + n = 8 → SW g X RX7 cX7_undo 237 [some (vr 83), some (vi i)] [] (upR (upR V 108 (cpS (V 119) (V 108) 0 0 i)) 109 (cpS (V 120) (V 109) 0 0 i)) := by
  intro n
  induction n with
  | zero =>
    intro i h0 h1
    have e : i = 8 := by omega
    subst e
    refine S_il1 qX7_undo_237 ?_
    refine S_bipush (d := qX7_undo_238) (k := ?_)
    refine S_icmp_ge (d := qX7_undo_240) (kt := fun c240 => ?_) (kf := fun c240 => ?_)
    rotate_left
    · omega
    refine SW.castR (SW.forget 1 hk) (fun k q h => ?_)
    by_cases e109 : k = 109
    · subst e109
      have h2 := inR_a a109 h
      simp only [upR_n _ (show (108 : Nat) ≠ 109 by decide), upR_n _ (show (109 : Nat) ≠ 108 by decide), upR_n _ (show (119 : Nat) ≠ 108 by decide), upR_n _ (show (119 : Nat) ≠ 109 by decide), upR_n _ (show (120 : Nat) ≠ 108 by decide), upR_n _ (show (120 : Nat) ≠ 109 by decide), upR_s]
      rw [cps_in _ _ (by omega)]
    by_cases e108 : k = 108
    · subst e108
      have h2 := inR_a a108 h
      simp only [upR_n _ (show (108 : Nat) ≠ 109 by decide), upR_n _ (show (109 : Nat) ≠ 108 by decide), upR_n _ (show (119 : Nat) ≠ 108 by decide), upR_n _ (show (119 : Nat) ≠ 109 by decide), upR_n _ (show (120 : Nat) ≠ 108 by decide), upR_n _ (show (120 : Nat) ≠ 109 by decide), upR_s]
      rw [cps_in _ _ (by omega)]
    simp only [upR_n _ e108, upR_n _ e109]
  | succ n ih =>
    intro i h0 h1
    have ih2 := ih (i + 1) (by omega) (by omega)
    rw [← cp_1 (V 119) (V 108) h0 rfl] at ih2
    rw [← cp_1 (V 120) (V 109) h0 rfl] at ih2
    refine S_il1 qX7_undo_237 ?_
    refine S_bipush (d := qX7_undo_238) (k := ?_)
    refine S_icmp_ge (d := qX7_undo_240) (kt := fun c240 => ?_) (kf := fun c240 => ?_)
    · omega
    refine S_al0 qX7_undo_243 ?_
    refine S_getR qX7_undo_244 fX7_126 e83_38 ?_
    refine S_il1 qX7_undo_247 ?_
    refine S_al0 qX7_undo_248 ?_
    refine S_getR qX7_undo_249 fX7_181 e83_56 ?_
    refine S_il1 qX7_undo_252 ?_
    refine S_iald qX7_undo_253 a119 (K := ?_)
    refine S_iast qX7_undo_254 a108 (K := ?_)
    refine S_al0 qX7_undo_255 ?_
    refine S_getR qX7_undo_256 fX7_129 e83_39 ?_
    refine S_il1 qX7_undo_259 ?_
    refine S_al0 qX7_undo_260 ?_
    refine S_getR qX7_undo_261 fX7_184 e83_57 ?_
    refine S_il1 qX7_undo_264 ?_
    refine S_iald qX7_undo_265 a120 (K := ?_)
    refine S_iast qX7_undo_266 a109 (K := ?_)
    refine S_inc1 qX7_undo_267 (K := ?_)
    refine S_goto qX7_undo_270 ?_
    refine SW.cast ih2 ?_
    funext k
    by_cases e109 : k = 109
    · subst e109
      simp only [upR_n _ (show (108 : Nat) ≠ 109 by decide), upR_n _ (show (109 : Nat) ≠ 108 by decide), upR_n _ (show (119 : Nat) ≠ 108 by decide), upR_n _ (show (119 : Nat) ≠ 109 by decide), upR_n _ (show (120 : Nat) ≠ 108 by decide), upR_n _ (show (120 : Nat) ≠ 109 by decide), upR_s]
    by_cases e108 : k = 108
    · subst e108
      simp only [upR_n _ (show (108 : Nat) ≠ 109 by decide), upR_n _ (show (109 : Nat) ≠ 108 by decide), upR_n _ (show (119 : Nat) ≠ 108 by decide), upR_n _ (show (119 : Nat) ≠ 109 by decide), upR_n _ (show (120 : Nat) ≠ 108 by decide), upR_n _ (show (120 : Nat) ≠ 109 by decide), upR_s]
    simp only [upR_n _ e108, upR_n _ e109]
theorem m_image {g : GC} {V : MM} {Z : ZT} (hZ : MA V Z) : Ct g mX7_image 8 [vr 83] V (RM V (nImage Z).1 (nImage Z).2) := by
  refine Ct.of (ls := [some (vr 83), none]) (plainFor_of_name (by decide +kernel)) rfl (by exact Nat.le_of_ble_eq_true rfl) (fun X hz hD => ?_)
  obtain ⟨M, hI0, hn6, hbb, hwz, hkz⟩ := hZ.pf
  have hT := Tm.rf V
  refine S_al0 qX7_image_0 ?_
  refine S_iconst qX7_image_1 ?_
  refine S_putZ qX7_image_2 fX7_132 e83_40 tX7_40 (K := ?_)
  refine S_al0 qX7_image_5 ?_
  refine S_al0 qX7_image_6 ?_
  refine S_getI qX7_image_7 fX7_35 e83_8 ?_
  refine S_putI qX7_image_10 fX7_136 e83_41 tX7_41 ?_
  refine S_al0 qX7_image_13 ?_
  refine S_al0 qX7_image_14 ?_
  refine S_getI qX7_image_15 fX7_7 e83_0 ?_
  refine S_putI qX7_image_18 fX7_139 e83_42 tX7_42 ?_
  refine S_al0 qX7_image_21 ?_
  refine S_al0 qX7_image_22 ?_
  refine S_getI qX7_image_23 fX7_13 e83_1 ?_
  refine S_putI qX7_image_26 fX7_142 e83_43 tX7_43 ?_
  refine S_al0 qX7_image_29 ?_
  refine S_al0 qX7_image_30 ?_
  refine S_getI qX7_image_31 fX7_105 e83_31 ?_
  refine S_putI qX7_image_34 fX7_145 e83_44 tX7_44 ?_
  refine S_al0 qX7_image_37 ?_
  refine S_al0 qX7_image_38 ?_
  refine S_getI qX7_image_39 fX7_117 e83_35 ?_
  refine S_putI qX7_image_42 fX7_148 e83_45 tX7_45 ?_
  refine S_al0 qX7_image_45 ?_
  refine S_al0 qX7_image_46 ?_
  refine S_getI qX7_image_47 fX7_120 e83_36 ?_
  refine S_putI qX7_image_50 fX7_151 e83_46 tX7_46 ?_
  refine S_iconst qX7_image_53 ?_
  refine S_is1 qX7_image_54 (K := ?_)
  simp only [upR_s, upR_u, ur_n _ (show (8 : Int) ≠ 40 by decide), ur_n _ (show (8 : Int) ≠ 41 by decide), ur_n _ (show (8 : Int) ≠ 42 by decide), ur_n _ (show (8 : Int) ≠ 43 by decide), ur_n _ (show (8 : Int) ≠ 44 by decide), ur_n _ (show (8 : Int) ≠ 45 by decide), ur_n _ (show (8 : Int) ≠ 46 by decide), ur_n _ (show (0 : Int) ≠ 40 by decide), ur_n _ (show (0 : Int) ≠ 41 by decide), ur_n _ (show (0 : Int) ≠ 42 by decide), ur_n _ (show (0 : Int) ≠ 43 by decide), ur_n _ (show (0 : Int) ≠ 44 by decide), ur_n _ (show (0 : Int) ≠ 45 by decide), ur_n _ (show (0 : Int) ≠ 46 by decide), ur_n _ (show (1 : Int) ≠ 40 by decide), ur_n _ (show (1 : Int) ≠ 41 by decide), ur_n _ (show (1 : Int) ≠ 42 by decide), ur_n _ (show (1 : Int) ≠ 43 by decide), ur_n _ (show (1 : Int) ≠ 44 by decide), ur_n _ (show (1 : Int) ≠ 45 by decide), ur_n _ (show (1 : Int) ≠ 46 by decide), ur_n _ (show (31 : Int) ≠ 40 by decide), ur_n _ (show (31 : Int) ≠ 41 by decide), ur_n _ (show (31 : Int) ≠ 42 by decide), ur_n _ (show (31 : Int) ≠ 43 by decide), ur_n _ (show (31 : Int) ≠ 44 by decide), ur_n _ (show (31 : Int) ≠ 45 by decide), ur_n _ (show (31 : Int) ≠ 46 by decide), ur_n _ (show (35 : Int) ≠ 40 by decide), ur_n _ (show (35 : Int) ≠ 41 by decide), ur_n _ (show (35 : Int) ≠ 42 by decide), ur_n _ (show (35 : Int) ≠ 43 by decide), ur_n _ (show (35 : Int) ≠ 44 by decide), ur_n _ (show (35 : Int) ≠ 45 by decide), ur_n _ (show (35 : Int) ≠ 46 by decide), ur_n _ (show (36 : Int) ≠ 40 by decide), ur_n _ (show (36 : Int) ≠ 41 by decide), ur_n _ (show (36 : Int) ≠ 42 by decide), ur_n _ (show (36 : Int) ≠ 43 by decide), ur_n _ (show (36 : Int) ≠ 44 by decide), ur_n _ (show (36 : Int) ≠ 45 by decide), ur_n _ (show (36 : Int) ≠ 46 by decide)]
  generalize hW0 : upR V 83 (ur (ur (ur (ur (ur (ur (ur (V 83) 40 1) 41 (V 83 8)) 42 (V 83 0)) 43 (V 83 1)) 44 (V 83 31)) 45 (V 83 35)) 46 (V 83 36)) = W0
  have w083 : W0 83 = (ur (ur (ur (ur (ur (ur (ur (V 83) 40 1) 41 (V 83 8)) 42 (V 83 0)) 43 (V 83 1)) 44 (V 83 31)) 45 (V 83 35)) 46 (V 83 36)) := by rw [← hW0, upR_s]
  have w0k : ∀ k : Nat, k ≠ 83 → W0 k = V k := fun k a => by rw [← hW0, upR_n _ a]
  have h0 := mim_l0 (g := g) (X := X) (V := W0) ?_ 6 0 (by omega) (by omega)
  · simp only [cp_0, upR_id] at h0
    exact h0
  generalize hW1 : (upR (upR (upR W0 110 (W0 84)) 111 (W0 85)) 112 (W0 86)) = W1
  have v1_110 : W1 110 = W0 84 := by rw [← hW1]; simp only [upR_n _ (show (110 : Nat) ≠ 111 by decide), upR_n _ (show (110 : Nat) ≠ 112 by decide), upR_s]
  have v1_111 : W1 111 = W0 85 := by rw [← hW1]; simp only [upR_n _ (show (111 : Nat) ≠ 110 by decide), upR_n _ (show (111 : Nat) ≠ 112 by decide), upR_s]
  have v1_112 : W1 112 = W0 86 := by rw [← hW1]; simp only [upR_n _ (show (112 : Nat) ≠ 110 by decide), upR_n _ (show (112 : Nat) ≠ 111 by decide), upR_s]
  have k1 : ∀ k : Nat, k ≠ 110 → k ≠ 111 → k ≠ 112 → W1 k = W0 k := fun k e110 e111 e112 => by rw [← hW1, upR_n _ e112, upR_n _ e111, upR_n _ e110]
  refine S_iconst qX7_image_103 ?_
  refine S_is1 qX7_image_104 (K := ?_)
  have h1 := mim_l1 (g := g) (X := X) (V := W1) ?_ 24 0 (by omega) (by omega)
  · simp only [cp_0, upR_id] at h1
    exact h1
  generalize hW2 : (upR W1 113 (W1 87)) = W2
  have v2_113 : W2 113 = W1 87 := by rw [← hW2]; simp only [upR_s]
  have k2 : ∀ k : Nat, k ≠ 113 → W2 k = W1 k := fun k e113 => by rw [← hW2, upR_n _ e113]
  refine S_iconst qX7_image_129 ?_
  refine S_is1 qX7_image_130 (K := ?_)
  have h2 := mim_l2 (g := g) (X := X) (V := W2) ?_ 48 0 (by omega) (by omega)
  · simp only [cp_0, upR_id] at h2
    exact h2
  generalize hW3 : (upR W2 114 (W2 88)) = W3
  have v3_114 : W3 114 = W2 88 := by rw [← hW3]; simp only [upR_s]
  have k3 : ∀ k : Nat, k ≠ 114 → W3 k = W2 k := fun k e114 => by rw [← hW3, upR_n _ e114]
  refine S_iconst qX7_image_155 ?_
  refine S_is1 qX7_image_156 (K := ?_)
  have h3 := mim_l3 (g := g) (X := X) (V := W3) ?_ 5 0 (by omega) (by omega)
  · simp only [cp_0, upR_id] at h3
    exact h3
  generalize hW4 : (upR (upR (upR W3 115 (W3 104)) 116 (W3 105)) 117 (W3 106)) = W4
  have v4_115 : W4 115 = W3 104 := by rw [← hW4]; simp only [upR_n _ (show (115 : Nat) ≠ 116 by decide), upR_n _ (show (115 : Nat) ≠ 117 by decide), upR_s]
  have v4_116 : W4 116 = W3 105 := by rw [← hW4]; simp only [upR_n _ (show (116 : Nat) ≠ 115 by decide), upR_n _ (show (116 : Nat) ≠ 117 by decide), upR_s]
  have v4_117 : W4 117 = W3 106 := by rw [← hW4]; simp only [upR_n _ (show (117 : Nat) ≠ 115 by decide), upR_n _ (show (117 : Nat) ≠ 116 by decide), upR_s]
  have k4 : ∀ k : Nat, k ≠ 115 → k ≠ 116 → k ≠ 117 → W4 k = W3 k := fun k e115 e116 e117 => by rw [← hW4, upR_n _ e117, upR_n _ e116, upR_n _ e115]
  refine S_iconst qX7_image_204 ?_
  refine S_is1 qX7_image_205 (K := ?_)
  have h4 := mim_l4 (g := g) (X := X) (V := W4) ?_ 10 0 (by omega) (by omega)
  · simp only [cp_0, upR_id] at h4
    exact h4
  generalize hW5 : (upR W4 118 (W4 107)) = W5
  have v5_118 : W5 118 = W4 107 := by rw [← hW5]; simp only [upR_s]
  have k5 : ∀ k : Nat, k ≠ 118 → W5 k = W4 k := fun k e118 => by rw [← hW5, upR_n _ e118]
  refine S_iconst qX7_image_230 ?_
  refine S_is1 qX7_image_231 (K := ?_)
  have h5 := mim_l5 (g := g) (X := X) (V := W5) ?_ 8 0 (by omega) (by omega)
  · simp only [cp_0, upR_id] at h5
    exact h5
  generalize hW6 : (upR (upR W5 119 (W5 108)) 120 (W5 109)) = W6
  have v6_119 : W6 119 = W5 108 := by rw [← hW6]; simp only [upR_n _ (show (119 : Nat) ≠ 120 by decide), upR_s]
  have v6_120 : W6 120 = W5 109 := by rw [← hW6]; simp only [upR_n _ (show (120 : Nat) ≠ 119 by decide), upR_s]
  have k6 : ∀ k : Nat, k ≠ 119 → k ≠ 120 → W6 k = W5 k := fun k e119 e120 => by rw [← hW6, upR_n _ e120, upR_n _ e119]
  refine S_al0 qX7_image_268 ?_
  refine S_getI qX7_image_269 fX7_7 e83_0 ?_
  refine S_iret hz qX7_image_272 ?_
  have k83 : W6 83 = (ur (ur (ur (ur (ur (ur (ur (V 83) 40 1) 41 (V 83 8)) 42 (V 83 0)) 43 (V 83 1)) 44 (V 83 31)) 45 (V 83 35)) 46 (V 83 36)) := by rw [k6 83 (by omega) (by omega), k5 83 (by omega), k4 83 (by omega) (by omega) (by omega), k3 83 (by omega), k2 83 (by omega), k1 83 (by omega) (by omega) (by omega), w083]
  have kk : ∀ k : Nat, k ≠ 83 → k < 110 ∨ 121 ≤ k → W6 k = V k := fun k a b => by rw [k6 k (by omega) (by omega), k5 k (by omega), k4 k (by omega) (by omega) (by omega), k3 k (by omega), k2 k (by omega), k1 k (by omega) (by omega) (by omega), w0k k a]
  have kj : ∀ j : Int, j < 40 ∨ 46 < j → W6 83 j = V 83 j := fun j a => by rw [k83, ur_n _ (by omega), ur_n _ (by omega), ur_n _ (by omega), ur_n _ (by omega), ur_n _ (by omega), ur_n _ (by omega), ur_n _ (by omega)]
  have j40 : W6 83 40 = 1 := by rw [k83]; simp only [ur_n _ (show (40 : Int) ≠ 41 by decide), ur_n _ (show (40 : Int) ≠ 42 by decide), ur_n _ (show (40 : Int) ≠ 43 by decide), ur_n _ (show (40 : Int) ≠ 44 by decide), ur_n _ (show (40 : Int) ≠ 45 by decide), ur_n _ (show (40 : Int) ≠ 46 by decide), ur_n _ (show (41 : Int) ≠ 40 by decide), ur_n _ (show (41 : Int) ≠ 42 by decide), ur_n _ (show (41 : Int) ≠ 43 by decide), ur_n _ (show (41 : Int) ≠ 44 by decide), ur_n _ (show (41 : Int) ≠ 45 by decide), ur_n _ (show (41 : Int) ≠ 46 by decide), ur_n _ (show (42 : Int) ≠ 40 by decide), ur_n _ (show (42 : Int) ≠ 41 by decide), ur_n _ (show (42 : Int) ≠ 43 by decide), ur_n _ (show (42 : Int) ≠ 44 by decide), ur_n _ (show (42 : Int) ≠ 45 by decide), ur_n _ (show (42 : Int) ≠ 46 by decide), ur_n _ (show (43 : Int) ≠ 40 by decide), ur_n _ (show (43 : Int) ≠ 41 by decide), ur_n _ (show (43 : Int) ≠ 42 by decide), ur_n _ (show (43 : Int) ≠ 44 by decide), ur_n _ (show (43 : Int) ≠ 45 by decide), ur_n _ (show (43 : Int) ≠ 46 by decide), ur_n _ (show (44 : Int) ≠ 40 by decide), ur_n _ (show (44 : Int) ≠ 41 by decide), ur_n _ (show (44 : Int) ≠ 42 by decide), ur_n _ (show (44 : Int) ≠ 43 by decide), ur_n _ (show (44 : Int) ≠ 45 by decide), ur_n _ (show (44 : Int) ≠ 46 by decide), ur_n _ (show (45 : Int) ≠ 40 by decide), ur_n _ (show (45 : Int) ≠ 41 by decide), ur_n _ (show (45 : Int) ≠ 42 by decide), ur_n _ (show (45 : Int) ≠ 43 by decide), ur_n _ (show (45 : Int) ≠ 44 by decide), ur_n _ (show (45 : Int) ≠ 46 by decide), ur_n _ (show (46 : Int) ≠ 40 by decide), ur_n _ (show (46 : Int) ≠ 41 by decide), ur_n _ (show (46 : Int) ≠ 42 by decide), ur_n _ (show (46 : Int) ≠ 43 by decide), ur_n _ (show (46 : Int) ≠ 44 by decide), ur_n _ (show (46 : Int) ≠ 45 by decide), ur_s]
  have j41 : W6 83 41 = V 83 8 := by rw [k83]; simp only [ur_n _ (show (40 : Int) ≠ 41 by decide), ur_n _ (show (40 : Int) ≠ 42 by decide), ur_n _ (show (40 : Int) ≠ 43 by decide), ur_n _ (show (40 : Int) ≠ 44 by decide), ur_n _ (show (40 : Int) ≠ 45 by decide), ur_n _ (show (40 : Int) ≠ 46 by decide), ur_n _ (show (41 : Int) ≠ 40 by decide), ur_n _ (show (41 : Int) ≠ 42 by decide), ur_n _ (show (41 : Int) ≠ 43 by decide), ur_n _ (show (41 : Int) ≠ 44 by decide), ur_n _ (show (41 : Int) ≠ 45 by decide), ur_n _ (show (41 : Int) ≠ 46 by decide), ur_n _ (show (42 : Int) ≠ 40 by decide), ur_n _ (show (42 : Int) ≠ 41 by decide), ur_n _ (show (42 : Int) ≠ 43 by decide), ur_n _ (show (42 : Int) ≠ 44 by decide), ur_n _ (show (42 : Int) ≠ 45 by decide), ur_n _ (show (42 : Int) ≠ 46 by decide), ur_n _ (show (43 : Int) ≠ 40 by decide), ur_n _ (show (43 : Int) ≠ 41 by decide), ur_n _ (show (43 : Int) ≠ 42 by decide), ur_n _ (show (43 : Int) ≠ 44 by decide), ur_n _ (show (43 : Int) ≠ 45 by decide), ur_n _ (show (43 : Int) ≠ 46 by decide), ur_n _ (show (44 : Int) ≠ 40 by decide), ur_n _ (show (44 : Int) ≠ 41 by decide), ur_n _ (show (44 : Int) ≠ 42 by decide), ur_n _ (show (44 : Int) ≠ 43 by decide), ur_n _ (show (44 : Int) ≠ 45 by decide), ur_n _ (show (44 : Int) ≠ 46 by decide), ur_n _ (show (45 : Int) ≠ 40 by decide), ur_n _ (show (45 : Int) ≠ 41 by decide), ur_n _ (show (45 : Int) ≠ 42 by decide), ur_n _ (show (45 : Int) ≠ 43 by decide), ur_n _ (show (45 : Int) ≠ 44 by decide), ur_n _ (show (45 : Int) ≠ 46 by decide), ur_n _ (show (46 : Int) ≠ 40 by decide), ur_n _ (show (46 : Int) ≠ 41 by decide), ur_n _ (show (46 : Int) ≠ 42 by decide), ur_n _ (show (46 : Int) ≠ 43 by decide), ur_n _ (show (46 : Int) ≠ 44 by decide), ur_n _ (show (46 : Int) ≠ 45 by decide), ur_s]
  have j42 : W6 83 42 = V 83 0 := by rw [k83]; simp only [ur_n _ (show (40 : Int) ≠ 41 by decide), ur_n _ (show (40 : Int) ≠ 42 by decide), ur_n _ (show (40 : Int) ≠ 43 by decide), ur_n _ (show (40 : Int) ≠ 44 by decide), ur_n _ (show (40 : Int) ≠ 45 by decide), ur_n _ (show (40 : Int) ≠ 46 by decide), ur_n _ (show (41 : Int) ≠ 40 by decide), ur_n _ (show (41 : Int) ≠ 42 by decide), ur_n _ (show (41 : Int) ≠ 43 by decide), ur_n _ (show (41 : Int) ≠ 44 by decide), ur_n _ (show (41 : Int) ≠ 45 by decide), ur_n _ (show (41 : Int) ≠ 46 by decide), ur_n _ (show (42 : Int) ≠ 40 by decide), ur_n _ (show (42 : Int) ≠ 41 by decide), ur_n _ (show (42 : Int) ≠ 43 by decide), ur_n _ (show (42 : Int) ≠ 44 by decide), ur_n _ (show (42 : Int) ≠ 45 by decide), ur_n _ (show (42 : Int) ≠ 46 by decide), ur_n _ (show (43 : Int) ≠ 40 by decide), ur_n _ (show (43 : Int) ≠ 41 by decide), ur_n _ (show (43 : Int) ≠ 42 by decide), ur_n _ (show (43 : Int) ≠ 44 by decide), ur_n _ (show (43 : Int) ≠ 45 by decide), ur_n _ (show (43 : Int) ≠ 46 by decide), ur_n _ (show (44 : Int) ≠ 40 by decide), ur_n _ (show (44 : Int) ≠ 41 by decide), ur_n _ (show (44 : Int) ≠ 42 by decide), ur_n _ (show (44 : Int) ≠ 43 by decide), ur_n _ (show (44 : Int) ≠ 45 by decide), ur_n _ (show (44 : Int) ≠ 46 by decide), ur_n _ (show (45 : Int) ≠ 40 by decide), ur_n _ (show (45 : Int) ≠ 41 by decide), ur_n _ (show (45 : Int) ≠ 42 by decide), ur_n _ (show (45 : Int) ≠ 43 by decide), ur_n _ (show (45 : Int) ≠ 44 by decide), ur_n _ (show (45 : Int) ≠ 46 by decide), ur_n _ (show (46 : Int) ≠ 40 by decide), ur_n _ (show (46 : Int) ≠ 41 by decide), ur_n _ (show (46 : Int) ≠ 42 by decide), ur_n _ (show (46 : Int) ≠ 43 by decide), ur_n _ (show (46 : Int) ≠ 44 by decide), ur_n _ (show (46 : Int) ≠ 45 by decide), ur_s]
  have j43 : W6 83 43 = V 83 1 := by rw [k83]; simp only [ur_n _ (show (40 : Int) ≠ 41 by decide), ur_n _ (show (40 : Int) ≠ 42 by decide), ur_n _ (show (40 : Int) ≠ 43 by decide), ur_n _ (show (40 : Int) ≠ 44 by decide), ur_n _ (show (40 : Int) ≠ 45 by decide), ur_n _ (show (40 : Int) ≠ 46 by decide), ur_n _ (show (41 : Int) ≠ 40 by decide), ur_n _ (show (41 : Int) ≠ 42 by decide), ur_n _ (show (41 : Int) ≠ 43 by decide), ur_n _ (show (41 : Int) ≠ 44 by decide), ur_n _ (show (41 : Int) ≠ 45 by decide), ur_n _ (show (41 : Int) ≠ 46 by decide), ur_n _ (show (42 : Int) ≠ 40 by decide), ur_n _ (show (42 : Int) ≠ 41 by decide), ur_n _ (show (42 : Int) ≠ 43 by decide), ur_n _ (show (42 : Int) ≠ 44 by decide), ur_n _ (show (42 : Int) ≠ 45 by decide), ur_n _ (show (42 : Int) ≠ 46 by decide), ur_n _ (show (43 : Int) ≠ 40 by decide), ur_n _ (show (43 : Int) ≠ 41 by decide), ur_n _ (show (43 : Int) ≠ 42 by decide), ur_n _ (show (43 : Int) ≠ 44 by decide), ur_n _ (show (43 : Int) ≠ 45 by decide), ur_n _ (show (43 : Int) ≠ 46 by decide), ur_n _ (show (44 : Int) ≠ 40 by decide), ur_n _ (show (44 : Int) ≠ 41 by decide), ur_n _ (show (44 : Int) ≠ 42 by decide), ur_n _ (show (44 : Int) ≠ 43 by decide), ur_n _ (show (44 : Int) ≠ 45 by decide), ur_n _ (show (44 : Int) ≠ 46 by decide), ur_n _ (show (45 : Int) ≠ 40 by decide), ur_n _ (show (45 : Int) ≠ 41 by decide), ur_n _ (show (45 : Int) ≠ 42 by decide), ur_n _ (show (45 : Int) ≠ 43 by decide), ur_n _ (show (45 : Int) ≠ 44 by decide), ur_n _ (show (45 : Int) ≠ 46 by decide), ur_n _ (show (46 : Int) ≠ 40 by decide), ur_n _ (show (46 : Int) ≠ 41 by decide), ur_n _ (show (46 : Int) ≠ 42 by decide), ur_n _ (show (46 : Int) ≠ 43 by decide), ur_n _ (show (46 : Int) ≠ 44 by decide), ur_n _ (show (46 : Int) ≠ 45 by decide), ur_s]
  have j44 : W6 83 44 = V 83 31 := by rw [k83]; simp only [ur_n _ (show (40 : Int) ≠ 41 by decide), ur_n _ (show (40 : Int) ≠ 42 by decide), ur_n _ (show (40 : Int) ≠ 43 by decide), ur_n _ (show (40 : Int) ≠ 44 by decide), ur_n _ (show (40 : Int) ≠ 45 by decide), ur_n _ (show (40 : Int) ≠ 46 by decide), ur_n _ (show (41 : Int) ≠ 40 by decide), ur_n _ (show (41 : Int) ≠ 42 by decide), ur_n _ (show (41 : Int) ≠ 43 by decide), ur_n _ (show (41 : Int) ≠ 44 by decide), ur_n _ (show (41 : Int) ≠ 45 by decide), ur_n _ (show (41 : Int) ≠ 46 by decide), ur_n _ (show (42 : Int) ≠ 40 by decide), ur_n _ (show (42 : Int) ≠ 41 by decide), ur_n _ (show (42 : Int) ≠ 43 by decide), ur_n _ (show (42 : Int) ≠ 44 by decide), ur_n _ (show (42 : Int) ≠ 45 by decide), ur_n _ (show (42 : Int) ≠ 46 by decide), ur_n _ (show (43 : Int) ≠ 40 by decide), ur_n _ (show (43 : Int) ≠ 41 by decide), ur_n _ (show (43 : Int) ≠ 42 by decide), ur_n _ (show (43 : Int) ≠ 44 by decide), ur_n _ (show (43 : Int) ≠ 45 by decide), ur_n _ (show (43 : Int) ≠ 46 by decide), ur_n _ (show (44 : Int) ≠ 40 by decide), ur_n _ (show (44 : Int) ≠ 41 by decide), ur_n _ (show (44 : Int) ≠ 42 by decide), ur_n _ (show (44 : Int) ≠ 43 by decide), ur_n _ (show (44 : Int) ≠ 45 by decide), ur_n _ (show (44 : Int) ≠ 46 by decide), ur_n _ (show (45 : Int) ≠ 40 by decide), ur_n _ (show (45 : Int) ≠ 41 by decide), ur_n _ (show (45 : Int) ≠ 42 by decide), ur_n _ (show (45 : Int) ≠ 43 by decide), ur_n _ (show (45 : Int) ≠ 44 by decide), ur_n _ (show (45 : Int) ≠ 46 by decide), ur_n _ (show (46 : Int) ≠ 40 by decide), ur_n _ (show (46 : Int) ≠ 41 by decide), ur_n _ (show (46 : Int) ≠ 42 by decide), ur_n _ (show (46 : Int) ≠ 43 by decide), ur_n _ (show (46 : Int) ≠ 44 by decide), ur_n _ (show (46 : Int) ≠ 45 by decide), ur_s]
  have j45 : W6 83 45 = V 83 35 := by rw [k83]; simp only [ur_n _ (show (40 : Int) ≠ 41 by decide), ur_n _ (show (40 : Int) ≠ 42 by decide), ur_n _ (show (40 : Int) ≠ 43 by decide), ur_n _ (show (40 : Int) ≠ 44 by decide), ur_n _ (show (40 : Int) ≠ 45 by decide), ur_n _ (show (40 : Int) ≠ 46 by decide), ur_n _ (show (41 : Int) ≠ 40 by decide), ur_n _ (show (41 : Int) ≠ 42 by decide), ur_n _ (show (41 : Int) ≠ 43 by decide), ur_n _ (show (41 : Int) ≠ 44 by decide), ur_n _ (show (41 : Int) ≠ 45 by decide), ur_n _ (show (41 : Int) ≠ 46 by decide), ur_n _ (show (42 : Int) ≠ 40 by decide), ur_n _ (show (42 : Int) ≠ 41 by decide), ur_n _ (show (42 : Int) ≠ 43 by decide), ur_n _ (show (42 : Int) ≠ 44 by decide), ur_n _ (show (42 : Int) ≠ 45 by decide), ur_n _ (show (42 : Int) ≠ 46 by decide), ur_n _ (show (43 : Int) ≠ 40 by decide), ur_n _ (show (43 : Int) ≠ 41 by decide), ur_n _ (show (43 : Int) ≠ 42 by decide), ur_n _ (show (43 : Int) ≠ 44 by decide), ur_n _ (show (43 : Int) ≠ 45 by decide), ur_n _ (show (43 : Int) ≠ 46 by decide), ur_n _ (show (44 : Int) ≠ 40 by decide), ur_n _ (show (44 : Int) ≠ 41 by decide), ur_n _ (show (44 : Int) ≠ 42 by decide), ur_n _ (show (44 : Int) ≠ 43 by decide), ur_n _ (show (44 : Int) ≠ 45 by decide), ur_n _ (show (44 : Int) ≠ 46 by decide), ur_n _ (show (45 : Int) ≠ 40 by decide), ur_n _ (show (45 : Int) ≠ 41 by decide), ur_n _ (show (45 : Int) ≠ 42 by decide), ur_n _ (show (45 : Int) ≠ 43 by decide), ur_n _ (show (45 : Int) ≠ 44 by decide), ur_n _ (show (45 : Int) ≠ 46 by decide), ur_n _ (show (46 : Int) ≠ 40 by decide), ur_n _ (show (46 : Int) ≠ 41 by decide), ur_n _ (show (46 : Int) ≠ 42 by decide), ur_n _ (show (46 : Int) ≠ 43 by decide), ur_n _ (show (46 : Int) ≠ 44 by decide), ur_n _ (show (46 : Int) ≠ 45 by decide), ur_s]
  have j46 : W6 83 46 = V 83 36 := by rw [k83]; simp only [ur_n _ (show (40 : Int) ≠ 41 by decide), ur_n _ (show (40 : Int) ≠ 42 by decide), ur_n _ (show (40 : Int) ≠ 43 by decide), ur_n _ (show (40 : Int) ≠ 44 by decide), ur_n _ (show (40 : Int) ≠ 45 by decide), ur_n _ (show (40 : Int) ≠ 46 by decide), ur_n _ (show (41 : Int) ≠ 40 by decide), ur_n _ (show (41 : Int) ≠ 42 by decide), ur_n _ (show (41 : Int) ≠ 43 by decide), ur_n _ (show (41 : Int) ≠ 44 by decide), ur_n _ (show (41 : Int) ≠ 45 by decide), ur_n _ (show (41 : Int) ≠ 46 by decide), ur_n _ (show (42 : Int) ≠ 40 by decide), ur_n _ (show (42 : Int) ≠ 41 by decide), ur_n _ (show (42 : Int) ≠ 43 by decide), ur_n _ (show (42 : Int) ≠ 44 by decide), ur_n _ (show (42 : Int) ≠ 45 by decide), ur_n _ (show (42 : Int) ≠ 46 by decide), ur_n _ (show (43 : Int) ≠ 40 by decide), ur_n _ (show (43 : Int) ≠ 41 by decide), ur_n _ (show (43 : Int) ≠ 42 by decide), ur_n _ (show (43 : Int) ≠ 44 by decide), ur_n _ (show (43 : Int) ≠ 45 by decide), ur_n _ (show (43 : Int) ≠ 46 by decide), ur_n _ (show (44 : Int) ≠ 40 by decide), ur_n _ (show (44 : Int) ≠ 41 by decide), ur_n _ (show (44 : Int) ≠ 42 by decide), ur_n _ (show (44 : Int) ≠ 43 by decide), ur_n _ (show (44 : Int) ≠ 45 by decide), ur_n _ (show (44 : Int) ≠ 46 by decide), ur_n _ (show (45 : Int) ≠ 40 by decide), ur_n _ (show (45 : Int) ≠ 41 by decide), ur_n _ (show (45 : Int) ≠ 42 by decide), ur_n _ (show (45 : Int) ≠ 43 by decide), ur_n _ (show (45 : Int) ≠ 44 by decide), ur_n _ (show (45 : Int) ≠ 46 by decide), ur_n _ (show (46 : Int) ≠ 40 by decide), ur_n _ (show (46 : Int) ≠ 41 by decide), ur_n _ (show (46 : Int) ≠ 42 by decide), ur_n _ (show (46 : Int) ≠ 43 by decide), ur_n _ (show (46 : Int) ≠ 44 by decide), ur_n _ (show (46 : Int) ≠ 45 by decide), ur_s]
  have hc := hsT_c (V := V) (V' := W6) (t := V 83 8) (fun k a b => kk k (by omega) (by omega))
  obtain ⟨g1, g2, g3, g4, g5, g6, g7, g8⟩ := id hZ
  refine RM.to (Z' := (nImage Z).2) ⟨⟨M.mk3 (fun k a b => kk k (by omega) (by omega)) (kj 8 (by omega)) ?_ hI0, g1.2⟩, MAh_c g2 (kj 7 (by omega)) (kj 8 (by omega)) rfl, MAt_c g3 (kj 9 (by omega)) (kk 89 (by omega) (by omega)) rfl, MAn_c g4 (fun k a b => kk k (by omega) (by omega)) (kj 31 (by omega)) (kj 35 (by omega)) (kj 36 (by omega)) (Int.le_refl _) rfl, Or.inr ⟨(Z.1, Z.2.1, Z.2.2.2.2.1), j40, rfl, ?_, ⟨?_, ?_, ?_⟩, ⟨hI0, hbb.2⟩, ?_, g4.2⟩, MAr_c g6 (kj 58 (by omega)) (kk 121 (by omega) (by omega)) rfl, MAg_c g7 (kk 122 (by omega) (by omega)) (kk 123 (by omega) (by omega)) (kk 124 (by omega) (by omega)) rfl, MAl_c g8 (kk 97 (by omega) (by omega))⟩ (fun k a => kk k (by omega) (by omega)) ?_
  · show Z.1 = (W6 83 0, W6 83 1, W6 84, W6 85, W6 86, W6 88, W6 87)
    rw [kj 0 (by omega), kj 1 (by omega), kk 84 (by omega) (by omega), kk 85 (by omega) (by omega), kk 86 (by omega) (by omega), kk 88 (by omega) (by omega), kk 87 (by omega) (by omega)]
    exact M.1
  · show (W6 83 42, W6 83 43, W6 110, W6 111, W6 112, W6 114, W6 113) = Z.1
    rw [j42, j43, k6 110 (by omega) (by omega), k5 110 (by omega), k4 110 (by omega) (by omega) (by omega), k3 110 (by omega), k2 110 (by omega), v1_110, w0k 84 (by omega), k6 111 (by omega) (by omega), k5 111 (by omega), k4 111 (by omega) (by omega) (by omega), k3 111 (by omega), k2 111 (by omega), v1_111, w0k 85 (by omega), k6 112 (by omega) (by omega), k5 112 (by omega), k4 112 (by omega) (by omega) (by omega), k3 112 (by omega), k2 112 (by omega), v1_112, w0k 86 (by omega), k6 114 (by omega) (by omega), k5 114 (by omega), k4 114 (by omega) (by omega) (by omega), v3_114, k2 88 (by omega), k1 88 (by omega) (by omega) (by omega), w0k 88 (by omega), k6 113 (by omega) (by omega), k5 113 (by omega), k4 113 (by omega) (by omega) (by omega), k3 113 (by omega), v2_113, k1 87 (by omega) (by omega) (by omega), w0k 87 (by omega), M.1]
  · show Z.2.1 = hsT W6 (W6 83 41)
    rw [j41, hc.1]
    exact M.2.1
  · rw [j41]
    exact hc.2 M.2.2.1
  · rw [j41]
    exact g2.2.2
  · show (W6 83 44, W6 115, W6 116, W6 117, W6 83 45, W6 118, W6 83 46, W6 119, W6 120) = Z.2.2.2.2.1
    rw [j44, j45, j46, k6 115 (by omega) (by omega), k5 115 (by omega), v4_115, k3 104 (by omega), k2 104 (by omega), k1 104 (by omega) (by omega) (by omega), w0k 104 (by omega), k6 116 (by omega) (by omega), k5 116 (by omega), v4_116, k3 105 (by omega), k2 105 (by omega), k1 105 (by omega) (by omega) (by omega), w0k 105 (by omega), k6 117 (by omega) (by omega), k5 117 (by omega), v4_117, k3 106 (by omega), k2 106 (by omega), k1 106 (by omega) (by omega) (by omega), w0k 106 (by omega), k6 118 (by omega) (by omega), v5_118, k4 107 (by omega) (by omega) (by omega), k3 107 (by omega), k2 107 (by omega), k1 107 (by omega) (by omega) (by omega), w0k 107 (by omega), v6_119, k5 108 (by omega), k4 108 (by omega) (by omega) (by omega), k3 108 (by omega), k2 108 (by omega), k1 108 (by omega) (by omega) (by omega), w0k 108 (by omega), v6_120, k5 109 (by omega), k4 109 (by omega) (by omega) (by omega), k3 109 (by omega), k2 109 (by omega), k1 109 (by omega) (by omega) (by omega), w0k 109 (by omega)]
    exact g4.1
  · unfold nImage
    rw [kj 0 (by omega), M.n]

theorem m_undo {g : GC} {V : MM} {Z : ZT} (hZ : MA V Z) : Ct g mX7_undo 8 [vr 83] V (RM V (nUndo Z).1 (nUndo Z).2) := by
  refine Ct.of (ls := [some (vr 83), none]) (plainFor_of_name (by decide +kernel)) rfl (by exact Nat.le_of_ble_eq_true rfl) (fun X hz hD => ?_)
  obtain ⟨M, hI0, hn6, hbb, hwz, hkz⟩ := hZ.pf
  have hT := Tm.rf V
  rcases hZ.2.2.2.2.1 with ⟨i1, i2⟩ | ⟨I, i1, i2, i3, ⟨i4, i5, i6⟩, i7, i8, i9⟩
  · refine S_al0 qX7_undo_0 ?_
    refine S_getI qX7_undo_1 fX7_132 e83_40 ?_
    refine S_if_ne (d := qX7_undo_4) (kt := fun c4 => ?_) (kf := fun c4 => ?_)
    · omega
    refine S_bipush (d := qX7_undo_7) (k := ?_)
    refine S_iret hz qX7_undo_9 ?_
    refine RM.eq hZ ?_
    unfold nUndo
    rw [i2]
  · refine S_al0 qX7_undo_0 ?_
    refine S_getI qX7_undo_1 fX7_132 e83_40 ?_
    refine S_if_ne (d := qX7_undo_4) (kt := fun c4 => ?_) (kf := fun c4 => ?_)
    rotate_left
    · omega
    refine S_al0 qX7_undo_10 ?_
    refine S_al0 qX7_undo_11 ?_
    refine S_getI qX7_undo_12 fX7_136 e83_41 ?_
    refine S_putI qX7_undo_15 fX7_35 e83_8 tX7_8 ?_
    refine S_al0 qX7_undo_18 ?_
    refine S_al0 qX7_undo_19 ?_
    refine S_getI qX7_undo_20 fX7_139 e83_42 ?_
    refine S_putI qX7_undo_23 fX7_7 e83_0 tX7_0 ?_
    refine S_al0 qX7_undo_26 ?_
    refine S_al0 qX7_undo_27 ?_
    refine S_getI qX7_undo_28 fX7_142 e83_43 ?_
    refine S_putI qX7_undo_31 fX7_13 e83_1 tX7_1 ?_
    refine S_al0 qX7_undo_34 ?_
    refine S_al0 qX7_undo_35 ?_
    refine S_getI qX7_undo_36 fX7_145 e83_44 ?_
    refine S_putI qX7_undo_39 fX7_105 e83_31 tX7_31 ?_
    refine S_al0 qX7_undo_42 ?_
    refine S_al0 qX7_undo_43 ?_
    refine S_getI qX7_undo_44 fX7_148 e83_45 ?_
    refine S_putI qX7_undo_47 fX7_117 e83_35 tX7_35 ?_
    refine S_al0 qX7_undo_50 ?_
    refine S_al0 qX7_undo_51 ?_
    refine S_getI qX7_undo_52 fX7_151 e83_46 ?_
    refine S_putI qX7_undo_55 fX7_120 e83_36 tX7_36 ?_
    refine S_iconst qX7_undo_58 ?_
    refine S_is1 qX7_undo_59 (K := ?_)
    simp only [upR_s, upR_u, ur_n _ (show (41 : Int) ≠ 8 by decide), ur_n _ (show (41 : Int) ≠ 0 by decide), ur_n _ (show (41 : Int) ≠ 1 by decide), ur_n _ (show (41 : Int) ≠ 31 by decide), ur_n _ (show (41 : Int) ≠ 35 by decide), ur_n _ (show (41 : Int) ≠ 36 by decide), ur_n _ (show (42 : Int) ≠ 8 by decide), ur_n _ (show (42 : Int) ≠ 0 by decide), ur_n _ (show (42 : Int) ≠ 1 by decide), ur_n _ (show (42 : Int) ≠ 31 by decide), ur_n _ (show (42 : Int) ≠ 35 by decide), ur_n _ (show (42 : Int) ≠ 36 by decide), ur_n _ (show (43 : Int) ≠ 8 by decide), ur_n _ (show (43 : Int) ≠ 0 by decide), ur_n _ (show (43 : Int) ≠ 1 by decide), ur_n _ (show (43 : Int) ≠ 31 by decide), ur_n _ (show (43 : Int) ≠ 35 by decide), ur_n _ (show (43 : Int) ≠ 36 by decide), ur_n _ (show (44 : Int) ≠ 8 by decide), ur_n _ (show (44 : Int) ≠ 0 by decide), ur_n _ (show (44 : Int) ≠ 1 by decide), ur_n _ (show (44 : Int) ≠ 31 by decide), ur_n _ (show (44 : Int) ≠ 35 by decide), ur_n _ (show (44 : Int) ≠ 36 by decide), ur_n _ (show (45 : Int) ≠ 8 by decide), ur_n _ (show (45 : Int) ≠ 0 by decide), ur_n _ (show (45 : Int) ≠ 1 by decide), ur_n _ (show (45 : Int) ≠ 31 by decide), ur_n _ (show (45 : Int) ≠ 35 by decide), ur_n _ (show (45 : Int) ≠ 36 by decide), ur_n _ (show (46 : Int) ≠ 8 by decide), ur_n _ (show (46 : Int) ≠ 0 by decide), ur_n _ (show (46 : Int) ≠ 1 by decide), ur_n _ (show (46 : Int) ≠ 31 by decide), ur_n _ (show (46 : Int) ≠ 35 by decide), ur_n _ (show (46 : Int) ≠ 36 by decide)]
    generalize hW0 : upR V 83 (ur (ur (ur (ur (ur (ur (V 83) 8 (V 83 41)) 0 (V 83 42)) 1 (V 83 43)) 31 (V 83 44)) 35 (V 83 45)) 36 (V 83 46)) = W0
    have w083 : W0 83 = (ur (ur (ur (ur (ur (ur (V 83) 8 (V 83 41)) 0 (V 83 42)) 1 (V 83 43)) 31 (V 83 44)) 35 (V 83 45)) 36 (V 83 46)) := by rw [← hW0, upR_s]
    have w0k : ∀ k : Nat, k ≠ 83 → W0 k = V k := fun k a => by rw [← hW0, upR_n _ a]
    have h0 := mun_l0 (g := g) (X := X) (V := W0) ?_ 6 0 (by omega) (by omega)
    · simp only [cp_0, upR_id] at h0
      exact h0
    generalize hW1 : (upR (upR (upR W0 84 (W0 110)) 85 (W0 111)) 86 (W0 112)) = W1
    have v1_84 : W1 84 = W0 110 := by rw [← hW1]; simp only [upR_n _ (show (84 : Nat) ≠ 85 by decide), upR_n _ (show (84 : Nat) ≠ 86 by decide), upR_s]
    have v1_85 : W1 85 = W0 111 := by rw [← hW1]; simp only [upR_n _ (show (85 : Nat) ≠ 84 by decide), upR_n _ (show (85 : Nat) ≠ 86 by decide), upR_s]
    have v1_86 : W1 86 = W0 112 := by rw [← hW1]; simp only [upR_n _ (show (86 : Nat) ≠ 84 by decide), upR_n _ (show (86 : Nat) ≠ 85 by decide), upR_s]
    have k1 : ∀ k : Nat, k ≠ 84 → k ≠ 85 → k ≠ 86 → W1 k = W0 k := fun k e84 e85 e86 => by rw [← hW1, upR_n _ e86, upR_n _ e85, upR_n _ e84]
    refine S_iconst qX7_undo_108 ?_
    refine S_is1 qX7_undo_109 (K := ?_)
    have h1 := mun_l1 (g := g) (X := X) (V := W1) ?_ 24 0 (by omega) (by omega)
    · simp only [cp_0, upR_id] at h1
      exact h1
    generalize hW2 : (upR W1 87 (W1 113)) = W2
    have v2_87 : W2 87 = W1 113 := by rw [← hW2]; simp only [upR_s]
    have k2 : ∀ k : Nat, k ≠ 87 → W2 k = W1 k := fun k e87 => by rw [← hW2, upR_n _ e87]
    refine S_iconst qX7_undo_134 ?_
    refine S_is1 qX7_undo_135 (K := ?_)
    have h2 := mun_l2 (g := g) (X := X) (V := W2) ?_ 48 0 (by omega) (by omega)
    · simp only [cp_0, upR_id] at h2
      exact h2
    generalize hW3 : (upR W2 88 (W2 114)) = W3
    have v3_88 : W3 88 = W2 114 := by rw [← hW3]; simp only [upR_s]
    have k3 : ∀ k : Nat, k ≠ 88 → W3 k = W2 k := fun k e88 => by rw [← hW3, upR_n _ e88]
    refine S_iconst qX7_undo_160 ?_
    refine S_is1 qX7_undo_161 (K := ?_)
    have h3 := mun_l3 (g := g) (X := X) (V := W3) ?_ 5 0 (by omega) (by omega)
    · simp only [cp_0, upR_id] at h3
      exact h3
    generalize hW4 : (upR (upR (upR W3 104 (W3 115)) 105 (W3 116)) 106 (W3 117)) = W4
    have v4_104 : W4 104 = W3 115 := by rw [← hW4]; simp only [upR_n _ (show (104 : Nat) ≠ 105 by decide), upR_n _ (show (104 : Nat) ≠ 106 by decide), upR_s]
    have v4_105 : W4 105 = W3 116 := by rw [← hW4]; simp only [upR_n _ (show (105 : Nat) ≠ 104 by decide), upR_n _ (show (105 : Nat) ≠ 106 by decide), upR_s]
    have v4_106 : W4 106 = W3 117 := by rw [← hW4]; simp only [upR_n _ (show (106 : Nat) ≠ 104 by decide), upR_n _ (show (106 : Nat) ≠ 105 by decide), upR_s]
    have k4 : ∀ k : Nat, k ≠ 104 → k ≠ 105 → k ≠ 106 → W4 k = W3 k := fun k e104 e105 e106 => by rw [← hW4, upR_n _ e106, upR_n _ e105, upR_n _ e104]
    refine S_iconst qX7_undo_209 ?_
    refine S_is1 qX7_undo_210 (K := ?_)
    have h4 := mun_l4 (g := g) (X := X) (V := W4) ?_ 10 0 (by omega) (by omega)
    · simp only [cp_0, upR_id] at h4
      exact h4
    generalize hW5 : (upR W4 107 (W4 118)) = W5
    have v5_107 : W5 107 = W4 118 := by rw [← hW5]; simp only [upR_s]
    have k5 : ∀ k : Nat, k ≠ 107 → W5 k = W4 k := fun k e107 => by rw [← hW5, upR_n _ e107]
    refine S_iconst qX7_undo_235 ?_
    refine S_is1 qX7_undo_236 (K := ?_)
    have h5 := mun_l5 (g := g) (X := X) (V := W5) ?_ 8 0 (by omega) (by omega)
    · simp only [cp_0, upR_id] at h5
      exact h5
    generalize hW6 : (upR (upR W5 108 (W5 119)) 109 (W5 120)) = W6
    have v6_108 : W6 108 = W5 119 := by rw [← hW6]; simp only [upR_n _ (show (108 : Nat) ≠ 109 by decide), upR_s]
    have v6_109 : W6 109 = W5 120 := by rw [← hW6]; simp only [upR_n _ (show (109 : Nat) ≠ 108 by decide), upR_s]
    have k6 : ∀ k : Nat, k ≠ 108 → k ≠ 109 → W6 k = W5 k := fun k e108 e109 => by rw [← hW6, upR_n _ e109, upR_n _ e108]
    refine S_al0 qX7_undo_273 ?_
    refine S_getI qX7_undo_274 fX7_7 e83_0 ?_
    refine S_iret hz qX7_undo_277 ?_
    have k83 : W6 83 = (ur (ur (ur (ur (ur (ur (V 83) 8 (V 83 41)) 0 (V 83 42)) 1 (V 83 43)) 31 (V 83 44)) 35 (V 83 45)) 36 (V 83 46)) := by rw [k6 83 (by omega) (by omega), k5 83 (by omega), k4 83 (by omega) (by omega) (by omega), k3 83 (by omega), k2 83 (by omega), k1 83 (by omega) (by omega) (by omega), w083]
    have kk : ∀ k : Nat, k ≠ 83 → k < 84 ∨ 89 ≤ k → k < 104 ∨ 110 ≤ k → W6 k = V k := fun k a b c => by rw [k6 k (by omega) (by omega), k5 k (by omega), k4 k (by omega) (by omega) (by omega), k3 k (by omega), k2 k (by omega), k1 k (by omega) (by omega) (by omega), w0k k a]
    have kj : ∀ j : Int, j ≠ 0 → j ≠ 1 → j ≠ 8 → j ≠ 31 → j ≠ 35 → j ≠ 36 → W6 83 j = V 83 j := fun j a b c d e f => by rw [k83, ur_n _ f, ur_n _ e, ur_n _ d, ur_n _ b, ur_n _ a, ur_n _ c]
    have j8 : W6 83 8 = V 83 41 := by rw [k83]; simp only [ur_n _ (show (8 : Int) ≠ 0 by decide), ur_n _ (show (8 : Int) ≠ 1 by decide), ur_n _ (show (8 : Int) ≠ 31 by decide), ur_n _ (show (8 : Int) ≠ 35 by decide), ur_n _ (show (8 : Int) ≠ 36 by decide), ur_n _ (show (0 : Int) ≠ 8 by decide), ur_n _ (show (0 : Int) ≠ 1 by decide), ur_n _ (show (0 : Int) ≠ 31 by decide), ur_n _ (show (0 : Int) ≠ 35 by decide), ur_n _ (show (0 : Int) ≠ 36 by decide), ur_n _ (show (1 : Int) ≠ 8 by decide), ur_n _ (show (1 : Int) ≠ 0 by decide), ur_n _ (show (1 : Int) ≠ 31 by decide), ur_n _ (show (1 : Int) ≠ 35 by decide), ur_n _ (show (1 : Int) ≠ 36 by decide), ur_n _ (show (31 : Int) ≠ 8 by decide), ur_n _ (show (31 : Int) ≠ 0 by decide), ur_n _ (show (31 : Int) ≠ 1 by decide), ur_n _ (show (31 : Int) ≠ 35 by decide), ur_n _ (show (31 : Int) ≠ 36 by decide), ur_n _ (show (35 : Int) ≠ 8 by decide), ur_n _ (show (35 : Int) ≠ 0 by decide), ur_n _ (show (35 : Int) ≠ 1 by decide), ur_n _ (show (35 : Int) ≠ 31 by decide), ur_n _ (show (35 : Int) ≠ 36 by decide), ur_n _ (show (36 : Int) ≠ 8 by decide), ur_n _ (show (36 : Int) ≠ 0 by decide), ur_n _ (show (36 : Int) ≠ 1 by decide), ur_n _ (show (36 : Int) ≠ 31 by decide), ur_n _ (show (36 : Int) ≠ 35 by decide), ur_s]
    have j0 : W6 83 0 = V 83 42 := by rw [k83]; simp only [ur_n _ (show (8 : Int) ≠ 0 by decide), ur_n _ (show (8 : Int) ≠ 1 by decide), ur_n _ (show (8 : Int) ≠ 31 by decide), ur_n _ (show (8 : Int) ≠ 35 by decide), ur_n _ (show (8 : Int) ≠ 36 by decide), ur_n _ (show (0 : Int) ≠ 8 by decide), ur_n _ (show (0 : Int) ≠ 1 by decide), ur_n _ (show (0 : Int) ≠ 31 by decide), ur_n _ (show (0 : Int) ≠ 35 by decide), ur_n _ (show (0 : Int) ≠ 36 by decide), ur_n _ (show (1 : Int) ≠ 8 by decide), ur_n _ (show (1 : Int) ≠ 0 by decide), ur_n _ (show (1 : Int) ≠ 31 by decide), ur_n _ (show (1 : Int) ≠ 35 by decide), ur_n _ (show (1 : Int) ≠ 36 by decide), ur_n _ (show (31 : Int) ≠ 8 by decide), ur_n _ (show (31 : Int) ≠ 0 by decide), ur_n _ (show (31 : Int) ≠ 1 by decide), ur_n _ (show (31 : Int) ≠ 35 by decide), ur_n _ (show (31 : Int) ≠ 36 by decide), ur_n _ (show (35 : Int) ≠ 8 by decide), ur_n _ (show (35 : Int) ≠ 0 by decide), ur_n _ (show (35 : Int) ≠ 1 by decide), ur_n _ (show (35 : Int) ≠ 31 by decide), ur_n _ (show (35 : Int) ≠ 36 by decide), ur_n _ (show (36 : Int) ≠ 8 by decide), ur_n _ (show (36 : Int) ≠ 0 by decide), ur_n _ (show (36 : Int) ≠ 1 by decide), ur_n _ (show (36 : Int) ≠ 31 by decide), ur_n _ (show (36 : Int) ≠ 35 by decide), ur_s]
    have j1 : W6 83 1 = V 83 43 := by rw [k83]; simp only [ur_n _ (show (8 : Int) ≠ 0 by decide), ur_n _ (show (8 : Int) ≠ 1 by decide), ur_n _ (show (8 : Int) ≠ 31 by decide), ur_n _ (show (8 : Int) ≠ 35 by decide), ur_n _ (show (8 : Int) ≠ 36 by decide), ur_n _ (show (0 : Int) ≠ 8 by decide), ur_n _ (show (0 : Int) ≠ 1 by decide), ur_n _ (show (0 : Int) ≠ 31 by decide), ur_n _ (show (0 : Int) ≠ 35 by decide), ur_n _ (show (0 : Int) ≠ 36 by decide), ur_n _ (show (1 : Int) ≠ 8 by decide), ur_n _ (show (1 : Int) ≠ 0 by decide), ur_n _ (show (1 : Int) ≠ 31 by decide), ur_n _ (show (1 : Int) ≠ 35 by decide), ur_n _ (show (1 : Int) ≠ 36 by decide), ur_n _ (show (31 : Int) ≠ 8 by decide), ur_n _ (show (31 : Int) ≠ 0 by decide), ur_n _ (show (31 : Int) ≠ 1 by decide), ur_n _ (show (31 : Int) ≠ 35 by decide), ur_n _ (show (31 : Int) ≠ 36 by decide), ur_n _ (show (35 : Int) ≠ 8 by decide), ur_n _ (show (35 : Int) ≠ 0 by decide), ur_n _ (show (35 : Int) ≠ 1 by decide), ur_n _ (show (35 : Int) ≠ 31 by decide), ur_n _ (show (35 : Int) ≠ 36 by decide), ur_n _ (show (36 : Int) ≠ 8 by decide), ur_n _ (show (36 : Int) ≠ 0 by decide), ur_n _ (show (36 : Int) ≠ 1 by decide), ur_n _ (show (36 : Int) ≠ 31 by decide), ur_n _ (show (36 : Int) ≠ 35 by decide), ur_s]
    have j31 : W6 83 31 = V 83 44 := by rw [k83]; simp only [ur_n _ (show (8 : Int) ≠ 0 by decide), ur_n _ (show (8 : Int) ≠ 1 by decide), ur_n _ (show (8 : Int) ≠ 31 by decide), ur_n _ (show (8 : Int) ≠ 35 by decide), ur_n _ (show (8 : Int) ≠ 36 by decide), ur_n _ (show (0 : Int) ≠ 8 by decide), ur_n _ (show (0 : Int) ≠ 1 by decide), ur_n _ (show (0 : Int) ≠ 31 by decide), ur_n _ (show (0 : Int) ≠ 35 by decide), ur_n _ (show (0 : Int) ≠ 36 by decide), ur_n _ (show (1 : Int) ≠ 8 by decide), ur_n _ (show (1 : Int) ≠ 0 by decide), ur_n _ (show (1 : Int) ≠ 31 by decide), ur_n _ (show (1 : Int) ≠ 35 by decide), ur_n _ (show (1 : Int) ≠ 36 by decide), ur_n _ (show (31 : Int) ≠ 8 by decide), ur_n _ (show (31 : Int) ≠ 0 by decide), ur_n _ (show (31 : Int) ≠ 1 by decide), ur_n _ (show (31 : Int) ≠ 35 by decide), ur_n _ (show (31 : Int) ≠ 36 by decide), ur_n _ (show (35 : Int) ≠ 8 by decide), ur_n _ (show (35 : Int) ≠ 0 by decide), ur_n _ (show (35 : Int) ≠ 1 by decide), ur_n _ (show (35 : Int) ≠ 31 by decide), ur_n _ (show (35 : Int) ≠ 36 by decide), ur_n _ (show (36 : Int) ≠ 8 by decide), ur_n _ (show (36 : Int) ≠ 0 by decide), ur_n _ (show (36 : Int) ≠ 1 by decide), ur_n _ (show (36 : Int) ≠ 31 by decide), ur_n _ (show (36 : Int) ≠ 35 by decide), ur_s]
    have j35 : W6 83 35 = V 83 45 := by rw [k83]; simp only [ur_n _ (show (8 : Int) ≠ 0 by decide), ur_n _ (show (8 : Int) ≠ 1 by decide), ur_n _ (show (8 : Int) ≠ 31 by decide), ur_n _ (show (8 : Int) ≠ 35 by decide), ur_n _ (show (8 : Int) ≠ 36 by decide), ur_n _ (show (0 : Int) ≠ 8 by decide), ur_n _ (show (0 : Int) ≠ 1 by decide), ur_n _ (show (0 : Int) ≠ 31 by decide), ur_n _ (show (0 : Int) ≠ 35 by decide), ur_n _ (show (0 : Int) ≠ 36 by decide), ur_n _ (show (1 : Int) ≠ 8 by decide), ur_n _ (show (1 : Int) ≠ 0 by decide), ur_n _ (show (1 : Int) ≠ 31 by decide), ur_n _ (show (1 : Int) ≠ 35 by decide), ur_n _ (show (1 : Int) ≠ 36 by decide), ur_n _ (show (31 : Int) ≠ 8 by decide), ur_n _ (show (31 : Int) ≠ 0 by decide), ur_n _ (show (31 : Int) ≠ 1 by decide), ur_n _ (show (31 : Int) ≠ 35 by decide), ur_n _ (show (31 : Int) ≠ 36 by decide), ur_n _ (show (35 : Int) ≠ 8 by decide), ur_n _ (show (35 : Int) ≠ 0 by decide), ur_n _ (show (35 : Int) ≠ 1 by decide), ur_n _ (show (35 : Int) ≠ 31 by decide), ur_n _ (show (35 : Int) ≠ 36 by decide), ur_n _ (show (36 : Int) ≠ 8 by decide), ur_n _ (show (36 : Int) ≠ 0 by decide), ur_n _ (show (36 : Int) ≠ 1 by decide), ur_n _ (show (36 : Int) ≠ 31 by decide), ur_n _ (show (36 : Int) ≠ 35 by decide), ur_s]
    have j36 : W6 83 36 = V 83 46 := by rw [k83]; simp only [ur_n _ (show (8 : Int) ≠ 0 by decide), ur_n _ (show (8 : Int) ≠ 1 by decide), ur_n _ (show (8 : Int) ≠ 31 by decide), ur_n _ (show (8 : Int) ≠ 35 by decide), ur_n _ (show (8 : Int) ≠ 36 by decide), ur_n _ (show (0 : Int) ≠ 8 by decide), ur_n _ (show (0 : Int) ≠ 1 by decide), ur_n _ (show (0 : Int) ≠ 31 by decide), ur_n _ (show (0 : Int) ≠ 35 by decide), ur_n _ (show (0 : Int) ≠ 36 by decide), ur_n _ (show (1 : Int) ≠ 8 by decide), ur_n _ (show (1 : Int) ≠ 0 by decide), ur_n _ (show (1 : Int) ≠ 31 by decide), ur_n _ (show (1 : Int) ≠ 35 by decide), ur_n _ (show (1 : Int) ≠ 36 by decide), ur_n _ (show (31 : Int) ≠ 8 by decide), ur_n _ (show (31 : Int) ≠ 0 by decide), ur_n _ (show (31 : Int) ≠ 1 by decide), ur_n _ (show (31 : Int) ≠ 35 by decide), ur_n _ (show (31 : Int) ≠ 36 by decide), ur_n _ (show (35 : Int) ≠ 8 by decide), ur_n _ (show (35 : Int) ≠ 0 by decide), ur_n _ (show (35 : Int) ≠ 1 by decide), ur_n _ (show (35 : Int) ≠ 31 by decide), ur_n _ (show (35 : Int) ≠ 36 by decide), ur_n _ (show (36 : Int) ≠ 8 by decide), ur_n _ (show (36 : Int) ≠ 0 by decide), ur_n _ (show (36 : Int) ≠ 1 by decide), ur_n _ (show (36 : Int) ≠ 31 by decide), ur_n _ (show (36 : Int) ≠ 35 by decide), ur_s]
    have hc := hsT_c (V := V) (V' := W6) (t := V 83 41) (fun k a b => kk k (by omega) (by omega) (by omega))
    obtain ⟨g1, g2, g3, g4, g5, g6, g7, g8⟩ := id hZ
    refine RM.to (Z' := (I.1, I.2.1, Z.2.2.1, Z.2.2.2.1, I.2.2, Z.2.2.2.2.2)) ⟨⟨⟨?_, ?_, ?_, i7.1⟩, i7.2⟩, ⟨by rw [kj 7 (by omega) (by omega) (by omega) (by omega) (by omega) (by omega)]; exact g2.1, g2.2.1, by rw [j8]; exact i6⟩, MAt_c g3 (kj 9 (by omega) (by omega) (by omega) (by omega) (by omega) (by omega)) (kk 89 (by omega) (by omega) (by omega)) rfl, ⟨?_, i9⟩, MAi_c g5 (fun k a => kk k (by omega) (by omega) (by omega)) (fun j a => kj j (by omega) (by omega) (by omega) (by omega) (by omega) (by omega)) rfl rfl, MAr_c g6 (kj 58 (by omega) (by omega) (by omega) (by omega) (by omega) (by omega)) (kk 121 (by omega) (by omega) (by omega)) rfl, MAg_c g7 (kk 122 (by omega) (by omega) (by omega)) (kk 123 (by omega) (by omega) (by omega)) (kk 124 (by omega) (by omega) (by omega)) rfl, MAl_c g8 (kk 97 (by omega) (by omega) (by omega))⟩ (fun k a => kk k (by omega) (by omega) (by omega)) ?_
    · show I.1 = (W6 83 0, W6 83 1, W6 84, W6 85, W6 86, W6 88, W6 87)
      rw [j0, j1, k6 84 (by omega) (by omega), k5 84 (by omega), k4 84 (by omega) (by omega) (by omega), k3 84 (by omega), k2 84 (by omega), v1_84, w0k 110 (by omega), k6 85 (by omega) (by omega), k5 85 (by omega), k4 85 (by omega) (by omega) (by omega), k3 85 (by omega), k2 85 (by omega), v1_85, w0k 111 (by omega), k6 86 (by omega) (by omega), k5 86 (by omega), k4 86 (by omega) (by omega) (by omega), k3 86 (by omega), k2 86 (by omega), v1_86, w0k 112 (by omega), k6 88 (by omega) (by omega), k5 88 (by omega), k4 88 (by omega) (by omega) (by omega), v3_88, k2 114 (by omega), k1 114 (by omega) (by omega) (by omega), w0k 114 (by omega), k6 87 (by omega) (by omega), k5 87 (by omega), k4 87 (by omega) (by omega) (by omega), k3 87 (by omega), v2_87, k1 113 (by omega) (by omega) (by omega), w0k 113 (by omega)]
      exact i3.symm
    · show I.2.1 = hsT W6 (W6 83 8)
      rw [j8, hc.1]
      exact i4
    · rw [j8]
      exact hc.2 i5
    · show (W6 83 31, W6 104, W6 105, W6 106, W6 83 35, W6 107, W6 83 36, W6 108, W6 109) = I.2.2
      rw [j31, j35, j36, k6 104 (by omega) (by omega), k5 104 (by omega), v4_104, k3 115 (by omega), k2 115 (by omega), k1 115 (by omega) (by omega) (by omega), w0k 115 (by omega), k6 105 (by omega) (by omega), k5 105 (by omega), v4_105, k3 116 (by omega), k2 116 (by omega), k1 116 (by omega) (by omega) (by omega), w0k 116 (by omega), k6 106 (by omega) (by omega), k5 106 (by omega), v4_106, k3 117 (by omega), k2 117 (by omega), k1 117 (by omega) (by omega) (by omega), w0k 117 (by omega), k6 107 (by omega) (by omega), v5_107, k4 118 (by omega) (by omega) (by omega), k3 118 (by omega), k2 118 (by omega), k1 118 (by omega) (by omega) (by omega), w0k 118 (by omega), v6_108, k5 119 (by omega), k4 119 (by omega) (by omega) (by omega), k3 119 (by omega), k2 119 (by omega), k1 119 (by omega) (by omega) (by omega), w0k 119 (by omega), v6_109, k5 120 (by omega), k4 120 (by omega) (by omega) (by omega), k3 120 (by omega), k2 120 (by omega), k1 120 (by omega) (by omega) (by omega), w0k 120 (by omega)]
      exact i8
    · unfold nUndo
      rw [i2, j0]
      have e := congrArg (fun q : FS => q.1) i3
      replace e : V 83 42 = I.1.1 := e
      rw [e]
