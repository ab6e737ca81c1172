theorem li_dec4 : ∀ n : Fin 128, fiS 4 (i2bS (n.1 : Int)) (lnS 4) 0 = plcM (n.1 : Int) := by decide +kernel
theorem li_dec5 : ∀ n : Fin 128, fiS 5 (i2bS (n.1 : Int)) (lnS 5) 0 = if 60 ≤ (n.1 : Int) ∧ (n.1 : Int) ≤ 62 then (n.1 : Int) - 60 else -1 := by decide +kernel
theorem li_end4 : fiS 4 (i2bS 255) (lnS 4) 0 = -1 := by decide +kernel
theorem li_end5 : fiS 5 (i2bS 255) (lnS 5) 0 = -1 := by decide +kernel
theorem li4 {V : MM} {T : Int → Int} {L p : Int} (h : TX V T L p) : liS 4 T L p = plcM (nxM T L p) := by
  obtain ⟨-, -, -, h4, h5, h6⟩ := h
  show fiS 4 (i2bS (ahS T L p)) (lnS 4) 0 = _
  unfold ahS nxM
  by_cases a : p < L
  · rw [if_pos (by omega), if_pos a]
    have := h6 p (by omega)
    have e := li_dec4 ⟨(T p).toNat, by omega⟩
    rw [show (((T p).toNat : Nat) : Int) = T p by omega] at e
    exact e
  · rw [if_neg (by omega), if_neg a]
    exact li_end4
theorem li5 {V : MM} {T : Int → Int} {L p : Int} (h : TX V T L p) : liS 5 T L p = if 60 ≤ nxM T L p ∧ nxM T L p ≤ 62 then nxM T L p - 60 else -1 := by
  obtain ⟨-, -, -, h4, h5, h6⟩ := h
  show fiS 5 (i2bS (ahS T L p)) (lnS 5) 0 = _
  unfold ahS nxM
  by_cases a : p < L
  · rw [if_pos (by omega), if_pos a]
    have := h6 p (by omega)
    have e := li_dec5 ⟨(T p).toNat, by omega⟩
    rw [show (((T p).toNat : Nat) : Int) = T p by omega] at e
    exact e
  · rw [if_neg (by omega), if_neg a]
    exact li_end5
theorem plc_rg (c : Int) : -1 ≤ plcM c ∧ plcM c ≤ 5 := by
  unfold plcM
  (repeat' split) <;> omega
theorem plc_nx {T : Int → Int} {L p : Int} (h : 0 ≤ plcM (nxM T L p)) : p < L := by
  apply Classical.byContradiction
  intro q
  have e : nxM T L p = -1 := if_neg q
  rw [e] at h
  exact absurd h (by decide)

theorem m_takesTest {g : GC} {V : MM} {T : Int → Int} {L f g0 : Int} {s : ST} {w : List Int} (hT : TS V T L f s w) (hg : g0 ≤ 100 * f + s.2.1) : Ct g mX7_takesTest 4 [vr 83] V (RI (fun z V' => (z = 1 ∧ (tsS T L s).1 = true ∧ TS V' T L f (popW w (tsS T L s).2).1 (popW w (tsS T L s).2).2 ∧ Pf V V' g0) ∨ (z = 0 ∧ (tsS T L s).1 = false ∧ V' 83 10 = (tsS T L s).2.1 ∧ Pf V V' g0))) := by
  refine Ct.of (ls := [some (vr 83), none, none]) (plainFor_of_name (by decide +kernel)) rfl (by exact Nat.le_of_ble_eq_true rfl) (fun X hz hD => ?_)
  have hX := hT.1
  have hr := nxm_rg hX
  have l4 := li4 hX
  have pr := plc_rg (nxM T L s.1)
  have pn := plc_nx (T := T) (L := L) (p := s.1)
  have hX0 := hX
  refine S_al0 qX7_takesTest_0 ?_
  refine S_al0 qX7_takesTest_1 ?_
  refine S_V0E hD qX7_takesTest_2 lX7_222 vX7_next r83 (m_next hX0) (K := ?_)
  refine S_V1E hD qX7_takesTest_5 lX7_236 vX7_place r83 (m_place (by omega)) (K := ?_)
  refine S_is1 qX7_takesTest_8 (K := ?_)
  refine S_il1 qX7_takesTest_9 ?_
  refine S_if_ge (d := qX7_takesTest_10) (kt := fun c10 => ?_) (kf := fun c10 => ?_)
  · refine S_al0 qX7_takesTest_15 ?_
    refine S_dup (d := qX7_takesTest_16) (k := ?_)
    refine S_getI qX7_takesTest_17 fX7_41 e83_10 ?_
    rw [hX.2.2.1]
    refine S_iconst qX7_takesTest_20 ?_
    refine S_iadd qX7_takesTest_21 ?_
    refine S_putI qX7_takesTest_22 fX7_41 e83_10 tX7_10 ?_
    have hA1 := At.up V (s.1 + 1)
    generalize hW1 : upR V 83 (ur (V 83) 10 (s.1 + 1)) = W1 at hA1 ⊢
    have w10 : W1 83 10 = s.1 + 1 := by rw [← hW1, upR_s, ur_s]
    have hL := hX.2.2.2.2.1
    have hp4 := hX.2.2.2.1
    have hX1 := hX.at hA1 w10 (by omega)
    have hr1 := nxm_rg hX1
    have l5 := li5 hX1
    have nl := nx_lt (T := T) (L := L) (p := s.1 + 1)
    refine S_al0 qX7_takesTest_25 ?_
    refine S_V0E hD qX7_takesTest_26 lX7_222 vX7_next r83 (m_next hX1) (K := ?_)
    refine S_is2 qX7_takesTest_29 (K := ?_)
    refine S_al0 qX7_takesTest_30 ?_
    refine S_il2 qX7_takesTest_31 ?_
    refine S_bipush (d := qX7_takesTest_32) (k := ?_)
    refine S_bipush (d := qX7_takesTest_34) (k := ?_)
    refine S_V3B hD qX7_takesTest_36 lX7_206 vX7_in r83 (m_in (by omega) (by omega) (by omega)) (kt := fun j36 => ?_) (kf := fun j36 => ?_)
    · refine S_if_ne (d := qX7_takesTest_39) (kt := fun _ => ?_) (kf := fun c => absurd c (by decide))
      refine S_al0 qX7_takesTest_44 ?_
      refine S_dup (d := qX7_takesTest_45) (k := ?_)
      refine S_getI qX7_takesTest_46 fX7_41 e83_10 ?_
      rw [w10]
      refine S_iconst qX7_takesTest_49 ?_
      refine S_iadd qX7_takesTest_50 ?_
      refine S_putI qX7_takesTest_51 fX7_41 e83_10 tX7_10 ?_
      have hA2 := At.up W1 (s.1 + 1 + 1)
      generalize hW2 : upR W1 83 (ur (W1 83) 10 (s.1 + 1 + 1)) = W2 at hA2 ⊢
      have v10 : W2 83 10 = s.1 + 1 + 1 := by rw [← hW2, upR_s, ur_s]
      have nl5 := nl (by omega)
      have hX2 := hX1.at hA2 v10 (by omega)
      have nr := nu_rg T L (s.1 + 1 + 1)
      have l5b := l5
      rw [if_pos (by omega)] at l5b
      have e1 : ¬ liS 4 T L s.1 < 0 := by omega
      have e2 : ¬ liS 5 T L (s.1 + 1) < 0 := by omega
      refine S_al0 qX7_takesTest_54 ?_
      refine S_V0I hD qX7_takesTest_55 lX7_240 vX7_takesNumber r83 (m_takesNumber hX2) (kk := fun z55 V55 h55 => ?_)
      rcases h55 with ⟨rfl, t55, hA55, hX55, d55⟩ | ⟨rfl, t55, t55b, rfl⟩
      · refine S_if_ne (d := qX7_takesTest_58) (kt := fun _ => ?_) (kf := fun c => absurd c (by decide))
        refine S_al0 qX7_takesTest_63 ?_
        refine S_sipush (d := qX7_takesTest_64) (k := ?_)
        refine S_il1 qX7_takesTest_67 ?_
        refine S_imul qX7_takesTest_68 ?_
        refine S_bipush (d := qX7_takesTest_69) (k := ?_)
        refine S_il2 qX7_takesTest_71 ?_
        refine S_bipush (d := qX7_takesTest_72) (k := ?_)
        refine S_isub qX7_takesTest_74 ?_
        refine S_imul qX7_takesTest_75 ?_
        refine S_iadd qX7_takesTest_76 ?_
        refine S_al0 qX7_takesTest_77 ?_
        refine S_getI qX7_takesTest_78 fX7_44 e83_11 ?_
        rw [d55]
        refine S_iadd qX7_takesTest_81 ?_
        have hA5 := (hA1.tr hA2).tr hA55
        have hT3 := hT.at hA5 hX55 (by omega)
        have e3 : ¬ (nuS T L (s.1 + 1 + 1)).1 < 0 := by omega
        have ets : tsS T L s = (true, addS ((liS 4 T L s.1 * 3 + liS 5 T L (s.1 + 1)) * 100 + (nuS T L (s.1 + 1 + 1)).1) ((nuS T L (s.1 + 1 + 1)).2, s.2)) := by
          unfold tsS
          rw [if_neg e1, if_neg e2, if_neg e3]
        have hs7 := hT.2.2.2.2.2.2.1
        have h820 := hT3.2.1
        have hx95 : 1000 * plcM (nxM T L s.1) + 100 * (nxM T L (s.1 + 1) - 60) + (nuS T L (s.1 + 1 + 1)).1 = mapc ((liS 4 T L s.1 * 3 + liS 5 T L (s.1 + 1)) * 100 + (nuS T L (s.1 + 1 + 1)).1) := by
          rw [mapc_n (by omega)]
          omega
        have hf8 := hT.2.2.2.2.2.2.2.1
        replace h820 : V55 83 20 = 100 * f + s.2.1 := h820
        refine S_V1W hD qX7_takesTest_82 lX7_232 vX7_emits r83 (m_emits (by omega)) (K := ?_)
        have hT4 := hT3.em hx95 (by show s.2.1 + w.length + 1 ≤ (nuS T L (s.1 + 1 + 1)).2; omega)
        have had := ad_1 (s := ((nuS T L (s.1 + 1 + 1)).2, s.2)) (by show s.2.1 < 100; omega) ((liS 4 T L s.1 * 3 + liS 5 T L (s.1 + 1)) * 100 + (nuS T L (s.1 + 1 + 1)).1)
        have hg4 : g0 ≤ 100 * f + (addS ((liS 4 T L s.1 * 3 + liS 5 T L (s.1 + 1)) * 100 + (nuS T L (s.1 + 1 + 1)).1) ((nuS T L (s.1 + 1 + 1)).2, s.2)).2.1 := by rw [had]; show g0 ≤ 100 * f + (s.2.1 + 1); omega
        have hE4 := em_pf (V := V55) (x := 1000 * plcM (nxM T L s.1) + 100 * (nxM T L (s.1 + 1) - 60) + (nuS T L (s.1 + 1 + 1)).1) (g0 := g0) (by omega)
        refine S_al0 qX7_takesTest_85 ?_
        refine S_V0V hD qX7_takesTest_86 lX7_243 vX7_whole r83 (m_wholeP hT4 hg4) (kk := fun V86 h86 => ?_)
        obtain ⟨hT5, hP5⟩ := h86
        refine S_iconst qX7_takesTest_89 ?_
        refine S_zret hz qX7_takesTest_90 (by omega) ?_
        rw [ets]
        exact ⟨_, rfl, Or.inl ⟨rfl, rfl, hT5, ((hA5.pf g0).tr hE4).tr hP5⟩⟩
      · refine S_if_ne (d := qX7_takesTest_58) (kt := fun c => absurd c (by decide)) (kf := fun _ => ?_)
        refine S_iconst qX7_takesTest_61 ?_
        refine S_zret hz qX7_takesTest_62 (by omega) ?_
        have ets : tsS T L s = (false, ((nuS T L (s.1 + 1 + 1)).2, s.2)) := by
          unfold tsS
          rw [if_neg e1, if_neg e2, if_pos t55]
        rw [ets]
        exact ⟨_, rfl, Or.inr ⟨rfl, rfl, by rw [v10]; exact t55b.symm, (hA1.tr hA2).pf g0⟩⟩
    · refine S_if_ne (d := qX7_takesTest_39) (kt := fun c => absurd c (by decide)) (kf := fun _ => ?_)
      refine S_iconst qX7_takesTest_42 ?_
      refine S_zret hz qX7_takesTest_43 (by omega) ?_
      have ets : tsS T L s = (false, (s.1 + 1, s.2)) := by
        unfold tsS
        rw [if_neg (by omega), if_pos (by rw [l5, if_neg j36]; omega)]
      rw [ets]
      exact ⟨_, rfl, Or.inr ⟨rfl, rfl, w10, hA1.pf g0⟩⟩
  · refine S_iconst qX7_takesTest_13 ?_
    refine S_zret hz qX7_takesTest_14 (by omega) ?_
    have ets : tsS T L s = (false, s) := by
      unfold tsS
      rw [if_pos (by omega)]
    rw [ets]
    exact ⟨_, rfl, Or.inr ⟨rfl, rfl, hX.2.2.1, Pf.rf V g0⟩⟩
