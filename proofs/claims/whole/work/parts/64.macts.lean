/-- the memory with a trace -/
def tM (V : MM) (tr : TR) : MM := upR (upR V 121 tr.2) 83 (ur (V 83) 58 tr.1)
theorem tM_83 (V : MM) (tr : TR) : tM V tr 83 = ur (V 83) 58 tr.1 := upR_s ..
theorem tM_121 (V : MM) (tr : TR) : tM V tr 121 = tr.2 := by unfold tM; rw [upR_n _ (by omega), upR_s]
theorem tM_k {V : MM} (tr : TR) {k : Nat} (a : k ≠ 83) (b : k ≠ 121) : tM V tr k = V k := by unfold tM; rw [upR_n _ a, upR_n _ b]
theorem tM_tM (V : MM) (a b : TR) : upR (upR (tM V a) 121 b.2) 83 (ur (tM V a 83) 58 b.1) = tM V b := by
  rw [tM_83, ur_u]
  unfold tM
  rw [upR_c _ _ (show (83 : Nat) ≠ 121 by omega), upR_u, upR_u]
def XR (V : MM) (res : Int × TR) : Option AV → MM → Prop := RI (fun z V' => z = res.1 ∧ V' = tM V res.2)
theorem XR.mk {V : MM} {z : Int} {tr : TR} {res : Int × TR} (e : (z, tr) = res) : XR V res (some (vi z)) (tM V tr) := by
  subst e
  exact ⟨_, rfl, rfl, rfl⟩
theorem FM.tr {V : MM} {hs : HS} {s : FS} (M : FM V hs s) (tr : TR) : FM (tM V tr) hs s := by
  refine M.mk3 (fun k a b => tM_k tr (by omega) (by omega)) (by rw [tM_83, ur_n _ (by omega)]) ?_ M.2.2.2
  show s = (tM V tr 83 0, tM V tr 83 1, tM V tr 84, tM V tr 85, tM V tr 86, tM V tr 88, tM V tr 87)
  rw [tM_83, ur_n _ (by omega), ur_n _ (by omega), tM_k _ (by omega) (by omega), tM_k _ (by omega) (by omega), tM_k _ (by omega) (by omega), tM_k _ (by omega) (by omega), tM_k _ (by omega) (by omega)]
  exact M.1

theorem m_body {g : GC} {V : MM} {tr : TR} {b : Int} (ht : 0 ≤ tr.1 ∧ tr.1 ≤ 1000) : Ct g mX7_body 1 [vr 83, vi b] (tM V tr) (RW (tM V (trP b tr))) := by
  refine Ct.of (ls := [some (vr 83), some (vi b)]) (plainFor_of_name (by decide +kernel)) rfl (by exact Nat.le_of_ble_eq_true rfl) (fun X hz hD => ?_)
  have e58 : tM V tr 83 58 = tr.1 := by rw [tM_83, ur_s]
  by_cases hq : tr.1 < 20
  · refine S_al0 qX7_body_0 ?_
    refine S_getI qX7_body_1 fX7_187 e83_58 ?_
    refine S_bipush (d := qX7_body_4) (k := ?_)
    refine S_icmp_ge (d := qX7_body_6) (kt := fun c6 => ?_) (kf := fun c6 => ?_)
    · omega
    refine S_al0 qX7_body_9 ?_
    refine S_getR qX7_body_10 fX7_190 e83_59 ?_
    refine S_al0 qX7_body_13 ?_
    refine S_getI qX7_body_14 fX7_187 e83_58 ?_
    rw [e58]
    refine S_il1 qX7_body_17 ?_
    refine S_iast qX7_body_18 a121 (K := ?_)
    refine S_al0 qX7_body_19 ?_
    refine S_dup (d := qX7_body_20) (k := ?_)
    refine S_getI qX7_body_21 fX7_187 e83_58 ?_
    rw [upR_n _ (show (83 : Nat) ≠ 121 by omega), e58]
    refine S_iconst qX7_body_24 ?_
    refine S_iadd qX7_body_25 ?_
    refine S_putI qX7_body_26 fX7_187 e83_58 tX7_58 ?_
    refine S_vret hz qX7_body_29 ?_
    refine RW.mk ?_
    have e := tM_tM V tr (trP b tr)
    rw [← e]
    have e1 : (trP b tr).2 = ur (tM V tr 121) tr.1 b := by rw [tM_121]; show (if tr.1 < 20 then _ else _) = _; rw [if_pos hq]
    rw [e1, upR_n _ (show (83 : Nat) ≠ 121 by omega)]
    rfl
  · refine S_al0 qX7_body_0 ?_
    refine S_getI qX7_body_1 fX7_187 e83_58 ?_
    refine S_bipush (d := qX7_body_4) (k := ?_)
    refine S_icmp_ge (d := qX7_body_6) (kt := fun c6 => ?_) (kf := fun c6 => ?_)
    rotate_left
    · omega
    refine S_al0 qX7_body_19 ?_
    refine S_dup (d := qX7_body_20) (k := ?_)
    refine S_getI qX7_body_21 fX7_187 e83_58 ?_
    rw [e58]
    refine S_iconst qX7_body_24 ?_
    refine S_iadd qX7_body_25 ?_
    refine S_putI qX7_body_26 fX7_187 e83_58 tX7_58 ?_
    refine S_vret hz qX7_body_29 ?_
    refine RW.mk ?_
    have e := tM_tM V tr (trP b tr)
    rw [← e]
    have e1 : (trP b tr).2 = tM V tr 121 := by rw [tM_121]; show (if tr.1 < 20 then _ else _) = _; rw [if_neg hq]
    rw [e1, upR_id]
    rfl

theorem bnA {b k : Int} (g : 0 ≤ b ∧ b ≤ 0 + k) (e : k ≤ 1000) : 0 ≤ b ∧ b ≤ 1000 := by omega
theorem bnU {a b n k m : Int} (h : 0 ≤ a ∧ a ≤ n) (g : a + 1 ≤ b ∧ b ≤ a + 1 + k) (e : n + 1 + k ≤ m) : 0 ≤ b ∧ b ≤ m := by omega

theorem bnP {tr : TR} {b n m : Int} (h : 0 ≤ tr.1 ∧ tr.1 ≤ n) (e : n + 1 ≤ m) : 0 ≤ (trP b tr).1 ∧ (trP b tr).1 ≤ m := by
  rw [trP_1]
  omega

theorem m_dSteps {g : GC} {V : MM} {hs : HS} {s : FS} {tr : TR} {i x : Int} (M : FM V hs s) (hi : 0 ≤ i ∧ i < s.1) (ht : 0 ≤ tr.1 ∧ tr.1 ≤ 990) : Ct g mX7_dancerSteps 2 [vr 83, vi i, vi x] (tM V tr) (XR V ((x + i, trP 10 tr))) := by
  refine Ct.of (ls := [some (vr 83), some (vi i), some (vi x)]) (plainFor_of_name (by decide +kernel)) rfl (by exact Nat.le_of_ble_eq_true rfl) (fun X hz hD => ?_)
  have M2 := M.tr tr
  have hn6 := M.2.2.2.1
  have hk1 := M.2.2.2.2.2.1 i (by omega)
  skip
  refine S_al0 qX7_dancerSteps_0 ?_
  refine S_bipush (d := qX7_dancerSteps_1) (k := ?_)
  refine S_V1W hD qX7_dancerSteps_3 lX7_351 vX7_body r83 (m_body (by omega)) (K := ?_)
  refine S_il2 qX7_dancerSteps_6 ?_
  refine S_il1 qX7_dancerSteps_7 ?_
  refine S_iadd qX7_dancerSteps_8 ?_
  refine S_iret hz qX7_dancerSteps_9 ?_
  exact XR.mk rfl

theorem m_stAct {g : GC} {V : MM} {hs : HS} {s : FS} {tr : TR} {i x : Int} (M : FM V hs s) (hi : 0 ≤ i ∧ i < s.1) (ht : 0 ≤ tr.1 ∧ tr.1 ≤ 980) : Ct g mX7_stepsAct 3 [vr 83, vi i, vi x] (tM V tr) (XR V (mSt (s.2.2.1 i) (s.2.2.2.1 i) i x tr)) := by
  refine Ct.of (ls := [some (vr 83), some (vi i), some (vi x)]) (plainFor_of_name (by decide +kernel)) rfl (by exact Nat.le_of_ble_eq_true rfl) (fun X hz hD => ?_)
  have M2 := M.tr tr
  have hn6 := M.2.2.2.1
  have hk1 := M.2.2.2.2.2.1 i (by omega)
  skip
  refine S_al0 qX7_stepsAct_0 ?_
  refine S_getR qX7_stepsAct_1 fX7_16 e83_2 ?_
  refine S_il1 qX7_stepsAct_4 ?_
  refine S_iald qX7_stepsAct_5 a84 (K := ?_)
  rw [M2.w84]
  by_cases s6_2 : s.2.2.1 i = 2
  · refine S_tabIn (tgt := 40) (off := 34) qX7_stepsAct_6 (by omega) (by omega) (by rw [s6_2]; rfl) (by decide) ?_
    refine S_al0 qX7_stepsAct_40 ?_
    refine S_bipush (d := qX7_stepsAct_41) (k := ?_)
    refine S_V1W hD qX7_stepsAct_43 lX7_351 vX7_body r83 (m_body (by omega)) (K := ?_)
    refine S_al0 qX7_stepsAct_46 ?_
    refine S_il1 qX7_stepsAct_47 ?_
    refine S_il2 qX7_stepsAct_48 ?_
    refine S_iconst qX7_stepsAct_49 ?_
    refine S_imul qX7_stepsAct_50 ?_
    refine S_V2I hD qX7_stepsAct_51 lX7_354 vX7_dancerSteps r83 (m_dSteps M hi (by first | exact bnP ht (by decide) | omega)) (kk := fun z51 V51 h51 => ?_)
    obtain ⟨rfl, rfl⟩ := h51
    refine S_iret hz qX7_stepsAct_54 ?_
    refine XR.mk ?_
    unfold mSt
    first
      | (rw [if_pos (by omega)]; done)
      | (rw [if_neg (by omega), if_pos (by omega)]; done)
      | (rw [if_neg (by omega), if_neg (by omega), if_pos (by omega)]; done)
      | (rw [if_neg (by omega), if_neg (by omega), if_neg (by omega)]; done)
  by_cases s6_3 : s.2.2.1 i = 3
  · refine S_tabIn (tgt := 89) (off := 83) qX7_stepsAct_6 (by omega) (by omega) (by rw [s6_3]; rfl) (by decide) ?_
    refine S_al0 qX7_stepsAct_89 ?_
    refine S_il1 qX7_stepsAct_90 ?_
    refine S_il2 qX7_stepsAct_91 ?_
    refine S_V2I hD qX7_stepsAct_92 lX7_354 vX7_dancerSteps r83 (m_dSteps M hi (by first | exact bnP ht (by decide) | omega)) (kk := fun z92 V92 h92 => ?_)
    obtain ⟨rfl, rfl⟩ := h92
    refine S_iret hz qX7_stepsAct_95 ?_
    refine XR.mk ?_
    unfold mSt
    first
      | (rw [if_pos (by omega)]; done)
      | (rw [if_neg (by omega), if_pos (by omega)]; done)
      | (rw [if_neg (by omega), if_neg (by omega), if_pos (by omega)]; done)
      | (rw [if_neg (by omega), if_neg (by omega), if_neg (by omega)]; done)
  by_cases s6_4 : s.2.2.1 i = 4
  · refine S_tabIn (tgt := 55) (off := 49) qX7_stepsAct_6 (by omega) (by omega) (by rw [s6_4]; rfl) (by decide) ?_
    refine S_al0 qX7_stepsAct_55 ?_
    refine S_bipush (d := qX7_stepsAct_56) (k := ?_)
    refine S_V1W hD qX7_stepsAct_58 lX7_351 vX7_body r83 (m_body (by omega)) (K := ?_)
    refine S_al0 qX7_stepsAct_61 ?_
    refine S_il1 qX7_stepsAct_62 ?_
    refine S_il2 qX7_stepsAct_63 ?_
    refine S_V2I hD qX7_stepsAct_64 lX7_354 vX7_dancerSteps r83 (m_dSteps M hi (by first | exact bnP ht (by decide) | omega)) (kk := fun z64 V64 h64 => ?_)
    obtain ⟨rfl, rfl⟩ := h64
    refine S_ineg qX7_stepsAct_67 ?_
    refine S_iret hz qX7_stepsAct_68 ?_
    refine XR.mk ?_
    unfold mSt
    first
      | (rw [if_pos (by omega)]; done)
      | (rw [if_neg (by omega), if_pos (by omega)]; done)
      | (rw [if_neg (by omega), if_neg (by omega), if_pos (by omega)]; done)
      | (rw [if_neg (by omega), if_neg (by omega), if_neg (by omega)]; done)
  by_cases s6_5 : s.2.2.1 i = 5
  · refine S_tabIn (tgt := 40) (off := 34) qX7_stepsAct_6 (by omega) (by omega) (by rw [s6_5]; rfl) (by decide) ?_
    refine S_al0 qX7_stepsAct_40 ?_
    refine S_bipush (d := qX7_stepsAct_41) (k := ?_)
    refine S_V1W hD qX7_stepsAct_43 lX7_351 vX7_body r83 (m_body (by omega)) (K := ?_)
    refine S_al0 qX7_stepsAct_46 ?_
    refine S_il1 qX7_stepsAct_47 ?_
    refine S_il2 qX7_stepsAct_48 ?_
    refine S_iconst qX7_stepsAct_49 ?_
    refine S_imul qX7_stepsAct_50 ?_
    refine S_V2I hD qX7_stepsAct_51 lX7_354 vX7_dancerSteps r83 (m_dSteps M hi (by first | exact bnP ht (by decide) | omega)) (kk := fun z51 V51 h51 => ?_)
    obtain ⟨rfl, rfl⟩ := h51
    refine S_iret hz qX7_stepsAct_54 ?_
    refine XR.mk ?_
    unfold mSt
    first
      | (rw [if_pos (by omega)]; done)
      | (rw [if_neg (by omega), if_pos (by omega)]; done)
      | (rw [if_neg (by omega), if_neg (by omega), if_pos (by omega)]; done)
      | (rw [if_neg (by omega), if_neg (by omega), if_neg (by omega)]; done)
  by_cases s6_6 : s.2.2.1 i = 6
  · refine S_tabIn (tgt := 69) (off := 63) qX7_stepsAct_6 (by omega) (by omega) (by rw [s6_6]; rfl) (by decide) ?_
    refine S_al0 qX7_stepsAct_69 ?_
    refine S_bipush (d := qX7_stepsAct_70) (k := ?_)
    refine S_V1W hD qX7_stepsAct_72 lX7_351 vX7_body r83 (m_body (by omega)) (K := ?_)
    refine S_al0 qX7_stepsAct_75 ?_
    refine S_il1 qX7_stepsAct_76 ?_
    refine S_il2 qX7_stepsAct_77 ?_
    refine S_V2I hD qX7_stepsAct_78 lX7_354 vX7_dancerSteps r83 (m_dSteps M hi (by first | exact bnP ht (by decide) | omega)) (kk := fun z78 V78 h78 => ?_)
    obtain ⟨rfl, rfl⟩ := h78
    refine S_al0 qX7_stepsAct_81 ?_
    refine S_getR qX7_stepsAct_82 fX7_20 e83_3 ?_
    refine S_il1 qX7_stepsAct_85 ?_
    refine S_iald qX7_stepsAct_86 a85 (K := ?_)
    rw [tM_k _ (show (85 : Nat) ≠ 83 by omega) (show (85 : Nat) ≠ 121 by omega), M.w85]
    refine S_ixor qX7_stepsAct_87 ?_
    refine S_iret hz qX7_stepsAct_88 ?_
    refine XR.mk ?_
    unfold mSt
    first
      | (rw [if_pos (by omega)]; done)
      | (rw [if_neg (by omega), if_pos (by omega)]; done)
      | (rw [if_neg (by omega), if_neg (by omega), if_pos (by omega)]; done)
      | (rw [if_neg (by omega), if_neg (by omega), if_neg (by omega)]; done)
  refine S_tabOut (tgt := 89) qX7_stepsAct_6 (by omega) (by omega) (by decide) ?_
  refine S_al0 qX7_stepsAct_89 ?_
  refine S_il1 qX7_stepsAct_90 ?_
  refine S_il2 qX7_stepsAct_91 ?_
  refine S_V2I hD qX7_stepsAct_92 lX7_354 vX7_dancerSteps r83 (m_dSteps M hi (by first | exact bnP ht (by decide) | omega)) (kk := fun z92 V92 h92 => ?_)
  obtain ⟨rfl, rfl⟩ := h92
  refine S_iret hz qX7_stepsAct_95 ?_
  refine XR.mk ?_
  unfold mSt
  first
    | (rw [if_pos (by omega)]; done)
    | (rw [if_neg (by omega), if_pos (by omega)]; done)
    | (rw [if_neg (by omega), if_neg (by omega), if_pos (by omega)]; done)
    | (rw [if_neg (by omega), if_neg (by omega), if_neg (by omega)]; done)

theorem m_dTurns {g : GC} {V : MM} {hs : HS} {s : FS} {tr : TR} {i x : Int} (M : FM V hs s) (hi : 0 ≤ i ∧ i < s.1) (ht : 0 ≤ tr.1 ∧ tr.1 ≤ 970) : Ct g mX7_dancerTurns 4 [vr 83, vi i, vi x] (tM V tr) (XR V (mDT (s.2.2.1 i) (s.2.2.2.1 i) i x tr)) := by
  refine Ct.of (ls := [some (vr 83), some (vi i), some (vi x)]) (plainFor_of_name (by decide +kernel)) rfl (by exact Nat.le_of_ble_eq_true rfl) (fun X hz hD => ?_)
  have M2 := M.tr tr
  have hn6 := M.2.2.2.1
  have hk1 := M.2.2.2.2.2.1 i (by omega)
  skip
  refine S_al0 qX7_dancerTurns_0 ?_
  refine S_bipush (d := qX7_dancerTurns_1) (k := ?_)
  refine S_V1W hD qX7_dancerTurns_3 lX7_351 vX7_body r83 (m_body (by omega)) (K := ?_)
  refine S_al0 qX7_dancerTurns_6 ?_
  refine S_il1 qX7_dancerTurns_7 ?_
  refine S_il2 qX7_dancerTurns_8 ?_
  refine S_V2I hD qX7_dancerTurns_9 lX7_357 vX7_stepsAct r83 (m_stAct M hi (by first | exact bnP ht (by decide) | omega)) (kk := fun z9 V9 h9 => ?_)
  obtain ⟨rfl, rfl⟩ := h9
  refine S_al0 qX7_dancerTurns_12 ?_
  refine S_getR qX7_dancerTurns_13 fX7_20 e83_3 ?_
  refine S_il1 qX7_dancerTurns_16 ?_
  refine S_iald qX7_dancerTurns_17 a85 (K := ?_)
  rw [tM_k _ (show (85 : Nat) ≠ 83 by omega) (show (85 : Nat) ≠ 121 by omega), M.w85]
  refine S_isub qX7_dancerTurns_18 ?_
  refine S_iret hz qX7_dancerTurns_19 ?_
  exact XR.mk rfl

theorem m_lTurns {g : GC} {V : MM} {hs : HS} {s : FS} {tr : TR} {i x : Int} (M : FM V hs s) (hi : 0 ≤ i ∧ i < s.1) (ht : 0 ≤ tr.1 ∧ tr.1 ≤ 960) : Ct g mX7_lateTurns 5 [vr 83, vi i, vi x] (tM V tr) (XR V (mLT (s.2.2.1 i) (s.2.2.2.1 i) i x tr)) := by
  refine Ct.of (ls := [some (vr 83), some (vi i), some (vi x)]) (plainFor_of_name (by decide +kernel)) rfl (by exact Nat.le_of_ble_eq_true rfl) (fun X hz hD => ?_)
  have M2 := M.tr tr
  have hn6 := M.2.2.2.1
  have hk1 := M.2.2.2.2.2.1 i (by omega)
  skip
  refine S_al0 qX7_lateTurns_0 ?_
  refine S_bipush (d := qX7_lateTurns_1) (k := ?_)
  refine S_V1W hD qX7_lateTurns_3 lX7_351 vX7_body r83 (m_body (by omega)) (K := ?_)
  refine S_al0 qX7_lateTurns_6 ?_
  refine S_il1 qX7_lateTurns_7 ?_
  refine S_il2 qX7_lateTurns_8 ?_
  refine S_V2I hD qX7_lateTurns_9 lX7_360 vX7_dancerTurns r83 (m_dTurns M hi (by first | exact bnP ht (by decide) | omega)) (kk := fun z9 V9 h9 => ?_)
  obtain ⟨rfl, rfl⟩ := h9
  refine S_bipush (d := qX7_lateTurns_12) (k := ?_)
  refine S_ixor qX7_lateTurns_14 ?_
  refine S_iret hz qX7_lateTurns_15 ?_
  exact XR.mk rfl

theorem m_tuAct {g : GC} {V : MM} {hs : HS} {s : FS} {tr : TR} {i x : Int} (M : FM V hs s) (hi : 0 ≤ i ∧ i < s.1) (ht : 0 ≤ tr.1 ∧ tr.1 ≤ 950) : Ct g mX7_turnsAct 6 [vr 83, vi i, vi x] (tM V tr) (XR V (mTu (s.2.2.1 i) (s.2.2.2.1 i) i x tr)) := by
  refine Ct.of (ls := [some (vr 83), some (vi i), some (vi x), none]) (plainFor_of_name (by decide +kernel)) rfl (by exact Nat.le_of_ble_eq_true rfl) (fun X hz hD => ?_)
  have M2 := M.tr tr
  have hn6 := M.2.2.2.1
  have hk1 := M.2.2.2.2.2.1 i (by omega)
  skip
  refine S_al0 qX7_turnsAct_0 ?_
  refine S_getR qX7_turnsAct_1 fX7_16 e83_2 ?_
  refine S_il1 qX7_turnsAct_4 ?_
  refine S_iald qX7_turnsAct_5 a84 (K := ?_)
  rw [M2.w84]
  by_cases s6_1 : s.2.2.1 i = 1
  · refine S_lookup (tgt := 40) (off := 34) qX7_turnsAct_6 (by decide +kernel) (by omega) (by rw [s6_1]; decide +kernel) (by decide) ?_
    refine S_al0 qX7_turnsAct_40 ?_
    refine S_il1 qX7_turnsAct_41 ?_
    refine S_il2 qX7_turnsAct_42 ?_
    refine S_V2I hD qX7_turnsAct_43 lX7_363 vX7_lateTurns r83 (m_lTurns M hi (by first | exact bnP ht (by decide) | omega)) (kk := fun z43 V43 h43 => ?_)
    obtain ⟨rfl, rfl⟩ := h43
    refine S_iret hz qX7_turnsAct_46 ?_
    refine XR.mk ?_
    unfold mTu
    first
      | (rw [if_pos (by omega)]; done)
      | (rw [if_neg (by omega), if_pos (by omega)]; done)
      | (rw [if_neg (by omega), if_neg (by omega), if_pos (by omega)]; done)
      | (rw [if_neg (by omega), if_neg (by omega), if_neg (by omega)]; done)
      | (rw [if_neg (by omega), if_neg (by omega)]; done)
  by_cases s6_4 : s.2.2.1 i = 4
  · refine S_lookup (tgt := 47) (off := 41) qX7_turnsAct_6 (by decide +kernel) (by omega) (by rw [s6_4]; decide +kernel) (by decide) ?_
    refine S_al0 qX7_turnsAct_47 ?_
    refine S_bipush (d := qX7_turnsAct_48) (k := ?_)
    refine S_V1W hD qX7_turnsAct_50 lX7_351 vX7_body r83 (m_body (by omega)) (K := ?_)
    refine S_al0 qX7_turnsAct_53 ?_
    refine S_il1 qX7_turnsAct_54 ?_
    refine S_il2 qX7_turnsAct_55 ?_
    refine S_iconst qX7_turnsAct_56 ?_
    refine S_iadd qX7_turnsAct_57 ?_
    refine S_V2I hD qX7_turnsAct_58 lX7_363 vX7_lateTurns r83 (m_lTurns M hi (by first | exact bnP ht (by decide) | omega)) (kk := fun z58 V58 h58 => ?_)
    obtain ⟨rfl, rfl⟩ := h58
    refine S_iret hz qX7_turnsAct_61 ?_
    refine XR.mk ?_
    unfold mTu
    first
      | (rw [if_pos (by omega)]; done)
      | (rw [if_neg (by omega), if_pos (by omega)]; done)
      | (rw [if_neg (by omega), if_neg (by omega), if_pos (by omega)]; done)
      | (rw [if_neg (by omega), if_neg (by omega), if_neg (by omega)]; done)
      | (rw [if_neg (by omega), if_neg (by omega)]; done)
  by_cases s6_6 : s.2.2.1 i = 6
  · refine S_lookup (tgt := 62) (off := 56) qX7_turnsAct_6 (by decide +kernel) (by omega) (by rw [s6_6]; decide +kernel) (by decide) ?_
    refine S_al0 qX7_turnsAct_62 ?_
    refine S_bipush (d := qX7_turnsAct_63) (k := ?_)
    refine S_V1W hD qX7_turnsAct_65 lX7_351 vX7_body r83 (m_body (by omega)) (K := ?_)
    refine S_al0 qX7_turnsAct_68 ?_
    refine S_il1 qX7_turnsAct_69 ?_
    refine S_il2 qX7_turnsAct_70 ?_
    refine S_V2I hD qX7_turnsAct_71 lX7_360 vX7_dancerTurns r83 (m_dTurns M hi (by first | exact bnP ht (by decide) | omega)) (kk := fun z71 V71 h71 => ?_)
    obtain ⟨rfl, rfl⟩ := h71
    refine S_is3 qX7_turnsAct_74 (K := ?_)
    refine S_il3 qX7_turnsAct_75 ?_
    refine S_al0 qX7_turnsAct_76 ?_
    refine S_il1 qX7_turnsAct_77 ?_
    refine S_iconst qX7_turnsAct_78 ?_
    refine S_V2I hD qX7_turnsAct_79 lX7_354 vX7_dancerSteps r83 (m_dSteps M hi (bnU ht (mDT_1 _ _ _ _ (trP 70 tr)) (by decide))) (kk := fun z79 V79 h79 => ?_)
    obtain ⟨rfl, rfl⟩ := h79
    refine S_iadd qX7_turnsAct_82 ?_
    refine S_iret hz qX7_turnsAct_83 ?_
    refine XR.mk ?_
    unfold mTu
    first
      | (rw [if_pos (by omega)]; done)
      | (rw [if_neg (by omega), if_pos (by omega)]; done)
      | (rw [if_neg (by omega), if_neg (by omega), if_pos (by omega)]; done)
      | (rw [if_neg (by omega), if_neg (by omega), if_neg (by omega)]; done)
      | (rw [if_neg (by omega), if_neg (by omega)]; done)
  refine S_lookup (tgt := 84) (off := 78) qX7_turnsAct_6 (by decide +kernel) (by omega) (by simp [Op.lookupswitch.offset, s6_1, Ne.symm s6_1, s6_4, Ne.symm s6_4, s6_6, Ne.symm s6_6]) (by decide) ?_
  refine S_al0 qX7_turnsAct_84 ?_
  refine S_il1 qX7_turnsAct_85 ?_
  refine S_il2 qX7_turnsAct_86 ?_
  refine S_V2I hD qX7_turnsAct_87 lX7_360 vX7_dancerTurns r83 (m_dTurns M hi (by first | exact bnP ht (by decide) | omega)) (kk := fun z87 V87 h87 => ?_)
  obtain ⟨rfl, rfl⟩ := h87
  refine S_iret hz qX7_turnsAct_90 ?_
  refine XR.mk ?_
  unfold mTu
  first
    | (rw [if_pos (by omega)]; done)
    | (rw [if_neg (by omega), if_pos (by omega)]; done)
    | (rw [if_neg (by omega), if_neg (by omega), if_pos (by omega)]; done)
    | (rw [if_neg (by omega), if_neg (by omega), if_neg (by omega)]; done)
    | (rw [if_neg (by omega), if_neg (by omega)]; done)

theorem m_dTells {g : GC} {V : MM} {hs : HS} {s : FS} {tr : TR} {i x : Int} (M : FM V hs s) (hi : 0 ≤ i ∧ i < s.1) (ht : 0 ≤ tr.1 ∧ tr.1 ≤ 940) : Ct g mX7_dancerTells 7 [vr 83, vi i, vi x] (tM V tr) (XR V (mDE (s.2.2.1 i) (s.2.2.2.1 i) i x tr)) := by
  refine Ct.of (ls := [some (vr 83), some (vi i), some (vi x)]) (plainFor_of_name (by decide +kernel)) rfl (by exact Nat.le_of_ble_eq_true rfl) (fun X hz hD => ?_)
  have M2 := M.tr tr
  have hn6 := M.2.2.2.1
  have hk1 := M.2.2.2.2.2.1 i (by omega)
  skip
  refine S_al0 qX7_dancerTells_0 ?_
  refine S_bipush (d := qX7_dancerTells_1) (k := ?_)
  refine S_V1W hD qX7_dancerTells_3 lX7_351 vX7_body r83 (m_body (by omega)) (K := ?_)
  refine S_al0 qX7_dancerTells_6 ?_
  refine S_il1 qX7_dancerTells_7 ?_
  refine S_il2 qX7_dancerTells_8 ?_
  refine S_V2I hD qX7_dancerTells_9 lX7_366 vX7_turnsAct r83 (m_tuAct M hi (by first | exact bnP ht (by decide) | omega)) (kk := fun z9 V9 h9 => ?_)
  obtain ⟨rfl, rfl⟩ := h9
  refine S_iconst qX7_dancerTells_12 ?_
  refine S_imul qX7_dancerTells_13 ?_
  refine S_iret hz qX7_dancerTells_14 ?_
  exact XR.mk rfl

theorem m_teAct {g : GC} {V : MM} {hs : HS} {s : FS} {tr : TR} {i x : Int} (M : FM V hs s) (hi : 0 ≤ i ∧ i < s.1) (ht : 0 ≤ tr.1 ∧ tr.1 ≤ 920) : Ct g mX7_tellsAct 8 [vr 83, vi i, vi x] (tM V tr) (XR V (mTe (s.2.2.1 i) (s.2.2.2.1 i) i x tr)) := by
  refine Ct.of (ls := [some (vr 83), some (vi i), some (vi x), none]) (plainFor_of_name (by decide +kernel)) rfl (by exact Nat.le_of_ble_eq_true rfl) (fun X hz hD => ?_)
  have M2 := M.tr tr
  have hn6 := M.2.2.2.1
  have hk1 := M.2.2.2.2.2.1 i (by omega)
  skip
  refine S_al0 qX7_tellsAct_0 ?_
  refine S_getR qX7_tellsAct_1 fX7_16 e83_2 ?_
  refine S_il1 qX7_tellsAct_4 ?_
  refine S_iald qX7_tellsAct_5 a84 (K := ?_)
  rw [M2.w84]
  by_cases s6_3 : s.2.2.1 i = 3
  · refine S_tabIn (tgt := 36) (off := 30) qX7_tellsAct_6 (by omega) (by omega) (by rw [s6_3]; rfl) (by decide) ?_
    refine S_al0 qX7_tellsAct_36 ?_
    refine S_bipush (d := qX7_tellsAct_37) (k := ?_)
    refine S_V1W hD qX7_tellsAct_39 lX7_351 vX7_body r83 (m_body (by omega)) (K := ?_)
    refine S_al0 qX7_tellsAct_42 ?_
    refine S_il1 qX7_tellsAct_43 ?_
    refine S_il2 qX7_tellsAct_44 ?_
    refine S_V2I hD qX7_tellsAct_45 lX7_369 vX7_dancerTells r83 (m_dTells M hi (by first | exact bnP ht (by decide) | omega)) (kk := fun z45 V45 h45 => ?_)
    obtain ⟨rfl, rfl⟩ := h45
    refine S_is3 qX7_tellsAct_48 (K := ?_)
    refine S_il3 qX7_tellsAct_49 ?_
    refine S_al0 qX7_tellsAct_50 ?_
    refine S_il1 qX7_tellsAct_51 ?_
    refine S_iconst qX7_tellsAct_52 ?_
    refine S_V2I hD qX7_tellsAct_53 lX7_366 vX7_turnsAct r83 (m_tuAct M hi (bnU ht (mDE_1 _ _ _ _ (trP 40 tr)) (by decide))) (kk := fun z53 V53 h53 => ?_)
    obtain ⟨rfl, rfl⟩ := h53
    refine S_iadd qX7_tellsAct_56 ?_
    refine S_iret hz qX7_tellsAct_57 ?_
    refine XR.mk ?_
    unfold mTe
    first
      | (rw [if_pos (by omega)]; done)
      | (rw [if_neg (by omega), if_pos (by omega)]; done)
      | (rw [if_neg (by omega), if_neg (by omega), if_pos (by omega)]; done)
      | (rw [if_neg (by omega), if_neg (by omega), if_neg (by omega)]; done)
      | (rw [if_neg (by omega), if_neg (by omega)]; done)
  by_cases s6_4 : s.2.2.1 i = 4
  · refine S_tabIn (tgt := 73) (off := 67) qX7_tellsAct_6 (by omega) (by omega) (by rw [s6_4]; rfl) (by decide) ?_
    refine S_al0 qX7_tellsAct_73 ?_
    refine S_il1 qX7_tellsAct_74 ?_
    refine S_il2 qX7_tellsAct_75 ?_
    refine S_V2I hD qX7_tellsAct_76 lX7_369 vX7_dancerTells r83 (m_dTells M hi (by first | exact bnP ht (by decide) | omega)) (kk := fun z76 V76 h76 => ?_)
    obtain ⟨rfl, rfl⟩ := h76
    refine S_iret hz qX7_tellsAct_79 ?_
    refine XR.mk ?_
    unfold mTe
    first
      | (rw [if_pos (by omega)]; done)
      | (rw [if_neg (by omega), if_pos (by omega)]; done)
      | (rw [if_neg (by omega), if_neg (by omega), if_pos (by omega)]; done)
      | (rw [if_neg (by omega), if_neg (by omega), if_neg (by omega)]; done)
      | (rw [if_neg (by omega), if_neg (by omega)]; done)
  by_cases s6_5 : s.2.2.1 i = 5
  · refine S_tabIn (tgt := 58) (off := 52) qX7_tellsAct_6 (by omega) (by omega) (by rw [s6_5]; rfl) (by decide) ?_
    refine S_al0 qX7_tellsAct_58 ?_
    refine S_bipush (d := qX7_tellsAct_59) (k := ?_)
    refine S_V1W hD qX7_tellsAct_61 lX7_351 vX7_body r83 (m_body (by omega)) (K := ?_)
    refine S_al0 qX7_tellsAct_64 ?_
    refine S_il1 qX7_tellsAct_65 ?_
    refine S_il2 qX7_tellsAct_66 ?_
    refine S_il1 qX7_tellsAct_67 ?_
    refine S_isub qX7_tellsAct_68 ?_
    refine S_V2I hD qX7_tellsAct_69 lX7_369 vX7_dancerTells r83 (m_dTells M hi (by first | exact bnP ht (by decide) | omega)) (kk := fun z69 V69 h69 => ?_)
    obtain ⟨rfl, rfl⟩ := h69
    refine S_iret hz qX7_tellsAct_72 ?_
    refine XR.mk ?_
    unfold mTe
    first
      | (rw [if_pos (by omega)]; done)
      | (rw [if_neg (by omega), if_pos (by omega)]; done)
      | (rw [if_neg (by omega), if_neg (by omega), if_pos (by omega)]; done)
      | (rw [if_neg (by omega), if_neg (by omega), if_neg (by omega)]; done)
      | (rw [if_neg (by omega), if_neg (by omega)]; done)
  by_cases s6_6 : s.2.2.1 i = 6
  · refine S_tabIn (tgt := 36) (off := 30) qX7_tellsAct_6 (by omega) (by omega) (by rw [s6_6]; rfl) (by decide) ?_
    refine S_al0 qX7_tellsAct_36 ?_
    refine S_bipush (d := qX7_tellsAct_37) (k := ?_)
    refine S_V1W hD qX7_tellsAct_39 lX7_351 vX7_body r83 (m_body (by omega)) (K := ?_)
    refine S_al0 qX7_tellsAct_42 ?_
    refine S_il1 qX7_tellsAct_43 ?_
    refine S_il2 qX7_tellsAct_44 ?_
    refine S_V2I hD qX7_tellsAct_45 lX7_369 vX7_dancerTells r83 (m_dTells M hi (by first | exact bnP ht (by decide) | omega)) (kk := fun z45 V45 h45 => ?_)
    obtain ⟨rfl, rfl⟩ := h45
    refine S_is3 qX7_tellsAct_48 (K := ?_)
    refine S_il3 qX7_tellsAct_49 ?_
    refine S_al0 qX7_tellsAct_50 ?_
    refine S_il1 qX7_tellsAct_51 ?_
    refine S_iconst qX7_tellsAct_52 ?_
    refine S_V2I hD qX7_tellsAct_53 lX7_366 vX7_turnsAct r83 (m_tuAct M hi (bnU ht (mDE_1 _ _ _ _ (trP 40 tr)) (by decide))) (kk := fun z53 V53 h53 => ?_)
    obtain ⟨rfl, rfl⟩ := h53
    refine S_iadd qX7_tellsAct_56 ?_
    refine S_iret hz qX7_tellsAct_57 ?_
    refine XR.mk ?_
    unfold mTe
    first
      | (rw [if_pos (by omega)]; done)
      | (rw [if_neg (by omega), if_pos (by omega)]; done)
      | (rw [if_neg (by omega), if_neg (by omega), if_pos (by omega)]; done)
      | (rw [if_neg (by omega), if_neg (by omega), if_neg (by omega)]; done)
      | (rw [if_neg (by omega), if_neg (by omega)]; done)
  refine S_tabOut (tgt := 73) qX7_tellsAct_6 (by omega) (by omega) (by decide) ?_
  refine S_al0 qX7_tellsAct_73 ?_
  refine S_il1 qX7_tellsAct_74 ?_
  refine S_il2 qX7_tellsAct_75 ?_
  refine S_V2I hD qX7_tellsAct_76 lX7_369 vX7_dancerTells r83 (m_dTells M hi (by first | exact bnP ht (by decide) | omega)) (kk := fun z76 V76 h76 => ?_)
  obtain ⟨rfl, rfl⟩ := h76
  refine S_iret hz qX7_tellsAct_79 ?_
  refine XR.mk ?_
  unfold mTe
  first
    | (rw [if_pos (by omega)]; done)
    | (rw [if_neg (by omega), if_pos (by omega)]; done)
    | (rw [if_neg (by omega), if_neg (by omega), if_pos (by omega)]; done)
    | (rw [if_neg (by omega), if_neg (by omega), if_neg (by omega)]; done)
    | (rw [if_neg (by omega), if_neg (by omega)]; done)

theorem MA.tr {V : MM} {Z : ZT} {tr : TR} (hZ : MA V Z) (hr : 0 ≤ tr.1 ∧ tr.1 ≤ 1000) : MA (tM V tr) (trZ Z tr) := by
  obtain ⟨h1, h2, h3, h4, h5, h6, h7, h8⟩ := hZ
  have wj : ∀ j : Int, j ≠ 58 → tM V tr 83 j = V 83 j := fun j a => by rw [tM_83, ur_n _ a]
  have wk : ∀ k : Nat, k ≠ 83 → k ≠ 121 → tM V tr k = V k := fun k a b => tM_k tr a b
  exact ⟨⟨h1.1.tr tr, h1.2⟩, MAh_c h2 (wj 7 (by omega)) (wj 8 (by omega)) rfl, MAt_c h3 (wj 9 (by omega)) (wk 89 (by omega) (by omega)) rfl, MAn_c h4 (fun k a b => wk k (by omega) (by omega)) (wj 31 (by omega)) (wj 35 (by omega)) (wj 36 (by omega)) (Int.le_refl _) rfl, MAi_c h5 (fun k a => wk k (by omega) (by omega)) (fun j a => wj j (by omega)) rfl rfl, ⟨by rw [tM_83, ur_s]; rfl, tM_121 V tr, by rw [tM_83, ur_s]; exact hr⟩, MAg_c h7 (wk 122 (by omega) (by omega)) (wk 123 (by omega) (by omega)) (wk 124 (by omega) (by omega)) rfl, MAl_c h8 (wk 97 (by omega) (by omega))⟩

theorem m_act {g : GC} {V : MM} {Z : ZT} {d a x : Int} (hZ : MA V Z) (rd : -2147483648 ≤ d ∧ d ≤ 2147483647) (ra : -2147483648 ≤ a ∧ a ≤ 2147483647) : Ct g mX7_act 9 [vr 83, vi d, vi a, vi x] V (RM V (nAct Z d a x).1 (nAct Z d a x).2) := by
  refine Ct.of (ls := [some (vr 83), some (vi d), some (vi a), some (vi x)]) (plainFor_of_name (by decide +kernel)) rfl (by exact Nat.le_of_ble_eq_true rfl) (fun X hz hD => ?_)
  obtain ⟨M, hI0, hn6, hbb, hwz, hkz⟩ := hZ.pf
  have hT := Tm.rf V
  obtain ⟨r1, r2, r3⟩ := hZ.2.2.2.2.2.1
  have e0 : upR V 83 (ur (V 83) 58 0) = tM V (0, V 121) := by unfold tM; rw [upR_id]
  refine S_al0 qX7_act_0 ?_
  refine S_iconst qX7_act_1 ?_
  refine S_putI qX7_act_2 fX7_187 e83_58 tX7_58 ?_
  rw [e0]
  have M := M.tr (0, V 121)
  refine S_al0 qX7_act_5 ?_
  refine S_il1 qX7_act_6 ?_
  refine S_V1B hD qX7_act_7 lX7_218 vX7_isDancer r83 (m_isDancer M (by omega)) (kt := fun j7 => ?_) (kf := fun j7 => ?_)
  · refine S_if_eq (d := qX7_act_10) (kt := fun c => absurd c (by decide)) (kf := fun _ => ?_)
    refine S_al0 qX7_act_13 ?_
    refine S_il2 qX7_act_14 ?_
    refine S_iconst qX7_act_15 ?_
    refine S_iconst qX7_act_16 ?_
    refine S_V3B hD qX7_act_17 lX7_206 vX7_in r83 (m_in (by omega) (by omega) (by omega)) (kt := fun j17 => ?_) (kf := fun j17 => ?_)
    · refine S_if_ne (d := qX7_act_20) (kt := fun _ => ?_) (kf := fun c => absurd c (by decide))
      refine S_il2 qX7_act_25 ?_
      refine S_if_ne (d := qX7_act_26) (kt := fun c26 => ?_) (kf := fun c26 => ?_)
      · refine S_il2 qX7_act_38 ?_
        refine S_iconst qX7_act_39 ?_
        refine S_icmp_ne (d := qX7_act_40) (kt := fun c40 => ?_) (kf := fun c40 => ?_)
        · refine S_al0 qX7_act_52 ?_
          refine S_il1 qX7_act_53 ?_
          refine S_il3 qX7_act_54 ?_
          refine S_V2I hD qX7_act_55 lX7_372 vX7_tellsAct r83 (m_teAct hZ.1.1 (by omega) ⟨Int.le_refl _, (by omega : (0 : Int) ≤ 920)⟩) (kk := fun z55 V55 h55 => ?_)
          obtain ⟨rfl, rfl⟩ := h55
          refine S_iret hz qX7_act_58 ?_
          have ez : actZ (Z.1.2.2.1 d) (Z.1.2.2.2.1 d) d a x (0, V 121) = mTe (Z.1.2.2.1 d) (Z.1.2.2.2.1 d) d x (0, V 121) := by
            unfold actZ
            first
              | (rw [if_pos (by omega)]; done)
              | (rw [if_neg (by omega), if_pos (by omega)]; done)
              | (rw [if_neg (by omega), if_neg (by omega)]; done)
          refine RM.to (hZ.tr (bnA (mTe_1 _ _ _ _ _) (by decide))) (fun k b => tM_k _ (by omega) (by omega)) ?_
          unfold nAct
          rw [if_neg (by omega), ← r2, ez]
        · refine S_al0 qX7_act_43 ?_
          refine S_il1 qX7_act_44 ?_
          refine S_il3 qX7_act_45 ?_
          refine S_V2I hD qX7_act_46 lX7_366 vX7_turnsAct r83 (m_tuAct hZ.1.1 (by omega) ⟨Int.le_refl _, (by omega : (0 : Int) ≤ 950)⟩) (kk := fun z46 V46 h46 => ?_)
          obtain ⟨rfl, rfl⟩ := h46
          refine S_goto qX7_act_49 ?_
          refine S_iret hz qX7_act_58 ?_
          have ez : actZ (Z.1.2.2.1 d) (Z.1.2.2.2.1 d) d a x (0, V 121) = mTu (Z.1.2.2.1 d) (Z.1.2.2.2.1 d) d x (0, V 121) := by
            unfold actZ
            first
              | (rw [if_pos (by omega)]; done)
              | (rw [if_neg (by omega), if_pos (by omega)]; done)
              | (rw [if_neg (by omega), if_neg (by omega)]; done)
          refine RM.to (hZ.tr (bnA (mTu_1 _ _ _ _ _) (by decide))) (fun k b => tM_k _ (by omega) (by omega)) ?_
          unfold nAct
          rw [if_neg (by omega), ← r2, ez]
      · refine S_al0 qX7_act_29 ?_
        refine S_il1 qX7_act_30 ?_
        refine S_il3 qX7_act_31 ?_
        refine S_V2I hD qX7_act_32 lX7_357 vX7_stepsAct r83 (m_stAct hZ.1.1 (by omega) ⟨Int.le_refl _, (by omega : (0 : Int) ≤ 980)⟩) (kk := fun z32 V32 h32 => ?_)
        obtain ⟨rfl, rfl⟩ := h32
        refine S_goto qX7_act_35 ?_
        refine S_iret hz qX7_act_58 ?_
        have ez : actZ (Z.1.2.2.1 d) (Z.1.2.2.2.1 d) d a x (0, V 121) = mSt (Z.1.2.2.1 d) (Z.1.2.2.2.1 d) d x (0, V 121) := by
          unfold actZ
          first
            | (rw [if_pos (by omega)]; done)
            | (rw [if_neg (by omega), if_pos (by omega)]; done)
            | (rw [if_neg (by omega), if_neg (by omega)]; done)
        refine RM.to (hZ.tr (bnA (mSt_1 _ _ _ _ _) (by decide))) (fun k b => tM_k _ (by omega) (by omega)) ?_
        unfold nAct
        rw [if_neg (by omega), ← r2, ez]
    · refine S_if_ne (d := qX7_act_20) (kt := fun c => absurd c (by decide)) (kf := fun _ => ?_)
      refine S_iconst qX7_act_23 ?_
      refine S_iret hz qX7_act_24 ?_
      refine RM.to (hZ.tr (tr := (0, V 121)) ⟨Int.le_refl _, (by omega : (0 : Int) ≤ 1000)⟩) (fun k b => tM_k _ (by omega) (by omega)) ?_
      unfold nAct
      rw [if_pos (by omega), ← r2]
  · refine S_if_eq (d := qX7_act_10) (kt := fun _ => ?_) (kf := fun c => absurd c (by decide))
    refine S_iconst qX7_act_23 ?_
    refine S_iret hz qX7_act_24 ?_
    refine RM.to (hZ.tr (tr := (0, V 121)) ⟨Int.le_refl _, (by omega : (0 : Int) ≤ 1000)⟩) (fun k b => tM_k _ (by omega) (by omega)) ?_
    unfold nAct
    rw [if_pos (by omega), ← r2]
