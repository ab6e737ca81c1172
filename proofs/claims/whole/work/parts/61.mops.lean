theorem FM.mk3 {V V' : MM} {hs : HS} {s s' : FS} (M : FM V hs s) (h : ∀ k : Nat, 90 ≤ k → k ≤ 95 → V' k = V k) (e8 : V' 83 8 = V 83 8) (e : s' = fsM V') (hI : FInv hs.1 s') : FM V' hs s' := by
  have hc := hsT_c (V := V) (V' := V') (t := V 83 8) h
  exact ⟨e, by rw [e8, hc.1]; exact M.2.1, by rw [e8]; exact hc.2 M.2.2.1, hI⟩
theorem MA.fs {V V' : MM} {Z : ZT} {s' : FS} (hZ : MA V Z) (hS : ∀ k : Nat, 89 ≤ k → V' k = V k) (h83 : ∀ j : Int, 2 ≤ j → V' 83 j = V 83 j) (e : s' = fsM V') (hI : FInv Z.2.1.1 s') (hb : s'.2.1 ≤ 9999) (hn : Z.1.1 ≤ s'.1) : MA V' (s', Z.2) := by
  obtain ⟨h1, h2, h3, h4, h5, h6, h7, h8⟩ := hZ
  exact ⟨⟨h1.1.mk3 (fun k a b => hS k (by omega)) (h83 8 (by omega)) e hI, hb⟩, MAh_c h2 (h83 7 (by omega)) (h83 8 (by omega)) rfl, MAt_c h3 (h83 9 (by omega)) (hS 89 (by omega)) rfl, MAn_c h4 (fun k a b => hS k (by omega)) (h83 31 (by omega)) (h83 35 (by omega)) (h83 36 (by omega)) hn rfl, MAi_c h5 (fun k a => hS k (by omega)) (fun j a => h83 j (by omega)) rfl rfl, MAr_c h6 (h83 58 (by omega)) (hS 121 (by omega)) rfl, MAg_c h7 (hS 122 (by omega)) (hS 123 (by omega)) (hS 124 (by omega)) rfl, MAl_c h8 (hS 97 (by omega))⟩
theorem MA.nn {V V' : MM} {Z : ZT} {N' : SN} (hZ : MA V Z) (hN : snM V' = N') (hI : NInv Z.1.1 N') (hS : ∀ k : Nat, k ≠ 83 → k < 104 ∨ 110 ≤ k → V' k = V k) (h83 : ∀ j : Int, j ≠ 31 → j ≠ 35 → j ≠ 36 → V' 83 j = V 83 j) : MA V' (snZ Z N') := by
  obtain ⟨h1, h2, h3, h4, h5, h6, h7, h8⟩ := hZ
  refine ⟨⟨h1.1.mk3 (fun k a b => hS k (by omega) (by omega)) (h83 8 (by omega) (by omega) (by omega)) ?_ h1.1.2.2.2, h1.2⟩, MAh_c h2 (h83 7 (by omega) (by omega) (by omega)) (h83 8 (by omega) (by omega) (by omega)) rfl, MAt_c h3 (h83 9 (by omega) (by omega) (by omega)) (hS 89 (by omega) (by omega)) rfl, ⟨hN, hI⟩, MAi_c h5 (fun k a => hS k (by omega) (by omega)) (fun j a => h83 j (by omega) (by omega) (by omega)) rfl rfl, MAr_c h6 (h83 58 (by omega) (by omega) (by omega)) (hS 121 (by omega) (by omega)) rfl, MAg_c h7 (hS 122 (by omega) (by omega)) (hS 123 (by omega) (by omega)) (hS 124 (by omega) (by omega)) rfl, MAl_c h8 (hS 97 (by omega) (by omega))⟩
  show Z.1 = (V' 83 0, V' 83 1, V' 84, V' 85, V' 86, V' 88, V' 87)
  rw [h83 0 (by omega) (by omega) (by omega), h83 1 (by omega) (by omega) (by omega), hS 84 (by omega) (by omega), hS 85 (by omega) (by omega), hS 86 (by omega) (by omega), hS 88 (by omega) (by omega), hS 87 (by omega) (by omega)]
  exact h1.1.1

theorem m_of {g : GC} {V : MM} {Z : ZT} {d w : Int} (hZ : MA V Z) (rd : -2147483648 ≤ d ∧ d ≤ 2147483647) (rw : -2147483648 ≤ w ∧ w ≤ 2147483647) : Ct g mX7_of 8 [vr 83, vi d, vi w] V (RM V (oOf Z d w) Z) := by
  refine Ct.of (ls := [some (vr 83), some (vi d), some (vi w)]) (plainFor_of_name (by decide +kernel)) rfl (by exact Nat.le_of_ble_eq_true rfl) (fun X hz hD => ?_)
  obtain ⟨M, hI0, hn6, hbb, hwz, hkz⟩ := hZ.pf
  have hT := Tm.rf V
  refine S_al0 qX7_of_0 ?_
  refine S_il1 qX7_of_1 ?_
  refine S_V1B hD qX7_of_2 lX7_218 vX7_isDancer r83 (m_isDancer M (by omega)) (kt := fun j2 => ?_) (kf := fun j2 => ?_)
  · refine S_if_ne (d := qX7_of_5) (kt := fun _ => ?_) (kf := fun c => absurd c (by decide))
    refine S_al0 qX7_of_12 ?_
    refine S_il2 qX7_of_13 ?_
    refine S_bipush (d := qX7_of_14) (k := ?_)
    refine S_bipush (d := qX7_of_16) (k := ?_)
    refine S_V3B hD qX7_of_18 lX7_206 vX7_in r83 (m_in (by omega) (by omega) (by omega)) (kt := fun j18 => ?_) (kf := fun j18 => ?_)
    · refine S_if_eq (d := qX7_of_21) (kt := fun c => absurd c (by decide)) (kf := fun _ => ?_)
      refine S_al0 qX7_of_24 ?_
      refine S_getR qX7_of_25 fX7_29 e83_6 ?_
      refine S_bipush (d := qX7_of_28) (k := ?_)
      refine S_il1 qX7_of_30 ?_
      refine S_imul qX7_of_31 ?_
      refine S_il2 qX7_of_32 ?_
      refine S_iadd qX7_of_33 ?_
      refine S_bipush (d := qX7_of_34) (k := ?_)
      refine S_isub qX7_of_36 ?_
      refine S_iald qX7_of_37 a88 (K := ?_)
      rw [M.w88]
      refine S_iret hz qX7_of_38 ?_
      refine RM.tm hZ hT M ?_
      unfold oOf
      first
        | (rw [if_pos (by omega)]; done)
        | (rw [if_neg (by omega), if_pos (by omega)]; done)
        | (rw [if_neg (by omega), if_neg (by omega), if_pos (by omega)]; done)
        | (rw [if_neg (by omega), if_neg (by omega), if_neg (by omega), if_pos (by omega)]; done)
        | (rw [if_neg (by omega), if_neg (by omega), if_neg (by omega), if_neg (by omega), if_pos (by omega)]; done)
        | (rw [if_neg (by omega), if_neg (by omega), if_neg (by omega), if_neg (by omega), if_neg (by omega), if_pos (by omega)]; done)
        | (rw [if_neg (by omega), if_neg (by omega), if_neg (by omega), if_neg (by omega), if_neg (by omega), if_neg (by omega), if_pos (by omega)]; done)
        | (rw [if_neg (by omega), if_neg (by omega), if_neg (by omega), if_neg (by omega), if_neg (by omega), if_neg (by omega), if_neg (by omega)]; exact congrArg _ (by omega))
    · refine S_if_eq (d := qX7_of_21) (kt := fun _ => ?_) (kf := fun c => absurd c (by decide))
      refine S_il2 qX7_of_39 ?_
      by_cases s40_0 : w = 0
      · refine S_tabIn (tgt := 76) (off := 36) qX7_of_40 (by omega) (by omega) (by rw [s40_0]; rfl) (by decide) ?_
        refine S_al0 qX7_of_76 ?_
        refine S_getR qX7_of_77 fX7_16 e83_2 ?_
        refine S_il1 qX7_of_80 ?_
        refine S_iald qX7_of_81 a84 (K := ?_)
        rw [M.w84]
        refine S_iret hz qX7_of_82 ?_
        refine RM.tm hZ hT M ?_
        unfold oOf
        first
          | (rw [if_pos (by omega)]; done)
          | (rw [if_neg (by omega), if_pos (by omega)]; done)
          | (rw [if_neg (by omega), if_neg (by omega), if_pos (by omega)]; done)
          | (rw [if_neg (by omega), if_neg (by omega), if_neg (by omega), if_pos (by omega)]; done)
          | (rw [if_neg (by omega), if_neg (by omega), if_neg (by omega), if_neg (by omega), if_pos (by omega)]; done)
          | (rw [if_neg (by omega), if_neg (by omega), if_neg (by omega), if_neg (by omega), if_neg (by omega), if_pos (by omega)]; done)
          | (rw [if_neg (by omega), if_neg (by omega), if_neg (by omega), if_neg (by omega), if_neg (by omega), if_neg (by omega), if_pos (by omega)]; done)
          | (rw [if_neg (by omega), if_neg (by omega), if_neg (by omega), if_neg (by omega), if_neg (by omega), if_neg (by omega), if_neg (by omega)]; exact congrArg _ (by omega))
      by_cases s40_1 : w = 1
      · refine S_tabIn (tgt := 83) (off := 43) qX7_of_40 (by omega) (by omega) (by rw [s40_1]; rfl) (by decide) ?_
        refine S_al0 qX7_of_83 ?_
        refine S_getR qX7_of_84 fX7_20 e83_3 ?_
        refine S_il1 qX7_of_87 ?_
        refine S_iald qX7_of_88 a85 (K := ?_)
        rw [M.w85]
        refine S_iret hz qX7_of_89 ?_
        refine RM.tm hZ hT M ?_
        unfold oOf
        first
          | (rw [if_pos (by omega)]; done)
          | (rw [if_neg (by omega), if_pos (by omega)]; done)
          | (rw [if_neg (by omega), if_neg (by omega), if_pos (by omega)]; done)
          | (rw [if_neg (by omega), if_neg (by omega), if_neg (by omega), if_pos (by omega)]; done)
          | (rw [if_neg (by omega), if_neg (by omega), if_neg (by omega), if_neg (by omega), if_pos (by omega)]; done)
          | (rw [if_neg (by omega), if_neg (by omega), if_neg (by omega), if_neg (by omega), if_neg (by omega), if_pos (by omega)]; done)
          | (rw [if_neg (by omega), if_neg (by omega), if_neg (by omega), if_neg (by omega), if_neg (by omega), if_neg (by omega), if_pos (by omega)]; done)
          | (rw [if_neg (by omega), if_neg (by omega), if_neg (by omega), if_neg (by omega), if_neg (by omega), if_neg (by omega), if_neg (by omega)]; exact congrArg _ (by omega))
      by_cases s40_2 : w = 2
      · refine S_tabIn (tgt := 90) (off := 50) qX7_of_40 (by omega) (by omega) (by rw [s40_2]; rfl) (by decide) ?_
        refine S_al0 qX7_of_90 ?_
        refine S_getR qX7_of_91 fX7_23 e83_4 ?_
        refine S_il1 qX7_of_94 ?_
        refine S_iald qX7_of_95 a86 (K := ?_)
        rw [M.w86]
        refine S_iret hz qX7_of_96 ?_
        refine RM.tm hZ hT M ?_
        unfold oOf
        first
          | (rw [if_pos (by omega)]; done)
          | (rw [if_neg (by omega), if_pos (by omega)]; done)
          | (rw [if_neg (by omega), if_neg (by omega), if_pos (by omega)]; done)
          | (rw [if_neg (by omega), if_neg (by omega), if_neg (by omega), if_pos (by omega)]; done)
          | (rw [if_neg (by omega), if_neg (by omega), if_neg (by omega), if_neg (by omega), if_pos (by omega)]; done)
          | (rw [if_neg (by omega), if_neg (by omega), if_neg (by omega), if_neg (by omega), if_neg (by omega), if_pos (by omega)]; done)
          | (rw [if_neg (by omega), if_neg (by omega), if_neg (by omega), if_neg (by omega), if_neg (by omega), if_neg (by omega), if_pos (by omega)]; done)
          | (rw [if_neg (by omega), if_neg (by omega), if_neg (by omega), if_neg (by omega), if_neg (by omega), if_neg (by omega), if_neg (by omega)]; exact congrArg _ (by omega))
      by_cases s40_3 : w = 3
      · refine S_tabIn (tgt := 97) (off := 57) qX7_of_40 (by omega) (by omega) (by rw [s40_3]; rfl) (by decide) ?_
        refine S_al0 qX7_of_97 ?_
        refine S_il1 qX7_of_98 ?_
        refine S_V1I hD qX7_of_99 lX7_284 vX7_step r83 (m_step M (by omega)) (kk := fun z99 V99 h99 => ?_)
        obtain ⟨rfl, hO99⟩ := h99
        have hT := hT.tr hO99.og.tm
        have M := M.om hO99
        refine S_iret hz qX7_of_102 ?_
        refine RM.tm hZ hT M ?_
        unfold oOf
        first
          | (rw [if_pos (by omega)]; done)
          | (rw [if_neg (by omega), if_pos (by omega)]; done)
          | (rw [if_neg (by omega), if_neg (by omega), if_pos (by omega)]; done)
          | (rw [if_neg (by omega), if_neg (by omega), if_neg (by omega), if_pos (by omega)]; done)
          | (rw [if_neg (by omega), if_neg (by omega), if_neg (by omega), if_neg (by omega), if_pos (by omega)]; done)
          | (rw [if_neg (by omega), if_neg (by omega), if_neg (by omega), if_neg (by omega), if_neg (by omega), if_pos (by omega)]; done)
          | (rw [if_neg (by omega), if_neg (by omega), if_neg (by omega), if_neg (by omega), if_neg (by omega), if_neg (by omega), if_pos (by omega)]; done)
          | (rw [if_neg (by omega), if_neg (by omega), if_neg (by omega), if_neg (by omega), if_neg (by omega), if_neg (by omega), if_neg (by omega)]; exact congrArg _ (by omega))
      by_cases s40_4 : w = 4
      · refine S_tabIn (tgt := 103) (off := 63) qX7_of_40 (by omega) (by omega) (by rw [s40_4]; rfl) (by decide) ?_
        refine S_al0 qX7_of_103 ?_
        refine S_il1 qX7_of_104 ?_
        refine S_V1I hD qX7_of_105 lX7_290 vX7_goes r83 (m_goes M (by omega)) (kk := fun z105 V105 h105 => ?_)
        obtain ⟨rfl, hO105⟩ := h105
        have hT := hT.tr hO105.og.tm
        have M := M.om hO105
        refine S_iret hz qX7_of_108 ?_
        refine RM.tm hZ hT M ?_
        unfold oOf
        first
          | (rw [if_pos (by omega)]; done)
          | (rw [if_neg (by omega), if_pos (by omega)]; done)
          | (rw [if_neg (by omega), if_neg (by omega), if_pos (by omega)]; done)
          | (rw [if_neg (by omega), if_neg (by omega), if_neg (by omega), if_pos (by omega)]; done)
          | (rw [if_neg (by omega), if_neg (by omega), if_neg (by omega), if_neg (by omega), if_pos (by omega)]; done)
          | (rw [if_neg (by omega), if_neg (by omega), if_neg (by omega), if_neg (by omega), if_neg (by omega), if_pos (by omega)]; done)
          | (rw [if_neg (by omega), if_neg (by omega), if_neg (by omega), if_neg (by omega), if_neg (by omega), if_neg (by omega), if_pos (by omega)]; done)
          | (rw [if_neg (by omega), if_neg (by omega), if_neg (by omega), if_neg (by omega), if_neg (by omega), if_neg (by omega), if_neg (by omega)]; exact congrArg _ (by omega))
      refine S_tabOut (tgt := 109) qX7_of_40 (by omega) (by omega) (by decide) ?_
      refine S_sipush (d := qX7_of_109) (k := ?_)
      refine S_iret hz qX7_of_112 ?_
      refine RM.tm hZ hT M ?_
      unfold oOf
      first
        | (rw [if_pos (by omega)]; done)
        | (rw [if_neg (by omega), if_pos (by omega)]; done)
        | (rw [if_neg (by omega), if_neg (by omega), if_pos (by omega)]; done)
        | (rw [if_neg (by omega), if_neg (by omega), if_neg (by omega), if_pos (by omega)]; done)
        | (rw [if_neg (by omega), if_neg (by omega), if_neg (by omega), if_neg (by omega), if_pos (by omega)]; done)
        | (rw [if_neg (by omega), if_neg (by omega), if_neg (by omega), if_neg (by omega), if_neg (by omega), if_pos (by omega)]; done)
        | (rw [if_neg (by omega), if_neg (by omega), if_neg (by omega), if_neg (by omega), if_neg (by omega), if_neg (by omega), if_pos (by omega)]; done)
        | (rw [if_neg (by omega), if_neg (by omega), if_neg (by omega), if_neg (by omega), if_neg (by omega), if_neg (by omega), if_neg (by omega)]; exact congrArg _ (by omega))
  · refine S_if_ne (d := qX7_of_5) (kt := fun c => absurd c (by decide)) (kf := fun _ => ?_)
    refine S_sipush (d := qX7_of_8) (k := ?_)
    refine S_iret hz qX7_of_11 ?_
    refine RM.tm hZ hT M ?_
    unfold oOf
    first
      | (rw [if_pos (by omega)]; done)
      | (rw [if_neg (by omega), if_pos (by omega)]; done)
      | (rw [if_neg (by omega), if_neg (by omega), if_pos (by omega)]; done)
      | (rw [if_neg (by omega), if_neg (by omega), if_neg (by omega), if_pos (by omega)]; done)
      | (rw [if_neg (by omega), if_neg (by omega), if_neg (by omega), if_neg (by omega), if_pos (by omega)]; done)
      | (rw [if_neg (by omega), if_neg (by omega), if_neg (by omega), if_neg (by omega), if_neg (by omega), if_pos (by omega)]; done)
      | (rw [if_neg (by omega), if_neg (by omega), if_neg (by omega), if_neg (by omega), if_neg (by omega), if_neg (by omega), if_pos (by omega)]; done)
      | (rw [if_neg (by omega), if_neg (by omega), if_neg (by omega), if_neg (by omega), if_neg (by omega), if_neg (by omega), if_neg (by omega)]; exact congrArg _ (by omega))

theorem m_told {g : GC} {V : MM} {Z : ZT} {w : Int} (hZ : MA V Z) (rw : -2147483648 ≤ w ∧ w ≤ 2147483647) : Ct g mX7_told 8 [vr 83, vi w] V (RM V (oTold Z w) Z) := by
  refine Ct.of (ls := [some (vr 83), some (vi w)]) (plainFor_of_name (by decide +kernel)) rfl (by exact Nat.le_of_ble_eq_true rfl) (fun X hz hD => ?_)
  obtain ⟨M, hI0, hn6, hbb, hwz, hkz⟩ := hZ.pf
  have hT := Tm.rf V
  refine S_il1 qX7_told_0 ?_
  refine S_if_ne (d := qX7_told_1) (kt := fun c1 => ?_) (kf := fun c1 => ?_)
  · refine S_il1 qX7_told_11 ?_
    refine S_iconst qX7_told_12 ?_
    refine S_icmp_ne (d := qX7_told_13) (kt := fun c13 => ?_) (kf := fun c13 => ?_)
    · refine S_il1 qX7_told_23 ?_
      refine S_iconst qX7_told_24 ?_
      refine S_icmp_ne (d := qX7_told_25) (kt := fun c25 => ?_) (kf := fun c25 => ?_)
      · refine S_il1 qX7_told_35 ?_
        refine S_iconst qX7_told_36 ?_
        refine S_icmp_ne (d := qX7_told_37) (kt := fun c37 => ?_) (kf := fun c37 => ?_)
        · refine S_iconst qX7_told_47 ?_
          refine S_iret hz qX7_told_48 ?_
          refine RM.tm hZ hT M ?_
          unfold oTold
          first | (rw [if_pos (by omega)]; done) | (rw [if_neg (by omega), if_pos (by omega)]; done) | (rw [if_neg (by omega), if_neg (by omega), if_pos (by omega)]; done) | (rw [if_neg (by omega), if_neg (by omega), if_neg (by omega), if_pos (by omega)]; done) | (rw [if_neg (by omega), if_neg (by omega), if_neg (by omega), if_neg (by omega)]; done)
        · refine S_al0 qX7_told_40 ?_
          refine S_V0I hD qX7_told_41 lX7_296 vX7_many r83 (m_many M) (kk := fun z41 V41 h41 => ?_)
          obtain ⟨rfl, hO41⟩ := h41
          have hT := hT.tr hO41.og.tm
          have M := M.om hO41
          refine S_goto qX7_told_44 ?_
          refine S_iret hz qX7_told_48 ?_
          refine RM.tm hZ hT M ?_
          unfold oTold
          first | (rw [if_pos (by omega)]; done) | (rw [if_neg (by omega), if_pos (by omega)]; done) | (rw [if_neg (by omega), if_neg (by omega), if_pos (by omega)]; done) | (rw [if_neg (by omega), if_neg (by omega), if_neg (by omega), if_pos (by omega)]; done) | (rw [if_neg (by omega), if_neg (by omega), if_neg (by omega), if_neg (by omega)]; done)
      · refine S_al0 qX7_told_28 ?_
        refine S_V0E hD qX7_told_29 lX7_293 vX7_skip r83 (m_skip M) (K := ?_)
        refine S_goto qX7_told_32 ?_
        refine S_iret hz qX7_told_48 ?_
        refine RM.tm hZ hT M ?_
        unfold oTold
        first | (rw [if_pos (by omega)]; done) | (rw [if_neg (by omega), if_pos (by omega)]; done) | (rw [if_neg (by omega), if_neg (by omega), if_pos (by omega)]; done) | (rw [if_neg (by omega), if_neg (by omega), if_neg (by omega), if_pos (by omega)]; done) | (rw [if_neg (by omega), if_neg (by omega), if_neg (by omega), if_neg (by omega)]; done)
    · refine S_al0 qX7_told_16 ?_
      refine S_V0E hD qX7_told_17 lX7_210 vX7_wide r83 (m_wide M) (K := ?_)
      refine S_goto qX7_told_20 ?_
      refine S_iret hz qX7_told_48 ?_
      refine RM.tm hZ hT M ?_
      unfold oTold
      first | (rw [if_pos (by omega)]; done) | (rw [if_neg (by omega), if_pos (by omega)]; done) | (rw [if_neg (by omega), if_neg (by omega), if_pos (by omega)]; done) | (rw [if_neg (by omega), if_neg (by omega), if_neg (by omega), if_pos (by omega)]; done) | (rw [if_neg (by omega), if_neg (by omega), if_neg (by omega), if_neg (by omega)]; done)
  · refine S_al0 qX7_told_4 ?_
    refine S_getI qX7_told_5 fX7_13 e83_1 ?_
    rw [M.b]
    refine S_goto qX7_told_8 ?_
    refine S_iret hz qX7_told_48 ?_
    refine RM.tm hZ hT M ?_
    unfold oTold
    first | (rw [if_pos (by omega)]; done) | (rw [if_neg (by omega), if_pos (by omega)]; done) | (rw [if_neg (by omega), if_neg (by omega), if_pos (by omega)]; done) | (rw [if_neg (by omega), if_neg (by omega), if_neg (by omega), if_pos (by omega)]; done) | (rw [if_neg (by omega), if_neg (by omega), if_neg (by omega), if_neg (by omega)]; done)

theorem m_trace {g : GC} {V : MM} {Z : ZT} {i : Int} (hZ : MA V Z) (ri : -2147483648 ≤ i ∧ i ≤ 2147483647) : Ct g mX7_trace 8 [vr 83, vi i] V (RM V (oTrace Z i) Z) := by
  refine Ct.of (ls := [some (vr 83), some (vi i)]) (plainFor_of_name (by decide +kernel)) rfl (by exact Nat.le_of_ble_eq_true rfl) (fun X hz hD => ?_)
  obtain ⟨M, hI0, hn6, hbb, hwz, hkz⟩ := hZ.pf
  have hT := Tm.rf V
  obtain ⟨r1, r2, r3⟩ := hZ.2.2.2.2.2.1
  refine S_al0 qX7_trace_0 ?_
  refine S_il1 qX7_trace_1 ?_
  refine S_iconst qX7_trace_2 ?_
  refine S_bipush (d := qX7_trace_3) (k := ?_)
  refine S_V3B hD qX7_trace_5 lX7_206 vX7_in r83 (m_in (by omega) (by omega) (by omega)) (kt := fun j5 => ?_) (kf := fun j5 => ?_)
  · refine S_if_eq (d := qX7_trace_8) (kt := fun c => absurd c (by decide)) (kf := fun _ => ?_)
    refine S_il1 qX7_trace_11 ?_
    refine S_al0 qX7_trace_12 ?_
    refine S_getI qX7_trace_13 fX7_187 e83_58 ?_
    refine S_icmp_ge (d := qX7_trace_16) (kt := fun c16 => ?_) (kf := fun c16 => ?_)
    · refine S_iconst qX7_trace_28 ?_
      refine S_iret hz qX7_trace_29 ?_
      refine RM.same hZ ?_
      unfold oTrace
      rw [← r1, ← r2]
      first | (rw [if_pos (by omega)]; done) | (rw [if_neg (by omega)]; done)
    · refine S_al0 qX7_trace_19 ?_
      refine S_getR qX7_trace_20 fX7_190 e83_59 ?_
      refine S_il1 qX7_trace_23 ?_
      refine S_iald qX7_trace_24 a121 (K := ?_)
      refine S_goto qX7_trace_25 ?_
      refine S_iret hz qX7_trace_29 ?_
      refine RM.same hZ ?_
      unfold oTrace
      rw [← r1, ← r2]
      first | (rw [if_pos (by omega)]; done) | (rw [if_neg (by omega)]; done)
  · refine S_if_eq (d := qX7_trace_8) (kt := fun _ => ?_) (kf := fun c => absurd c (by decide))
    refine S_iconst qX7_trace_28 ?_
    refine S_iret hz qX7_trace_29 ?_
    refine RM.same hZ ?_
    unfold oTrace
    rw [← r1, ← r2]
    first | (rw [if_pos (by omega)]; done) | (rw [if_neg (by omega)]; done)

theorem m_count {g : GC} {V : MM} {Z : ZT} {w : Int} (hZ : MA V Z) (rw : -2147483648 ≤ w ∧ w ≤ 2147483647) : Ct g mX7_count 8 [vr 83, vi w] V (RM V (oCount Z w) Z) := by
  refine Ct.of (ls := [some (vr 83), some (vi w)]) (plainFor_of_name (by decide +kernel)) rfl (by exact Nat.le_of_ble_eq_true rfl) (fun X hz hD => ?_)
  obtain ⟨M, hI0, hn6, hbb, hwz, hkz⟩ := hZ.pf
  have hT := Tm.rf V
  obtain ⟨r1, r2, r3⟩ := hZ.2.2.2.2.2.1
  obtain ⟨hN, hNI⟩ := hZ.2.2.2.1
  have c7 := hZ.2.1.1
  have c9 := hZ.2.2.1.1
  have en1 : V 83 31 = Z.2.2.2.2.1.1 := by rw [← hN]
  have en4 : V 83 35 = Z.2.2.2.2.1.2.2.2.2.1 := by rw [← hN]
  have en6 : V 83 36 = Z.2.2.2.2.1.2.2.2.2.2.2.1 := by rw [← hN]
  have en0 := M.n
  refine S_il1 qX7_count_0 ?_
  by_cases s1_0 : w = 0
  · refine S_tabIn (tgt := 44) (off := 43) qX7_count_1 (by omega) (by omega) (by rw [s1_0]; rfl) (by decide) ?_
    refine S_al0 qX7_count_44 ?_
    refine S_getI qX7_count_45 fX7_7 e83_0 ?_
    refine S_iret hz qX7_count_48 ?_
    refine RM.same hZ ?_
    unfold oCount
    rw [← en0, ← en1, ← en4, ← en6, ← c7, ← c9, ← r1]
    (repeat' split) <;> first | rfl | (exfalso; omega)
  by_cases s1_1 : w = 1
  · refine S_tabIn (tgt := 49) (off := 48) qX7_count_1 (by omega) (by omega) (by rw [s1_1]; rfl) (by decide) ?_
    refine S_al0 qX7_count_49 ?_
    refine S_getI qX7_count_50 fX7_32 e83_7 ?_
    refine S_iret hz qX7_count_53 ?_
    refine RM.same hZ ?_
    unfold oCount
    rw [← en0, ← en1, ← en4, ← en6, ← c7, ← c9, ← r1]
    (repeat' split) <;> first | rfl | (exfalso; omega)
  by_cases s1_2 : w = 2
  · refine S_tabIn (tgt := 54) (off := 53) qX7_count_1 (by omega) (by omega) (by rw [s1_2]; rfl) (by decide) ?_
    refine S_al0 qX7_count_54 ?_
    refine S_getI qX7_count_55 fX7_105 e83_31 ?_
    refine S_iret hz qX7_count_58 ?_
    refine RM.same hZ ?_
    unfold oCount
    rw [← en0, ← en1, ← en4, ← en6, ← c7, ← c9, ← r1]
    (repeat' split) <;> first | rfl | (exfalso; omega)
  by_cases s1_3 : w = 3
  · refine S_tabIn (tgt := 59) (off := 58) qX7_count_1 (by omega) (by omega) (by rw [s1_3]; rfl) (by decide) ?_
    refine S_al0 qX7_count_59 ?_
    refine S_getI qX7_count_60 fX7_117 e83_35 ?_
    refine S_iret hz qX7_count_63 ?_
    refine RM.same hZ ?_
    unfold oCount
    rw [← en0, ← en1, ← en4, ← en6, ← c7, ← c9, ← r1]
    (repeat' split) <;> first | rfl | (exfalso; omega)
  by_cases s1_4 : w = 4
  · refine S_tabIn (tgt := 64) (off := 63) qX7_count_1 (by omega) (by omega) (by rw [s1_4]; rfl) (by decide) ?_
    refine S_al0 qX7_count_64 ?_
    refine S_getI qX7_count_65 fX7_120 e83_36 ?_
    refine S_iret hz qX7_count_68 ?_
    refine RM.same hZ ?_
    unfold oCount
    rw [← en0, ← en1, ← en4, ← en6, ← c7, ← c9, ← r1]
    (repeat' split) <;> first | rfl | (exfalso; omega)
  by_cases s1_5 : w = 5
  · refine S_tabIn (tgt := 69) (off := 68) qX7_count_1 (by omega) (by omega) (by rw [s1_5]; rfl) (by decide) ?_
    refine S_al0 qX7_count_69 ?_
    refine S_getI qX7_count_70 fX7_38 e83_9 ?_
    refine S_iret hz qX7_count_73 ?_
    refine RM.same hZ ?_
    unfold oCount
    rw [← en0, ← en1, ← en4, ← en6, ← c7, ← c9, ← r1]
    (repeat' split) <;> first | rfl | (exfalso; omega)
  by_cases s1_6 : w = 6
  · refine S_tabIn (tgt := 74) (off := 73) qX7_count_1 (by omega) (by omega) (by rw [s1_6]; rfl) (by decide) ?_
    refine S_al0 qX7_count_74 ?_
    refine S_getI qX7_count_75 fX7_187 e83_58 ?_
    refine S_iret hz qX7_count_78 ?_
    refine RM.same hZ ?_
    unfold oCount
    rw [← en0, ← en1, ← en4, ← en6, ← c7, ← c9, ← r1]
    (repeat' split) <;> first | rfl | (exfalso; omega)
  refine S_tabOut (tgt := 79) qX7_count_1 (by omega) (by omega) (by decide) ?_
  refine S_bipush (d := qX7_count_79) (k := ?_)
  refine S_iret hz qX7_count_81 ?_
  refine RM.same hZ ?_
  unfold oCount
  rw [← en0, ← en1, ← en4, ← en6, ← c7, ← c9, ← r1]
  (repeat' split) <;> first | rfl | (exfalso; omega)

theorem m_taken {g : GC} {V : MM} {Z : ZT} {d k : Int} (hZ : MA V Z) (rd : -2147483648 ≤ d ∧ d ≤ 2147483647) (rk : -2147483648 ≤ k ∧ k ≤ 2147483647) : Ct g mX7_taken 8 [vr 83, vi d, vi k] V (RM V (oTaken Z d k) Z) := by
  refine Ct.of (ls := [some (vr 83), some (vi d), some (vi k), none]) (plainFor_of_name (by decide +kernel)) rfl (by exact Nat.le_of_ble_eq_true rfl) (fun X hz hD => ?_)
  obtain ⟨M, hI0, hn6, hbb, hwz, hkz⟩ := hZ.pf
  have hT := Tm.rf V
  refine S_al0 qX7_taken_0 ?_
  refine S_il2 qX7_taken_1 ?_
  refine S_iconst qX7_taken_2 ?_
  refine S_bipush (d := qX7_taken_3) (k := ?_)
  refine S_V3B hD qX7_taken_5 lX7_206 vX7_in r83 (m_in (by omega) (by omega) (by omega)) (kt := fun j5 => ?_) (kf := fun j5 => ?_)
  · refine S_if_ne (d := qX7_taken_8) (kt := fun _ => ?_) (kf := fun c => absurd c (by decide))
    refine S_al0 qX7_taken_14 ?_
    refine S_il1 qX7_taken_15 ?_
    refine S_V1B hD qX7_taken_16 lX7_218 vX7_isDancer r83 (m_isDancer M (by omega)) (kt := fun j16 => ?_) (kf := fun j16 => ?_)
    · refine S_if_ne (d := qX7_taken_19) (kt := fun _ => ?_) (kf := fun c => absurd c (by decide))
      refine S_al0 qX7_taken_25 ?_
      refine S_getR qX7_taken_26 fX7_16 e83_2 ?_
      refine S_il1 qX7_taken_29 ?_
      refine S_iald qX7_taken_30 a84 (K := ?_)
      rw [M.w84]
      have hk1 := hI0.2.2.1 d (by omega)
      refine S_is3 qX7_taken_31 (K := ?_)
      refine S_il2 qX7_taken_32 ?_
      refine S_if_eq (d := qX7_taken_33) (kt := fun c33 => ?_) (kf := fun c33 => ?_)
      · refine S_il3 qX7_taken_72 ?_
        refine S_goto qX7_taken_73 ?_
        refine S_iret hz qX7_taken_78 ?_
        refine RM.same hZ ?_
        unfold oTaken
        first
          | (rw [if_pos (by omega)]; done)
          | (rw [if_neg (by omega), if_pos (by omega)]; done)
          | (rw [if_neg (by omega), if_neg (by omega), if_pos (by omega)]; done)
          | (rw [if_neg (by omega), if_neg (by omega), if_neg (by omega)]; done)
      · refine S_il3 qX7_taken_36 ?_
        refine S_il2 qX7_taken_37 ?_
        refine S_icmp_eq (d := qX7_taken_38) (kt := fun c38 => ?_) (kf := fun c38 => ?_)
        · refine S_il3 qX7_taken_72 ?_
          refine S_goto qX7_taken_73 ?_
          refine S_iret hz qX7_taken_78 ?_
          refine RM.same hZ ?_
          unfold oTaken
          first
            | (rw [if_pos (by omega)]; done)
            | (rw [if_neg (by omega), if_pos (by omega)]; done)
            | (rw [if_neg (by omega), if_neg (by omega), if_pos (by omega)]; done)
            | (rw [if_neg (by omega), if_neg (by omega), if_neg (by omega)]; done)
        · refine S_il2 qX7_taken_41 ?_
          refine S_iconst qX7_taken_42 ?_
          refine S_icmp_ne (d := qX7_taken_43) (kt := fun c43 => ?_) (kf := fun c43 => ?_)
          · refine S_il2 qX7_taken_51 ?_
            refine S_iconst qX7_taken_52 ?_
            refine S_icmp_ne (d := qX7_taken_53) (kt := fun c53 => ?_) (kf := fun c53 => ?_)
            · refine S_il2 qX7_taken_61 ?_
              refine S_iconst qX7_taken_62 ?_
              refine S_icmp_ne (d := qX7_taken_63) (kt := fun c63 => ?_) (kf := fun c63 => ?_)
              · refine S_bipush (d := qX7_taken_76) (k := ?_)
                refine S_iret hz qX7_taken_78 ?_
                refine RM.same hZ ?_
                unfold oTaken
                first
                  | (rw [if_pos (by omega)]; done)
                  | (rw [if_neg (by omega), if_pos (by omega)]; done)
                  | (rw [if_neg (by omega), if_neg (by omega), if_pos (by omega)]; done)
                  | (rw [if_neg (by omega), if_neg (by omega), if_neg (by omega)]; done)
              · refine S_il3 qX7_taken_66 ?_
                refine S_bipush (d := qX7_taken_67) (k := ?_)
                refine S_icmp_ne (d := qX7_taken_69) (kt := fun c69 => ?_) (kf := fun c69 => ?_)
                · refine S_bipush (d := qX7_taken_76) (k := ?_)
                  refine S_iret hz qX7_taken_78 ?_
                  refine RM.same hZ ?_
                  unfold oTaken
                  first
                    | (rw [if_pos (by omega)]; done)
                    | (rw [if_neg (by omega), if_pos (by omega)]; done)
                    | (rw [if_neg (by omega), if_neg (by omega), if_pos (by omega)]; done)
                    | (rw [if_neg (by omega), if_neg (by omega), if_neg (by omega)]; done)
                · refine S_il3 qX7_taken_72 ?_
                  refine S_goto qX7_taken_73 ?_
                  refine S_iret hz qX7_taken_78 ?_
                  refine RM.same hZ ?_
                  unfold oTaken
                  first
                    | (rw [if_pos (by omega)]; done)
                    | (rw [if_neg (by omega), if_pos (by omega)]; done)
                    | (rw [if_neg (by omega), if_neg (by omega), if_pos (by omega)]; done)
                    | (rw [if_neg (by omega), if_neg (by omega), if_neg (by omega)]; done)
            · refine S_il3 qX7_taken_56 ?_
              refine S_iconst qX7_taken_57 ?_
              refine S_icmp_eq (d := qX7_taken_58) (kt := fun c58 => ?_) (kf := fun c58 => ?_)
              · refine S_il3 qX7_taken_72 ?_
                refine S_goto qX7_taken_73 ?_
                refine S_iret hz qX7_taken_78 ?_
                refine RM.same hZ ?_
                unfold oTaken
                first
                  | (rw [if_pos (by omega)]; done)
                  | (rw [if_neg (by omega), if_pos (by omega)]; done)
                  | (rw [if_neg (by omega), if_neg (by omega), if_pos (by omega)]; done)
                  | (rw [if_neg (by omega), if_neg (by omega), if_neg (by omega)]; done)
              · refine S_il2 qX7_taken_61 ?_
                refine S_iconst qX7_taken_62 ?_
                refine S_icmp_ne (d := qX7_taken_63) (kt := fun c63 => ?_) (kf := fun c63 => ?_)
                · refine S_bipush (d := qX7_taken_76) (k := ?_)
                  refine S_iret hz qX7_taken_78 ?_
                  refine RM.same hZ ?_
                  unfold oTaken
                  first
                    | (rw [if_pos (by omega)]; done)
                    | (rw [if_neg (by omega), if_pos (by omega)]; done)
                    | (rw [if_neg (by omega), if_neg (by omega), if_pos (by omega)]; done)
                    | (rw [if_neg (by omega), if_neg (by omega), if_neg (by omega)]; done)
                · refine S_il3 qX7_taken_66 ?_
                  refine S_bipush (d := qX7_taken_67) (k := ?_)
                  refine S_icmp_ne (d := qX7_taken_69) (kt := fun c69 => ?_) (kf := fun c69 => ?_)
                  · refine S_bipush (d := qX7_taken_76) (k := ?_)
                    refine S_iret hz qX7_taken_78 ?_
                    refine RM.same hZ ?_
                    unfold oTaken
                    first
                      | (rw [if_pos (by omega)]; done)
                      | (rw [if_neg (by omega), if_pos (by omega)]; done)
                      | (rw [if_neg (by omega), if_neg (by omega), if_pos (by omega)]; done)
                      | (rw [if_neg (by omega), if_neg (by omega), if_neg (by omega)]; done)
                  · refine S_il3 qX7_taken_72 ?_
                    refine S_goto qX7_taken_73 ?_
                    refine S_iret hz qX7_taken_78 ?_
                    refine RM.same hZ ?_
                    unfold oTaken
                    first
                      | (rw [if_pos (by omega)]; done)
                      | (rw [if_neg (by omega), if_pos (by omega)]; done)
                      | (rw [if_neg (by omega), if_neg (by omega), if_pos (by omega)]; done)
                      | (rw [if_neg (by omega), if_neg (by omega), if_neg (by omega)]; done)
          · refine S_il3 qX7_taken_46 ?_
            refine S_iconst qX7_taken_47 ?_
            refine S_icmp_eq (d := qX7_taken_48) (kt := fun c48 => ?_) (kf := fun c48 => ?_)
            · refine S_il3 qX7_taken_72 ?_
              refine S_goto qX7_taken_73 ?_
              refine S_iret hz qX7_taken_78 ?_
              refine RM.same hZ ?_
              unfold oTaken
              first
                | (rw [if_pos (by omega)]; done)
                | (rw [if_neg (by omega), if_pos (by omega)]; done)
                | (rw [if_neg (by omega), if_neg (by omega), if_pos (by omega)]; done)
                | (rw [if_neg (by omega), if_neg (by omega), if_neg (by omega)]; done)
            · refine S_il2 qX7_taken_51 ?_
              refine S_iconst qX7_taken_52 ?_
              refine S_icmp_ne (d := qX7_taken_53) (kt := fun c53 => ?_) (kf := fun c53 => ?_)
              · refine S_il2 qX7_taken_61 ?_
                refine S_iconst qX7_taken_62 ?_
                refine S_icmp_ne (d := qX7_taken_63) (kt := fun c63 => ?_) (kf := fun c63 => ?_)
                · refine S_bipush (d := qX7_taken_76) (k := ?_)
                  refine S_iret hz qX7_taken_78 ?_
                  refine RM.same hZ ?_
                  unfold oTaken
                  first
                    | (rw [if_pos (by omega)]; done)
                    | (rw [if_neg (by omega), if_pos (by omega)]; done)
                    | (rw [if_neg (by omega), if_neg (by omega), if_pos (by omega)]; done)
                    | (rw [if_neg (by omega), if_neg (by omega), if_neg (by omega)]; done)
                · refine S_il3 qX7_taken_66 ?_
                  refine S_bipush (d := qX7_taken_67) (k := ?_)
                  refine S_icmp_ne (d := qX7_taken_69) (kt := fun c69 => ?_) (kf := fun c69 => ?_)
                  · refine S_bipush (d := qX7_taken_76) (k := ?_)
                    refine S_iret hz qX7_taken_78 ?_
                    refine RM.same hZ ?_
                    unfold oTaken
                    first
                      | (rw [if_pos (by omega)]; done)
                      | (rw [if_neg (by omega), if_pos (by omega)]; done)
                      | (rw [if_neg (by omega), if_neg (by omega), if_pos (by omega)]; done)
                      | (rw [if_neg (by omega), if_neg (by omega), if_neg (by omega)]; done)
                  · refine S_il3 qX7_taken_72 ?_
                    refine S_goto qX7_taken_73 ?_
                    refine S_iret hz qX7_taken_78 ?_
                    refine RM.same hZ ?_
                    unfold oTaken
                    first
                      | (rw [if_pos (by omega)]; done)
                      | (rw [if_neg (by omega), if_pos (by omega)]; done)
                      | (rw [if_neg (by omega), if_neg (by omega), if_pos (by omega)]; done)
                      | (rw [if_neg (by omega), if_neg (by omega), if_neg (by omega)]; done)
              · refine S_il3 qX7_taken_56 ?_
                refine S_iconst qX7_taken_57 ?_
                refine S_icmp_eq (d := qX7_taken_58) (kt := fun c58 => ?_) (kf := fun c58 => ?_)
                · refine S_il3 qX7_taken_72 ?_
                  refine S_goto qX7_taken_73 ?_
                  refine S_iret hz qX7_taken_78 ?_
                  refine RM.same hZ ?_
                  unfold oTaken
                  first
                    | (rw [if_pos (by omega)]; done)
                    | (rw [if_neg (by omega), if_pos (by omega)]; done)
                    | (rw [if_neg (by omega), if_neg (by omega), if_pos (by omega)]; done)
                    | (rw [if_neg (by omega), if_neg (by omega), if_neg (by omega)]; done)
                · refine S_il2 qX7_taken_61 ?_
                  refine S_iconst qX7_taken_62 ?_
                  refine S_icmp_ne (d := qX7_taken_63) (kt := fun c63 => ?_) (kf := fun c63 => ?_)
                  · refine S_bipush (d := qX7_taken_76) (k := ?_)
                    refine S_iret hz qX7_taken_78 ?_
                    refine RM.same hZ ?_
                    unfold oTaken
                    first
                      | (rw [if_pos (by omega)]; done)
                      | (rw [if_neg (by omega), if_pos (by omega)]; done)
                      | (rw [if_neg (by omega), if_neg (by omega), if_pos (by omega)]; done)
                      | (rw [if_neg (by omega), if_neg (by omega), if_neg (by omega)]; done)
                  · refine S_il3 qX7_taken_66 ?_
                    refine S_bipush (d := qX7_taken_67) (k := ?_)
                    refine S_icmp_ne (d := qX7_taken_69) (kt := fun c69 => ?_) (kf := fun c69 => ?_)
                    · refine S_bipush (d := qX7_taken_76) (k := ?_)
                      refine S_iret hz qX7_taken_78 ?_
                      refine RM.same hZ ?_
                      unfold oTaken
                      first
                        | (rw [if_pos (by omega)]; done)
                        | (rw [if_neg (by omega), if_pos (by omega)]; done)
                        | (rw [if_neg (by omega), if_neg (by omega), if_pos (by omega)]; done)
                        | (rw [if_neg (by omega), if_neg (by omega), if_neg (by omega)]; done)
                    · refine S_il3 qX7_taken_72 ?_
                      refine S_goto qX7_taken_73 ?_
                      refine S_iret hz qX7_taken_78 ?_
                      refine RM.same hZ ?_
                      unfold oTaken
                      first
                        | (rw [if_pos (by omega)]; done)
                        | (rw [if_neg (by omega), if_pos (by omega)]; done)
                        | (rw [if_neg (by omega), if_neg (by omega), if_pos (by omega)]; done)
                        | (rw [if_neg (by omega), if_neg (by omega), if_neg (by omega)]; done)
    · refine S_if_ne (d := qX7_taken_19) (kt := fun c => absurd c (by decide)) (kf := fun _ => ?_)
      refine S_bipush (d := qX7_taken_22) (k := ?_)
      refine S_iret hz qX7_taken_24 ?_
      refine RM.same hZ ?_
      unfold oTaken
      first
        | (rw [if_pos (by omega)]; done)
        | (rw [if_neg (by omega), if_pos (by omega)]; done)
        | (rw [if_neg (by omega), if_neg (by omega), if_pos (by omega)]; done)
        | (rw [if_neg (by omega), if_neg (by omega), if_neg (by omega)]; done)
  · refine S_if_ne (d := qX7_taken_8) (kt := fun c => absurd c (by decide)) (kf := fun _ => ?_)
    refine S_bipush (d := qX7_taken_11) (k := ?_)
    refine S_iret hz qX7_taken_13 ?_
    refine RM.same hZ ?_
    unfold oTaken
    first
      | (rw [if_pos (by omega)]; done)
      | (rw [if_neg (by omega), if_pos (by omega)]; done)
      | (rw [if_neg (by omega), if_neg (by omega), if_pos (by omega)]; done)
      | (rw [if_neg (by omega), if_neg (by omega), if_neg (by omega)]; done)

theorem mlk_loop {g : GC} {X : CX} {Q : Option AV → MM → Prop} {V : MM} {Z : ZT} {xf : Int} (hZ : MA V Z) (hz : Fi g X (some .int) Q) (hQ : Q (some (vi xf)) V) : ∀ (n : Nat) (i : Int), 0 ≤ i → i + n = Z.2.2.2.2.1.2.2.2.2.2.2.1 → lokS Z.1.2.2.2.2.2.1 Z.2.2.2.2.1.2.2.2.2.2.2.2.1 Z.2.2.2.2.1.2.2.2.2.2.2.2.2 n i = xf → SW g X RX7 cX7_looked 2 [some (vr 83), some (vi i)] [] V := by
  obtain ⟨M, hI0, hn6, hbb, hwz, hkz⟩ := hZ.pf
  have hT := Tm.rf V
  obtain ⟨r1, r2, r3⟩ := hZ.2.2.2.2.2.1
  obtain ⟨hN, hNI⟩ := hZ.2.2.2.1
  have c7 := hZ.2.1.1
  have c9 := hZ.2.2.1.1
  have en1 : V 83 31 = Z.2.2.2.2.1.1 := by rw [← hN]
  have en4 : V 83 35 = Z.2.2.2.2.1.2.2.2.2.1 := by rw [← hN]
  have en6 : V 83 36 = Z.2.2.2.2.1.2.2.2.2.2.2.1 := by rw [← hN]
  have en0 := M.n
  have e8 : V 108 = Z.2.2.2.2.1.2.2.2.2.2.2.2.1 := by rw [← hN]
  have e9 : V 109 = Z.2.2.2.2.1.2.2.2.2.2.2.2.2 := by rw [← hN]
  obtain ⟨-, -, -, -, n5, n6⟩ := hNI
  intro n
  induction n with
  | zero =>
    intro i h0 h1 hx
    unfold lokS at hx
    subst hx
    refine S_il1 qX7_looked_2 ?_
    refine S_al0 qX7_looked_3 ?_
    refine S_getI qX7_looked_4 fX7_120 e83_36 ?_
    refine S_icmp_ge (d := qX7_looked_7) (kt := fun c7 => ?_) (kf := fun c7 => ?_)
    rotate_left
    · omega
    refine S_bipush (d := qX7_looked_41) (k := ?_)
    refine S_iret hz qX7_looked_43 ?_
    exact hQ
  | succ n ih =>
    intro i h0 h1 hx
    unfold lokS at hx
    have w1 := n6 i (by omega)
    have w2 := hI0.2.2.2.2.1 (8 * Z.2.2.2.2.1.2.2.2.2.2.2.2.1 i) (by omega)
    refine S_il1 qX7_looked_2 ?_
    refine S_al0 qX7_looked_3 ?_
    refine S_getI qX7_looked_4 fX7_120 e83_36 ?_
    refine S_icmp_ge (d := qX7_looked_7) (kt := fun c7 => ?_) (kf := fun c7 => ?_)
    · omega
    refine S_al0 qX7_looked_10 ?_
    refine S_getR qX7_looked_11 fX7_29 e83_6 ?_
    refine S_bipush (d := qX7_looked_14) (k := ?_)
    refine S_al0 qX7_looked_16 ?_
    refine S_getR qX7_looked_17 fX7_126 e83_38 ?_
    refine S_il1 qX7_looked_20 ?_
    refine S_iald qX7_looked_21 a108 (K := ?_)
    rw [e8]
    refine S_imul qX7_looked_22 ?_
    refine S_iald qX7_looked_23 a88 (K := ?_)
    rw [M.w88]
    refine S_al0 qX7_looked_24 ?_
    refine S_getR qX7_looked_25 fX7_129 e83_39 ?_
    refine S_il1 qX7_looked_28 ?_
    refine S_iald qX7_looked_29 a109 (K := ?_)
    rw [e9]
    refine S_icmp_eq (d := qX7_looked_30) (kt := fun c30 => ?_) (kf := fun c30 => ?_)
    · refine S_inc1 qX7_looked_35 (K := ?_)
      refine S_goto qX7_looked_38 ?_
      rw [if_pos c30] at hx
      exact ih (i + 1) (by omega) (by omega) hx
    · refine S_il1 qX7_looked_33 ?_
      refine S_iret hz qX7_looked_34 ?_
      rw [if_neg c30] at hx
      subst hx
      exact hQ
theorem m_looked {g : GC} {V : MM} {Z : ZT} (hZ : MA V Z) : Ct g mX7_looked 8 [vr 83] V (RM V (oLooked Z) Z) := by
  refine Ct.of (ls := [some (vr 83), none]) (plainFor_of_name (by decide +kernel)) rfl (by exact Nat.le_of_ble_eq_true rfl) (fun X hz hD => ?_)
  have n5 := hZ.2.2.2.1.2.2.2.2.2.1
  refine S_iconst qX7_looked_0 ?_
  refine S_is1 qX7_looked_1 (K := ?_)
  exact mlk_loop hZ hz (RM.same hZ rfl) Z.2.2.2.2.1.2.2.2.2.2.2.1.toNat 0 (by omega) (by omega) rfl

theorem m_after {g : GC} {V : MM} {Z : ZT} {d o : Int} (hZ : MA V Z) (rd : -2147483648 ≤ d ∧ d ≤ 2147483647) (ro : -2147483648 ≤ o ∧ o ≤ 2147483647) : Ct g mX7_after 8 [vr 83, vi d, vi o] V (RM V (nAfter Z d o).1 (nAfter Z d o).2) := by
  refine Ct.of (ls := [some (vr 83), some (vi d), some (vi o), none]) (plainFor_of_name (by decide +kernel)) rfl (by exact Nat.le_of_ble_eq_true rfl) (fun X hz hD => ?_)
  obtain ⟨M, hI0, hn6, hbb, hwz, hkz⟩ := hZ.pf
  have hT := Tm.rf V
  refine S_al0 qX7_after_0 ?_
  refine S_il1 qX7_after_1 ?_
  refine S_V1B hD qX7_after_2 lX7_218 vX7_isDancer r83 (m_isDancer M (by omega)) (kt := fun j2 => ?_) (kf := fun j2 => ?_)
  · refine S_if_eq (d := qX7_after_5) (kt := fun c => absurd c (by decide)) (kf := fun _ => ?_)
    refine S_al0 qX7_after_8 ?_
    refine S_il2 qX7_after_9 ?_
    refine S_V1B hD qX7_after_10 lX7_218 vX7_isDancer r83 (m_isDancer M (by omega)) (kt := fun j10 => ?_) (kf := fun j10 => ?_)
    · refine S_if_ne (d := qX7_after_13) (kt := fun _ => ?_) (kf := fun c => absurd c (by decide))
      refine S_al0 qX7_after_18 ?_
      refine S_getR qX7_after_19 fX7_23 e83_4 ?_
      refine S_il1 qX7_after_22 ?_
      refine S_iald qX7_after_23 a86 (K := ?_)
      rw [M.w86]
      refine S_is3 qX7_after_24 (K := ?_)
      refine S_al0 qX7_after_25 ?_
      refine S_getR qX7_after_26 fX7_23 e83_4 ?_
      refine S_il1 qX7_after_29 ?_
      refine S_il2 qX7_after_30 ?_
      refine S_iast qX7_after_31 a86 (K := ?_)
      refine S_il3 qX7_after_32 ?_
      refine S_iret hz qX7_after_33 ?_
      have q86 := fol_ft (d := d) (o := o) M (by omega) (by omega)
      refine RM.to (hZ.tm q86.2 q86.1 hbb.2 (Int.le_refl _)) q86.2.lo ?_
      unfold nAfter
      rw [if_neg (by omega)]
    · refine S_if_ne (d := qX7_after_13) (kt := fun c => absurd c (by decide)) (kf := fun _ => ?_)
      refine S_iconst qX7_after_16 ?_
      refine S_iret hz qX7_after_17 ?_
      refine RM.eq hZ ?_
      unfold nAfter
      first | (rw [if_pos (by omega)]; done) | (rw [if_neg (by omega), if_pos (by omega)]; done) | (rw [if_neg (by omega), if_neg (by omega), if_pos (by omega)]; done) | (rw [if_neg (by omega), if_neg (by omega), if_neg (by omega), if_pos (by omega)]; done)
  · refine S_if_eq (d := qX7_after_5) (kt := fun _ => ?_) (kf := fun c => absurd c (by decide))
    refine S_iconst qX7_after_16 ?_
    refine S_iret hz qX7_after_17 ?_
    refine RM.eq hZ ?_
    unfold nAfter
    first | (rw [if_pos (by omega)]; done) | (rw [if_neg (by omega), if_pos (by omega)]; done) | (rw [if_neg (by omega), if_neg (by omega), if_pos (by omega)]; done) | (rw [if_neg (by omega), if_neg (by omega), if_neg (by omega), if_pos (by omega)]; done)

theorem m_begin {g : GC} {V : MM} {Z : ZT} {d p : Int} (hZ : MA V Z) (rd : -2147483648 ≤ d ∧ d ≤ 2147483647) (rp : -2147483648 ≤ p ∧ p ≤ 2147483647) : Ct g mX7_begin 8 [vr 83, vi d, vi p] V (RM V (nBegin Z d p).1 (nBegin Z d p).2) := by
  refine Ct.of (ls := [some (vr 83), some (vi d), some (vi p), none]) (plainFor_of_name (by decide +kernel)) rfl (by exact Nat.le_of_ble_eq_true rfl) (fun X hz hD => ?_)
  obtain ⟨M, hI0, hn6, hbb, hwz, hkz⟩ := hZ.pf
  have hT := Tm.rf V
  refine S_al0 qX7_begin_0 ?_
  refine S_il1 qX7_begin_1 ?_
  refine S_V1B hD qX7_begin_2 lX7_218 vX7_isDancer r83 (m_isDancer M (by omega)) (kt := fun j2 => ?_) (kf := fun j2 => ?_)
  · refine S_if_ne (d := qX7_begin_5) (kt := fun _ => ?_) (kf := fun c => absurd c (by decide))
    refine S_al0 qX7_begin_10 ?_
    refine S_il2 qX7_begin_11 ?_
    refine S_iconst qX7_begin_12 ?_
    refine S_al0 qX7_begin_13 ?_
    refine S_V0E hD qX7_begin_14 lX7_210 vX7_wide r83 (m_wide M) (K := ?_)
    refine S_iconst qX7_begin_17 ?_
    refine S_isub qX7_begin_18 ?_
    refine S_V3B hD qX7_begin_19 lX7_206 vX7_in r83 (m_in (by omega) (by omega) (by omega)) (kt := fun j19 => ?_) (kf := fun j19 => ?_)
    · refine S_if_ne (d := qX7_begin_22) (kt := fun _ => ?_) (kf := fun c => absurd c (by decide))
      refine S_al0 qX7_begin_28 ?_
      refine S_getR qX7_begin_29 fX7_29 e83_6 ?_
      refine S_bipush (d := qX7_begin_32) (k := ?_)
      refine S_il1 qX7_begin_34 ?_
      refine S_imul qX7_begin_35 ?_
      refine S_iald qX7_begin_36 a88 (K := ?_)
      rw [M.w88]
      refine S_is3 qX7_begin_37 (K := ?_)
      refine S_al0 qX7_begin_38 ?_
      refine S_il1 qX7_begin_39 ?_
      refine S_il2 qX7_begin_40 ?_
      refine S_V2W hD qX7_begin_41 lX7_214 vX7_laysAll r83 (m_laysAll (by omega)) (K := ?_)
      refine S_il3 qX7_begin_44 ?_
      refine S_iret hz qX7_begin_45 ?_
      have q88 := lay_ft (d := d) (p := p) M (by omega)
      refine RM.to (hZ.tm q88.2 q88.1 hbb.2 (Int.le_refl _)) q88.2.lo ?_
      unfold nBegin
      rw [if_neg (by omega), if_neg (by omega)]
    · refine S_if_ne (d := qX7_begin_22) (kt := fun c => absurd c (by decide)) (kf := fun _ => ?_)
      refine S_bipush (d := qX7_begin_25) (k := ?_)
      refine S_iret hz qX7_begin_27 ?_
      refine RM.eq hZ ?_
      unfold nBegin
      first | (rw [if_pos (by omega)]; done) | (rw [if_neg (by omega), if_pos (by omega)]; done) | (rw [if_neg (by omega), if_neg (by omega), if_pos (by omega)]; done) | (rw [if_neg (by omega), if_neg (by omega), if_neg (by omega), if_pos (by omega)]; done)
  · refine S_if_ne (d := qX7_begin_5) (kt := fun c => absurd c (by decide)) (kf := fun _ => ?_)
    refine S_iconst qX7_begin_8 ?_
    refine S_iret hz qX7_begin_9 ?_
    refine RM.eq hZ ?_
    unfold nBegin
    first | (rw [if_pos (by omega)]; done) | (rw [if_neg (by omega), if_pos (by omega)]; done) | (rw [if_neg (by omega), if_neg (by omega), if_pos (by omega)]; done) | (rw [if_neg (by omega), if_neg (by omega), if_neg (by omega), if_pos (by omega)]; done)

theorem m_row {g : GC} {V : MM} {Z : ZT} {d part n : Int} (hZ : MA V Z) (rd : -2147483648 ≤ d ∧ d ≤ 2147483647) (rpart : -2147483648 ≤ part ∧ part ≤ 2147483647) (rn : -2147483648 ≤ n ∧ n ≤ 2147483647) : Ct g mX7_row 8 [vr 83, vi d, vi part, vi n] V (RM V (nRow Z d part n).1 (nRow Z d part n).2) := by
  refine Ct.of (ls := [some (vr 83), some (vi d), some (vi part), some (vi n), none]) (plainFor_of_name (by decide +kernel)) rfl (by exact Nat.le_of_ble_eq_true rfl) (fun X hz hD => ?_)
  obtain ⟨M, hI0, hn6, hbb, hwz, hkz⟩ := hZ.pf
  have hT := Tm.rf V
  refine S_al0 qX7_row_0 ?_
  refine S_il1 qX7_row_1 ?_
  refine S_V1B hD qX7_row_2 lX7_218 vX7_isDancer r83 (m_isDancer M (by omega)) (kt := fun j2 => ?_) (kf := fun j2 => ?_)
  · refine S_if_eq (d := qX7_row_5) (kt := fun c => absurd c (by decide)) (kf := fun _ => ?_)
    refine S_al0 qX7_row_8 ?_
    refine S_il2 qX7_row_9 ?_
    refine S_iconst qX7_row_10 ?_
    refine S_iconst qX7_row_11 ?_
    refine S_V3B hD qX7_row_12 lX7_206 vX7_in r83 (m_in (by omega) (by omega) (by omega)) (kt := fun j12 => ?_) (kf := fun j12 => ?_)
    · refine S_if_ne (d := qX7_row_15) (kt := fun _ => ?_) (kf := fun c => absurd c (by decide))
      refine S_al0 qX7_row_20 ?_
      refine S_il3 qX7_row_21 ?_
      refine S_iconst qX7_row_22 ?_
      refine S_bipush (d := qX7_row_23) (k := ?_)
      refine S_V3B hD qX7_row_25 lX7_206 vX7_in r83 (m_in (by omega) (by omega) (by omega)) (kt := fun j25 => ?_) (kf := fun j25 => ?_)
      · refine S_if_ne (d := qX7_row_28) (kt := fun _ => ?_) (kf := fun c => absurd c (by decide))
        refine S_al0 qX7_row_34 ?_
        have hk1 := hI0.2.2.1 d (by omega)
        refine S_getR qX7_row_35 fX7_16 e83_2 ?_
        refine S_il1 qX7_row_38 ?_
        refine S_iald qX7_row_39 a84 (K := ?_)
        rw [M.w84]
        refine S_bipush (d := qX7_row_40) (k := ?_)
        refine S_icmp_eq (d := qX7_row_42) (kt := fun c42 => ?_) (kf := fun c42 => ?_)
        · refine S_al0 qX7_row_48 ?_
          refine S_getR qX7_row_49 fX7_26 e83_5 ?_
          refine S_iconst qX7_row_52 ?_
          refine S_il1 qX7_row_53 ?_
          refine S_imul qX7_row_54 ?_
          refine S_il2 qX7_row_55 ?_
          refine S_iadd qX7_row_56 ?_
          refine S_iald qX7_row_57 a87 (K := ?_)
          rw [M.w87]
          refine S_is4 qX7_row_58 (K := ?_)
          refine S_al0 qX7_row_60 ?_
          refine S_getR qX7_row_61 fX7_26 e83_5 ?_
          refine S_iconst qX7_row_64 ?_
          refine S_il1 qX7_row_65 ?_
          refine S_imul qX7_row_66 ?_
          refine S_il2 qX7_row_67 ?_
          refine S_iadd qX7_row_68 ?_
          refine S_il3 qX7_row_69 ?_
          refine S_iast qX7_row_70 a87 (K := ?_)
          refine S_il4 qX7_row_71 ?_
          refine S_iret hz qX7_row_73 ?_
          refine RM.to (hZ.fs (V' := upR V 87 (ur (V 87) (4 * d + part) n)) (s' := rowF Z.1 (4 * d + part) n) (fun k a => upR_n _ (by omega)) (fun j a => by rw [upR_n _ (by omega)]) ?_ ?_ hbb.2 (Int.le_refl _)) (fun k a => upR_n _ (by omega)) ?_
          · have e := M.1
            show rowF Z.1 (4 * d + part) n = (upR V 87 (ur (V 87) (4 * d + part) n) 83 0, upR V 87 (ur (V 87) (4 * d + part) n) 83 1, upR V 87 (ur (V 87) (4 * d + part) n) 84, upR V 87 (ur (V 87) (4 * d + part) n) 85, upR V 87 (ur (V 87) (4 * d + part) n) 86, upR V 87 (ur (V 87) (4 * d + part) n) 88, upR V 87 (ur (V 87) (4 * d + part) n) 87)
            rw [upR_s, upR_n _ (by omega), upR_n _ (by omega), upR_n _ (by omega), upR_n _ (by omega), upR_n _ (by omega), e]
            rfl
          · obtain ⟨f1, f2, f3, f4, f5, f6⟩ := hI0
            refine ⟨f1, f2, f3, f4, f5, fun i hi => ?_⟩
            have := f6 i hi
            show 0 ≤ ur Z.1.2.2.2.2.2.2 (4 * d + part) n i ∧ ur Z.1.2.2.2.2.2.2 (4 * d + part) n i ≤ 9
            unfold ur
            split <;> omega
          · unfold nRow
            rw [if_neg (by omega), if_neg (by omega), if_neg (by omega)]
        · refine S_bipush (d := qX7_row_45) (k := ?_)
          refine S_iret hz qX7_row_47 ?_
          refine RM.eq hZ ?_
          unfold nRow
          first | (rw [if_pos (by omega)]; done) | (rw [if_neg (by omega), if_pos (by omega)]; done) | (rw [if_neg (by omega), if_neg (by omega), if_pos (by omega)]; done) | (rw [if_neg (by omega), if_neg (by omega), if_neg (by omega), if_pos (by omega)]; done)
      · refine S_if_ne (d := qX7_row_28) (kt := fun c => absurd c (by decide)) (kf := fun _ => ?_)
        refine S_bipush (d := qX7_row_31) (k := ?_)
        refine S_iret hz qX7_row_33 ?_
        refine RM.eq hZ ?_
        unfold nRow
        first | (rw [if_pos (by omega)]; done) | (rw [if_neg (by omega), if_pos (by omega)]; done) | (rw [if_neg (by omega), if_neg (by omega), if_pos (by omega)]; done) | (rw [if_neg (by omega), if_neg (by omega), if_neg (by omega), if_pos (by omega)]; done)
    · refine S_if_ne (d := qX7_row_15) (kt := fun c => absurd c (by decide)) (kf := fun _ => ?_)
      refine S_iconst qX7_row_18 ?_
      refine S_iret hz qX7_row_19 ?_
      refine RM.eq hZ ?_
      unfold nRow
      first | (rw [if_pos (by omega)]; done) | (rw [if_neg (by omega), if_pos (by omega)]; done) | (rw [if_neg (by omega), if_neg (by omega), if_pos (by omega)]; done) | (rw [if_neg (by omega), if_neg (by omega), if_neg (by omega), if_pos (by omega)]; done)
  · refine S_if_eq (d := qX7_row_5) (kt := fun _ => ?_) (kf := fun c => absurd c (by decide))
    refine S_iconst qX7_row_18 ?_
    refine S_iret hz qX7_row_19 ?_
    refine RM.eq hZ ?_
    unfold nRow
    first | (rw [if_pos (by omega)]; done) | (rw [if_neg (by omega), if_pos (by omega)]; done) | (rw [if_neg (by omega), if_neg (by omega), if_pos (by omega)]; done) | (rw [if_neg (by omega), if_neg (by omega), if_neg (by omega), if_pos (by omega)]; done)

theorem mps_loop {g : GC} {X : CX} {Q : Option AV → MM → Prop} {V : MM} {Z : ZT} {m : Int} {sf : FS} (rm : 0 ≤ m ∧ m ≤ 60) (hz : Fi g X (some .int) Q) (hD : Dp X 8) (hQ : ∀ V', Tm V V' → FM V' Z.2.1 sf → Q (some (vi sf.2.1)) V') : ∀ (n : Nat) (i : Int) (V1 : MM) (s1 : FS), 0 ≤ i → i + n = m → Tm V V1 → FM V1 Z.2.1 s1 → goN Z.2.1 n s1 = sf → s1.2.1 + n ≤ 20000 → SW g X RX7 cX7_pass 28 [some (vr 83), some (vi m), some (vi i)] [] V1 := by
  intro n
  induction n with
  | zero =>
    intro i V1 s1 h0 h1 hT M hx hb
    unfold goN at hx
    subst hx
    refine S_il2 qX7_pass_28 ?_
    refine S_il1 qX7_pass_29 ?_
    refine S_icmp_ge (d := qX7_pass_30) (kt := fun c30 => ?_) (kf := fun c30 => ?_)
    rotate_left
    · omega
    refine S_al0 qX7_pass_43 ?_
    refine S_getI qX7_pass_44 fX7_13 e83_1 ?_
    rw [M.b]
    refine S_iret hz qX7_pass_47 ?_
    exact hQ _ hT M
  | succ n ih =>
    intro i V1 s1 h0 h1 hT M hx hb
    unfold goN at hx
    refine S_il2 qX7_pass_28 ?_
    refine S_il1 qX7_pass_29 ?_
    refine S_icmp_ge (d := qX7_pass_30) (kt := fun c30 => ?_) (kf := fun c30 => ?_)
    · omega
    refine S_al0 qX7_pass_33 ?_
    refine S_V0V hD qX7_pass_34 lX7_306 vX7_go r83 (m_go M (by omega)) (kk := fun V34 h34 => ?_)
    obtain ⟨M, hT34, -⟩ := h34
    have hT := hT.tr hT34
    refine S_inc2 qX7_pass_37 (K := ?_)
    refine S_goto qX7_pass_40 ?_
    exact ih (i + 1) _ _ (by omega) (by omega) hT M hx (by show s1.2.1 + 1 + (n : Int) ≤ 20000; omega)
theorem m_pass {g : GC} {V : MM} {Z : ZT} {m : Int} (hZ : MA V Z) (rm : -2147483648 ≤ m ∧ m ≤ 2147483647) : Ct g mX7_pass 8 [vr 83, vi m] V (RM V (nPass Z m).1 (nPass Z m).2) := by
  refine Ct.of (ls := [some (vr 83), some (vi m), none]) (plainFor_of_name (by decide +kernel)) rfl (by exact Nat.le_of_ble_eq_true rfl) (fun X hz hD => ?_)
  obtain ⟨M, hI0, hn6, hbb, hwz, hkz⟩ := hZ.pf
  have hT := Tm.rf V
  refine S_al0 qX7_pass_0 ?_
  refine S_il1 qX7_pass_1 ?_
  refine S_V1B hD qX7_pass_2 lX7_303 vX7_isBeats r83 (m_isBeats (by omega)) (kt := fun j2 => ?_) (kf := fun j2 => ?_)
  · refine S_if_ne (d := qX7_pass_5) (kt := fun _ => ?_) (kf := fun c => absurd c (by decide))
    refine S_al0 qX7_pass_11 ?_
    refine S_getI qX7_pass_12 fX7_13 e83_1 ?_
    rw [M.b]
    refine S_il1 qX7_pass_15 ?_
    refine S_iadd qX7_pass_16 ?_
    refine S_sipush (d := qX7_pass_17) (k := ?_)
    refine S_icmp_le (d := qX7_pass_20) (kt := fun c20 => ?_) (kf := fun c20 => ?_)
    · refine S_iconst qX7_pass_26 ?_
      refine S_is2 qX7_pass_27 (K := ?_)
      have hgn := goN_n Z.2.1 m.toNat Z.1
      refine mps_loop (sf := goN Z.2.1 m.toNat Z.1) (by omega) hz hD (fun V' a b => RM.to (hZ.tm a b (by omega) (by omega)) a.lo ?_) m.toNat 0 _ _ (by omega) (by omega) hT M rfl (by omega)
      unfold nPass
      rw [if_neg (by omega), if_neg (by omega)]
      rw [hgn.2, Int.toNat_of_nonneg (by omega)]
    · refine S_bipush (d := qX7_pass_23) (k := ?_)
      refine S_iret hz qX7_pass_25 ?_
      refine RM.eq hZ ?_
      unfold nPass
      first | (rw [if_pos (by omega)]; done) | (rw [if_neg (by omega), if_pos (by omega)]; done) | (rw [if_neg (by omega), if_neg (by omega), if_pos (by omega)]; done) | (rw [if_neg (by omega), if_neg (by omega), if_neg (by omega), if_pos (by omega)]; done)
  · refine S_if_ne (d := qX7_pass_5) (kt := fun c => absurd c (by decide)) (kf := fun _ => ?_)
    refine S_bipush (d := qX7_pass_8) (k := ?_)
    refine S_iret hz qX7_pass_10 ?_
    refine RM.eq hZ ?_
    unfold nPass
    first | (rw [if_pos (by omega)]; done) | (rw [if_neg (by omega), if_pos (by omega)]; done) | (rw [if_neg (by omega), if_neg (by omega), if_pos (by omega)]; done) | (rw [if_neg (by omega), if_neg (by omega), if_neg (by omega), if_pos (by omega)]; done)
