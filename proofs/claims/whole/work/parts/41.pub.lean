/-- nothing but the trial floor and what is counted has changed -/
def Tl (V V' : MM) : Prop := ∀ k : Nat, k ≠ 3 → k < 15 ∨ 22 ≤ k → V' k = V k
theorem Tl.rf (V : MM) : Tl V V := fun _ _ _ => rfl
theorem Tl.tr {V V1 V2 : MM} (h : Tl V V1) (h2 : Tl V1 V2) : Tl V V2 := fun k a b => (h2 k a b).trans (h k a b)
theorem Tl.of {V V1 : MM} {w : Nat} (h : Sm V V1 15 w) (hw : w ≤ 7) : Tl V V1 := fun k _ b => h k (by omega)
/-- the same from place 83 on: the other's places -/
def Hi (V V' : MM) : Prop := ∀ k : Nat, 83 ≤ k → V' k = V k
def RZ (V : MM) (x : Int) (Z' : ZT) : Option AV → MM → Prop := fun r V' => r = some (vi x) ∧ CA V' Z' ∧ Hi V V'
def RZL (V : MM) (x : Int) (Z' : ZT) : Option AV → MM → Prop := fun r V' => r = some (vl x) ∧ CA V' Z' ∧ Hi V V'
theorem RZ.same {V : MM} {Z : ZT} {x y : Int} (hZ : CA V Z) (e : x = y) : RZ V y Z (some (vi x)) V := ⟨by rw [e], hZ, fun _ _ => rfl⟩
theorem RZL.same {V : MM} {Z : ZT} {x y : Int} (hZ : CA V Z) (e : x = y) : RZL V y Z (some (vl x)) V := ⟨by rw [e], hZ, fun _ _ => rfl⟩
theorem Tl.ca {V V' : MM} {Z : ZT} (h : Tl V V') (hZ : CA V Z) : CA V' Z := hZ.cong (fun k _ h3 h4 => h k h3 h4)
theorem Tl.hi {V V' : MM} (h : Tl V V') : Hi V V' := fun k hk => h k (by omega) (by omega)
theorem RZ.tl {V V' : MM} {Z : ZT} {x y : Int} (hZ : CA V Z) (h : Tl V V') (e : x = y) : RZ V y Z (some (vi x)) V' := ⟨by rw [e], h.ca hZ, h.hi⟩
theorem RZL.tl {V V' : MM} {Z : ZT} {x y : Int} (hZ : CA V Z) (h : Tl V V') (e : x = y) : RZL V y Z (some (vl x)) V' := ⟨by rw [e], h.ca hZ, h.hi⟩
/-- what is known of the floor that stands -/
theorem CA.fl {V : MM} {Z : ZT} (hZ : CA V Z) : FlC V 8 Z.2.1 Z.1 ∧ Z.1 = fsC V 8 ∧ Z.1.1 = V 8 0 ∧ Z.1.2.1 = V 8 1 ∧ (0 ≤ V 8 0 ∧ V 8 0 ≤ 6) ∧ (0 ≤ V 8 1 ∧ V 8 1 ≤ 9999) ∧ (∀ d, 0 ≤ d ∧ d < 6 → (0 ≤ V (8 + 1) d ∧ V (8 + 1) d ≤ 6) ∧ (0 ≤ V (8 + 2) d ∧ V (8 + 2) d ≤ 9)) ∧ (∀ d, 0 ≤ d ∧ d < V 8 0 → 0 ≤ V (8 + 3) d ∧ V (8 + 3) d < V 8 0) ∧ (∀ i, 0 ≤ i ∧ i < 48 → (0 ≤ V (8 + 4) i ∧ V (8 + 4) i < Z.2.1.1) ∧ V (8 + 4) i < 99) ∧ (∀ i, 0 ≤ i ∧ i < 24 → 0 ≤ V (8 + 5) i ∧ V (8 + 5) i ≤ 9) ∧ HInv V (V 8 2).toNat ∧ isH (V 8 2).toNat ∧ 0 ≤ V 8 2 ∧ Z.2.1 = (V (V 8 2).toNat 0, V (V 8 2).toNat 1, stepC V (V 8 2).toNat) ∧ (1 ≤ V (V 8 2).toNat 0 ∧ V (V 8 2).toNat 0 ≤ 99) ∧ (0 ≤ V (V 8 2).toNat 1 ∧ V (V 8 2).toNat 1 ≤ 99) ∧ (1 ≤ Z.2.1.1 ∧ Z.2.1.1 ≤ 99) := by
  have hF := hZ.1.1
  have hb9 := hZ.1.2.1
  have hw := hF.w99
  obtain ⟨hf, hs, hn, hb, hkv, hfo, hwa, hro, hH, h0, he⟩ := hF.facts
  have e2 : Z.1.2.1 = V 8 1 := by rw [hs]
  have e3 : Z.2.1.1 = V (V 8 2).toNat 0 := by rw [he]
  have e4 : Z.2.1.2.1 = V (V 8 2).toNat 1 := by rw [he]
  refine ⟨hF, hs, by rw [hs], e2, hn, ⟨hb.1, by omega⟩, hkv, hfo, fun i hi => ?_, hro, hH, hH.1, h0, he, by omega, by omega, hw.1⟩
  have := hwa i hi
  omega

def oOf (Z : ZT) (d w : Int) : Int :=
  if d < 0 ∨ Z.1.1 ≤ d then -1001 else if w = 0 then Z.1.2.2.1 d else if w = 1 then Z.1.2.2.2.1 d else if w = 2 then Z.1.2.2.2.2.1 d
  else if w = 3 then Z.2.1.2.2 Z.1 d else if w = 4 then goesS Z.2.1 Z.1 d else if w < 10 ∨ 18 ≤ w then -1001 else Z.1.2.2.2.2.2.1 (8 * d + (w - 10))
def oTold (Z : ZT) (w : Int) : Int := if w = 0 then Z.1.2.1 else if w = 1 then Z.2.1.1 else if w = 2 then Z.2.1.2.1 else if w = 3 then manF Z.1 else -1
def oLooked (Z : ZT) : Int := lokS Z.1.2.2.2.2.2.1 Z.2.2.2.2.1.2.2.2.2.2.2.2.1 Z.2.2.2.2.1.2.2.2.2.2.2.2.2 Z.2.2.2.2.1.2.2.2.2.2.2.1.toNat 0
def oTrace (Z : ZT) (i : Int) : Int := if 0 ≤ i ∧ i < 20 ∧ i < Z.2.2.2.2.2.2.1.1 then Z.2.2.2.2.2.2.1.2 i else -1
def oCount (Z : ZT) (w : Int) : Int := if w = 0 then Z.1.1 else if w = 1 then Z.2.2.1 else if w = 2 then Z.2.2.2.2.1.1 else if w = 3 then Z.2.2.2.2.1.2.2.2.2.1 else if w = 4 then Z.2.2.2.2.1.2.2.2.2.2.2.1 else if w = 5 then Z.2.2.2.1.1 else if w = 6 then Z.2.2.2.2.2.2.1.1 else -2

theorem c_of {g : GC} {V : MM} {Z : ZT} {d w : Int} (hZ : CA V Z) (rd : -2147483648 ≤ d ∧ d ≤ 2147483647) (rw : -2147483648 ≤ w ∧ w ≤ 2147483647) : Ct g mX6_of 7 [vr 0, vi d, vi w] V (RZ V (oOf Z d w) Z) := by
  refine Ct.of (ls := [some (vr 0), some (vi d), some (vi w)]) (plainFor_of_name (by decide +kernel)) rfl (by exact Nat.le_of_ble_eq_true rfl) (fun X hz hD => ?_)
  obtain ⟨hF, es, e1, e2, hn, hb, hkv, hfo, hwa, hro, hH, hh, h0, eh, hw, hk, hwz⟩ := hZ.fl
  refine S_al0 qX6_of_0 ?_
  refine S_getR qX6_of_1 fX6_17 e0_0 ?_
  refine S_il1 qX6_of_4 ?_
  refine S_V1B hD qX6_of_5 lX6_80 vX2_has (F_r F8) (c_has F8 (by omega) (by omega)) (kt := fun j5 => ?_) (kf := fun j5 => ?_)
  · refine S_if_ne (d := qX6_of_8) (kt := fun _ => ?_) (kf := fun c => absurd c (by decide))
    refine S_il2 qX6_of_15 ?_
    by_cases s16_0 : w = 0
    · refine S_tabIn (tgt := 52) (off := 36) qX6_of_16 (by omega) (by omega) (by rw [s16_0]; rfl) (by decide) ?_
      refine S_al0 qX6_of_52 ?_
      refine S_getR qX6_of_53 fX6_17 e0_0 ?_
      refine S_getR qX6_of_56 fX6_83 (F_3 F8) ?_
      refine S_il1 qX6_of_59 ?_
      refine S_iald qX6_of_60 (Fa_1 F8) (K := ?_)
      refine S_iret hz qX6_of_61 ?_
      refine RZ.same hZ ?_
      simp only [oOf, es, fsC]
      (repeat' split) <;> first | rfl | (congr 1; omega) | (exfalso; omega)
    by_cases s16_1 : w = 1
    · refine S_tabIn (tgt := 62) (off := 46) qX6_of_16 (by omega) (by omega) (by rw [s16_1]; rfl) (by decide) ?_
      refine S_al0 qX6_of_62 ?_
      refine S_getR qX6_of_63 fX6_17 e0_0 ?_
      refine S_getR qX6_of_66 fX6_86 (F_4 F8) ?_
      refine S_il1 qX6_of_69 ?_
      refine S_iald qX6_of_70 (Fa_2 F8) (K := ?_)
      refine S_iret hz qX6_of_71 ?_
      refine RZ.same hZ ?_
      simp only [oOf, es, fsC]
      (repeat' split) <;> first | rfl | (congr 1; omega) | (exfalso; omega)
    by_cases s16_2 : w = 2
    · refine S_tabIn (tgt := 72) (off := 56) qX6_of_16 (by omega) (by omega) (by rw [s16_2]; rfl) (by decide) ?_
      refine S_al0 qX6_of_72 ?_
      refine S_getR qX6_of_73 fX6_17 e0_0 ?_
      refine S_getR qX6_of_76 fX6_89 (F_5 F8) ?_
      refine S_il1 qX6_of_79 ?_
      refine S_iald qX6_of_80 (Fa_3 F8) (K := ?_)
      refine S_iret hz qX6_of_81 ?_
      refine RZ.same hZ ?_
      simp only [oOf, es, fsC]
      (repeat' split) <;> first | rfl | (congr 1; omega) | (exfalso; omega)
    by_cases s16_3 : w = 3
    · refine S_tabIn (tgt := 82) (off := 66) qX6_of_16 (by omega) (by omega) (by rw [s16_3]; rfl) (by decide) ?_
      refine S_al0 qX6_of_82 ?_
      refine S_getR qX6_of_83 fX6_17 e0_0 ?_
      refine S_getH qX6_of_86 fX6_92 (F_2 F8) ?_
      refine S_al0 qX6_of_89 ?_
      refine S_getR qX6_of_90 fX6_17 e0_0 ?_
      refine S_il1 qX6_of_93 ?_
      have re : ∀ l, 0 ≤ envS (fsC V 8) d l ∧ envS (fsC V 8) d l ≤ 99 := fun l => env_rg l (by have := hF.2.2.2.2; rw [es] at this; exact this) (by omega) (by show 0 ≤ d ∧ d < V 8 0; omega)
      refine S_V2E hD qX6_of_94 lX6_96 vX3_stepFor (H_r hh) (c_stepFor F8 hH (by omega) (by omega) re) (K := ?_)
      refine S_iret hz qX6_of_97 ?_
      refine RZ.same hZ ?_
      unfold oOf
      rw [if_neg (by omega), if_neg (by omega), if_neg (by omega), if_neg (by omega), if_pos (by omega), eh, es]
    by_cases s16_4 : w = 4
    · refine S_tabIn (tgt := 98) (off := 82) qX6_of_16 (by omega) (by omega) (by rw [s16_4]; rfl) (by decide) ?_
      refine S_al0 qX6_of_98 ?_
      refine S_getR qX6_of_99 fX6_17 e0_0 ?_
      refine S_il1 qX6_of_102 ?_
      refine S_V1E hD qX6_of_103 lX6_100 vX2_goesOf (F_r F8) (c_goesOf hF (by omega)) (K := ?_)
      refine S_iret hz qX6_of_106 ?_
      refine RZ.same hZ ?_
      unfold oOf
      rw [if_neg (by omega), if_neg (by omega), if_neg (by omega), if_neg (by omega), if_neg (by omega), if_pos (by omega)]
    refine S_tabOut (tgt := 107) qX6_of_16 (by omega) (by omega) (by decide) ?_
    refine S_il2 qX6_of_107 ?_
    refine S_bipush (d := qX6_of_108) (k := ?_)
    refine S_icmp_lt (d := qX6_of_110) (kt := fun c110 => ?_) (kf := fun c110 => ?_)
    · refine S_sipush (d := qX6_of_119) (k := ?_)
      refine S_iret hz qX6_of_122 ?_
      refine RZ.same hZ ?_
      simp only [oOf, es, fsC]
      (repeat' split) <;> first | rfl | (congr 1; omega) | (exfalso; omega)
    · refine S_il2 qX6_of_113 ?_
      refine S_bipush (d := qX6_of_114) (k := ?_)
      refine S_icmp_lt (d := qX6_of_116) (kt := fun c116 => ?_) (kf := fun c116 => ?_)
      · refine S_al0 qX6_of_123 ?_
        refine S_getR qX6_of_124 fX6_17 e0_0 ?_
        refine S_il1 qX6_of_127 ?_
        refine S_il2 qX6_of_128 ?_
        refine S_bipush (d := qX6_of_129) (k := ?_)
        refine S_isub qX6_of_131 ?_
        refine S_V2E hD qX6_of_132 lX6_104 vX2_wasOf (F_r F8) (c_wasOf F8 (by omega) (by omega) (by omega)) (K := ?_)
        refine S_iret hz qX6_of_135 ?_
        refine RZ.same hZ ?_
        simp only [oOf, es, fsC]
        (repeat' split) <;> first | rfl | (congr 1; omega) | (exfalso; omega)
      · refine S_sipush (d := qX6_of_119) (k := ?_)
        refine S_iret hz qX6_of_122 ?_
        refine RZ.same hZ ?_
        simp only [oOf, es, fsC]
        (repeat' split) <;> first | rfl | (congr 1; omega) | (exfalso; omega)
  · refine S_if_ne (d := qX6_of_8) (kt := fun c => absurd c (by decide)) (kf := fun _ => ?_)
    refine S_sipush (d := qX6_of_11) (k := ?_)
    refine S_iret hz qX6_of_14 ?_
    refine RZ.same hZ ?_
    simp only [oOf, es, fsC]
    (repeat' split) <;> first | rfl | (congr 1; omega) | (exfalso; omega)

theorem c_told {g : GC} {V : MM} {Z : ZT} {w : Int} (hZ : CA V Z) (rw : -2147483648 ≤ w ∧ w ≤ 2147483647) : Ct g mX6_told 5 [vr 0, vi w] V (RZ V (oTold Z w) Z) := by
  refine Ct.of (ls := [some (vr 0), some (vi w)]) (plainFor_of_name (by decide +kernel)) rfl (by exact Nat.le_of_ble_eq_true rfl) (fun X hz hD => ?_)
  obtain ⟨hF, es, e1, e2, hn, hb, hkv, hfo, hwa, hro, hH, hh, h0, eh, hw, hk, hwz⟩ := hZ.fl
  refine S_il1 qX6_told_0 ?_
  by_cases s1_0 : w = 0
  · refine S_tabIn (tgt := 32) (off := 31) qX6_told_1 (by omega) (by omega) (by rw [s1_0]; rfl) (by decide) ?_
    refine S_al0 qX6_told_32 ?_
    refine S_getR qX6_told_33 fX6_17 e0_0 ?_
    refine S_getI qX6_told_36 fX6_138 (F_1 F8) ?_
    refine S_iret hz qX6_told_39 ?_
    refine RZ.same hZ ?_
    simp only [oTold, eh]
    (repeat' split) <;> first | rfl | omega | (exfalso; omega)
  by_cases s1_1 : w = 1
  · refine S_tabIn (tgt := 40) (off := 39) qX6_told_1 (by omega) (by omega) (by rw [s1_1]; rfl) (by decide) ?_
    refine S_al0 qX6_told_40 ?_
    refine S_getR qX6_told_41 fX6_17 e0_0 ?_
    refine S_getH qX6_told_44 fX6_92 (F_2 F8) ?_
    refine S_getI qX6_told_47 fX6_141 (H_0 hh) ?_
    refine S_iret hz qX6_told_50 ?_
    refine RZ.same hZ ?_
    simp only [oTold, eh]
    (repeat' split) <;> first | rfl | omega | (exfalso; omega)
  by_cases s1_2 : w = 2
  · refine S_tabIn (tgt := 51) (off := 50) qX6_told_1 (by omega) (by omega) (by rw [s1_2]; rfl) (by decide) ?_
    refine S_al0 qX6_told_51 ?_
    refine S_getR qX6_told_52 fX6_17 e0_0 ?_
    refine S_getH qX6_told_55 fX6_92 (F_2 F8) ?_
    refine S_getI qX6_told_58 fX6_144 (H_1 hh) ?_
    refine S_iret hz qX6_told_61 ?_
    refine RZ.same hZ ?_
    simp only [oTold, eh]
    (repeat' split) <;> first | rfl | omega | (exfalso; omega)
  by_cases s1_3 : w = 3
  · refine S_tabIn (tgt := 62) (off := 61) qX6_told_1 (by omega) (by omega) (by rw [s1_3]; rfl) (by decide) ?_
    refine S_al0 qX6_told_62 ?_
    refine S_getR qX6_told_63 fX6_17 e0_0 ?_
    refine S_V0E hD qX6_told_66 lX6_147 vX2_placesTaken (F_r F8) (c_placesTaken hF) (K := ?_)
    refine S_iret hz qX6_told_69 ?_
    refine RZ.same hZ ?_
    simp only [oTold, eh]
    (repeat' split) <;> first | rfl | omega | (exfalso; omega)
  refine S_tabOut (tgt := 70) qX6_told_1 (by omega) (by omega) (by decide) ?_
  refine S_iconst qX6_told_70 ?_
  refine S_iret hz qX6_told_71 ?_
  refine RZ.same hZ ?_
  simp only [oTold, eh]
  (repeat' split) <;> first | rfl | omega | (exfalso; omega)

theorem c_looked {g : GC} {V : MM} {Z : ZT} (hZ : CA V Z) : Ct g mX6_looked 5 [vr 0] V (RZ V (oLooked Z) Z) := by
  refine Ct.of (ls := [some (vr 0)]) (plainFor_of_name (by decide +kernel)) rfl (by exact Nat.le_of_ble_eq_true rfl) (fun X hz hD => ?_)
  obtain ⟨hF, es, e1, e2, hn, hb, hkv, hfo, hwa, hro, hH, hh, h0, eh, hw, hk, hwz⟩ := hZ.fl
  obtain ⟨hN, hNI⟩ := hZ.2.2.2.1
  refine S_al0 qX6_looked_0 ?_
  refine S_getR qX6_looked_1 fX6_32 e0_3 ?_
  refine S_al0 qX6_looked_4 ?_
  refine S_getR qX6_looked_5 fX6_17 e0_0 ?_
  refine S_V1E hD qX6_looked_8 lX6_230 vX1_firstWrongRow (B_r B29) (c_firstWrongRow B29 hF (by rw [hN]; exact hNI)) (K := ?_)
  refine S_iret hz qX6_looked_11 ?_
  refine RZ.same hZ ?_
  unfold oLooked
  rw [← hN]

theorem c_trace {g : GC} {V : MM} {Z : ZT} {i : Int} (hZ : CA V Z) (ri : -2147483648 ≤ i ∧ i ≤ 2147483647) : Ct g mX6_trace 2 [vr 0, vi i] V (RZ V (oTrace Z i) Z) := by
  refine Ct.of (ls := [some (vr 0), some (vi i)]) (plainFor_of_name (by decide +kernel)) rfl (by exact Nat.le_of_ble_eq_true rfl) (fun X hz hD => ?_)
  obtain ⟨hF, es, e1, e2, hn, hb, hkv, hfo, hwa, hro, hH, hh, h0, eh, hw, hk, hwz⟩ := hZ.fl
  obtain ⟨hr1, hr2, hr3⟩ := hZ.2.2.2.2.2.1
  refine S_il1 qX6_trace_0 ?_
  refine S_if_lt (d := qX6_trace_1) (kt := fun c1 => ?_) (kf := fun c1 => ?_)
  · refine S_iconst qX6_trace_21 ?_
    refine S_iret hz qX6_trace_22 ?_
    refine RZ.same hZ ?_
    unfold oTrace
    rw [← hr1, ← hr2]
    (repeat' split) <;> first | rfl | (exfalso; omega)
  · refine S_il1 qX6_trace_4 ?_
    refine S_al0 qX6_trace_5 ?_
    refine S_getR qX6_trace_6 fX6_53 e0_9 ?_
    refine S_getI qX6_trace_9 fX6_259 e6_0 ?_
    refine S_icmp_ge (d := qX6_trace_12) (kt := fun c12 => ?_) (kf := fun c12 => ?_)
    · refine S_iconst qX6_trace_21 ?_
      refine S_iret hz qX6_trace_22 ?_
      refine RZ.same hZ ?_
      unfold oTrace
      rw [← hr1, ← hr2]
      (repeat' split) <;> first | rfl | (exfalso; omega)
    · refine S_il1 qX6_trace_15 ?_
      refine S_bipush (d := qX6_trace_16) (k := ?_)
      refine S_icmp_lt (d := qX6_trace_18) (kt := fun c18 => ?_) (kf := fun c18 => ?_)
      · refine S_al0 qX6_trace_23 ?_
        refine S_getR qX6_trace_24 fX6_53 e0_9 ?_
        refine S_getR qX6_trace_27 fX6_262 e6_1 ?_
        refine S_il1 qX6_trace_30 ?_
        refine S_iald qX6_trace_31 a7 (K := ?_)
        refine S_iret hz qX6_trace_32 ?_
        refine RZ.same hZ ?_
        unfold oTrace
        rw [← hr1, ← hr2]
        (repeat' split) <;> first | rfl | (exfalso; omega)
      · refine S_iconst qX6_trace_21 ?_
        refine S_iret hz qX6_trace_22 ?_
        refine RZ.same hZ ?_
        unfold oTrace
        rw [← hr1, ← hr2]
        (repeat' split) <;> first | rfl | (exfalso; omega)

theorem c_count {g : GC} {V : MM} {Z : ZT} {w : Int} (hZ : CA V Z) (rw : -2147483648 ≤ w ∧ w ≤ 2147483647) : Ct g mX6_count 2 [vr 0, vi w] V (RZ V (oCount Z w) Z) := by
  refine Ct.of (ls := [some (vr 0), some (vi w)]) (plainFor_of_name (by decide +kernel)) rfl (by exact Nat.le_of_ble_eq_true rfl) (fun X hz hD => ?_)
  obtain ⟨hF, es, e1, e2, hn, hb, hkv, hfo, hwa, hro, hH, hh, h0, eh, hw, hk, hwz⟩ := hZ.fl
  obtain ⟨hr1, hr2, hr3⟩ := hZ.2.2.2.2.2.1
  obtain ⟨hN, hNI⟩ := hZ.2.2.2.1
  obtain ⟨hc1, -⟩ := hZ.2.1
  obtain ⟨ht1, -⟩ := hZ.2.2.1
  refine S_il1 qX6_count_0 ?_
  by_cases s1_0 : w = 0
  · refine S_tabIn (tgt := 44) (off := 43) qX6_count_1 (by omega) (by omega) (by rw [s1_0]; rfl) (by decide) ?_
    refine S_al0 qX6_count_44 ?_
    refine S_getR qX6_count_45 fX6_17 e0_0 ?_
    refine S_getI qX6_count_48 fX6_72 (F_0 F8) ?_
    refine S_iret hz qX6_count_51 ?_
    refine RZ.same hZ ?_
    unfold oCount
    rw [← hr1, ← hN, ← hc1, ← ht1, e1]
    (repeat' split) <;> first | rfl | (exfalso; omega)
  by_cases s1_1 : w = 1
  · refine S_tabIn (tgt := 52) (off := 51) qX6_count_1 (by omega) (by omega) (by rw [s1_1]; rfl) (by decide) ?_
    refine S_al0 qX6_count_52 ?_
    refine S_getI qX6_count_53 fX6_125 e0_7 ?_
    refine S_iret hz qX6_count_56 ?_
    refine RZ.same hZ ?_
    unfold oCount
    rw [← hr1, ← hN, ← hc1, ← ht1, e1]
    (repeat' split) <;> first | rfl | (exfalso; omega)
  by_cases s1_2 : w = 2
  · refine S_tabIn (tgt := 57) (off := 56) qX6_count_1 (by omega) (by omega) (by rw [s1_2]; rfl) (by decide) ?_
    refine S_al0 qX6_count_57 ?_
    refine S_getR qX6_count_58 fX6_32 e0_3 ?_
    refine S_getI qX6_count_61 fX6_201 (B_0 B29) ?_
    refine S_iret hz qX6_count_64 ?_
    refine RZ.same hZ ?_
    unfold oCount
    rw [← hr1, ← hN, ← hc1, ← ht1, e1]
    (repeat' split) <;> first | rfl | (exfalso; omega)
  by_cases s1_3 : w = 3
  · refine S_tabIn (tgt := 65) (off := 64) qX6_count_1 (by omega) (by omega) (by rw [s1_3]; rfl) (by decide) ?_
    refine S_al0 qX6_count_65 ?_
    refine S_getR qX6_count_66 fX6_32 e0_3 ?_
    refine S_getI qX6_count_69 fX6_216 (B_4 B29) ?_
    refine S_iret hz qX6_count_72 ?_
    refine RZ.same hZ ?_
    unfold oCount
    rw [← hr1, ← hN, ← hc1, ← ht1, e1]
    (repeat' split) <;> first | rfl | (exfalso; omega)
  by_cases s1_4 : w = 4
  · refine S_tabIn (tgt := 73) (off := 72) qX6_count_1 (by omega) (by omega) (by rw [s1_4]; rfl) (by decide) ?_
    refine S_al0 qX6_count_73 ?_
    refine S_getR qX6_count_74 fX6_32 e0_3 ?_
    refine S_getI qX6_count_77 fX6_225 (B_6 B29) ?_
    refine S_iret hz qX6_count_80 ?_
    refine RZ.same hZ ?_
    unfold oCount
    rw [← hr1, ← hN, ← hc1, ← ht1, e1]
    (repeat' split) <;> first | rfl | (exfalso; omega)
  by_cases s1_5 : w = 5
  · refine S_tabIn (tgt := 81) (off := 80) qX6_count_1 (by omega) (by omega) (by rw [s1_5]; rfl) (by decide) ?_
    refine S_al0 qX6_count_81 ?_
    refine S_getR qX6_count_82 fX6_46 e0_8 ?_
    refine S_getI qX6_count_85 fX6_118 e4_1 ?_
    refine S_iret hz qX6_count_88 ?_
    refine RZ.same hZ ?_
    unfold oCount
    rw [← hr1, ← hN, ← hc1, ← ht1, e1]
    (repeat' split) <;> first | rfl | (exfalso; omega)
  by_cases s1_6 : w = 6
  · refine S_tabIn (tgt := 89) (off := 88) qX6_count_1 (by omega) (by omega) (by rw [s1_6]; rfl) (by decide) ?_
    refine S_al0 qX6_count_89 ?_
    refine S_getR qX6_count_90 fX6_53 e0_9 ?_
    refine S_getI qX6_count_93 fX6_259 e6_0 ?_
    refine S_iret hz qX6_count_96 ?_
    refine RZ.same hZ ?_
    unfold oCount
    rw [← hr1, ← hN, ← hc1, ← ht1, e1]
    (repeat' split) <;> first | rfl | (exfalso; omega)
  refine S_tabOut (tgt := 97) qX6_count_1 (by omega) (by omega) (by decide) ?_
  refine S_bipush (d := qX6_count_97) (k := ?_)
  refine S_iret hz qX6_count_99 ?_
  refine RZ.same hZ ?_
  unfold oCount
  rw [← hr1, ← hN, ← hc1, ← ht1, e1]
  (repeat' split) <;> first | rfl | (exfalso; omega)
