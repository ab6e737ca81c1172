/-- what is told by hand: seen (how many, who, where, when), the dance, the book -/
abbrev SN : Type := Int × (Int → Int) × (Int → Int) × (Int → Int) × Int × (Int → Int) × Int × (Int → Int) × (Int → Int)
abbrev snC (V : MM) (b : Nat) : SN := (V b 0, V (b + 1), V (b + 2), V (b + 3), V b 4, V (b + 4), V b 6, V (b + 5), V (b + 6))
/-- it is as it must be, where there are n dancers -/
def NInv (n : Int) (N : SN) : Prop := (0 ≤ N.1 ∧ N.1 ≤ 5) ∧ (∀ i, 0 ≤ i ∧ i < N.1 → (0 ≤ N.2.1 i ∧ N.2.1 i < n) ∧ (0 ≤ N.2.2.1 i ∧ N.2.2.1 i ≤ 98) ∧ (0 ≤ N.2.2.2.1 i ∧ N.2.2.2.1 i ≤ 12)) ∧ (0 ≤ N.2.2.2.2.1 ∧ N.2.2.2.2.1 ≤ 10) ∧ (∀ i, 0 ≤ i ∧ i < N.2.2.2.2.1 → 0 ≤ N.2.2.2.2.2.1 i ∧ N.2.2.2.2.2.1 i ≤ 2) ∧ (0 ≤ N.2.2.2.2.2.2.1 ∧ N.2.2.2.2.2.2.1 ≤ 8) ∧ (∀ i, 0 ≤ i ∧ i < N.2.2.2.2.2.2.1 → (0 ≤ N.2.2.2.2.2.2.2.1 i ∧ N.2.2.2.2.2.2.2.1 i < n) ∧ (0 ≤ N.2.2.2.2.2.2.2.2 i ∧ N.2.2.2.2.2.2.2.2 i ≤ 98))
theorem isB_b {b : Nat} (h : isB b) : 29 ≤ b ∧ b + 7 ≤ 43 := by unfold isB at h; omega

theorem c_addSeen {g : GC} {b : Nat} {V : MM} {d p k : Int} (hb : isB b) (hn : 0 ≤ V b 0 ∧ V b 0 < 5) : Ct g mX1_addSeen 1 [vr b, vi d, vi p, vi k] V (fun r V' => r = some (vi (V b 0 + 1)) ∧ V' = upR (upR (upR (upR V (b + 1) (ur (V (b + 1)) (V b 0) d)) (b + 2) (ur (V (b + 2)) (V b 0) p)) (b + 3) (ur (V (b + 3)) (V b 0) k)) b (ur (V b) 0 (V b 0 + 1))) := by
  refine Ct.of (ls := [some (vr b), some (vi d), some (vi p), some (vi k)]) (plainFor_of_name (by decide +kernel)) rfl (by exact Nat.le_of_ble_eq_true rfl) (fun X hz hD => ?_)
  refine S_al0 qX1_addSeen_0 ?_
  refine S_getI qX1_addSeen_1 fX1_30 (B_0 hb) ?_
  refine S_if_lt (d := qX1_addSeen_4) (kt := fun c4 => ?_) (kf := fun c4 => ?_)
  · omega
  refine S_al0 qX1_addSeen_7 ?_
  refine S_getI qX1_addSeen_8 fX1_30 (B_0 hb) ?_
  refine S_iconst qX1_addSeen_11 ?_
  refine S_icmp_lt (d := qX1_addSeen_12) (kt := fun c12 => ?_) (kf := fun c12 => ?_)
  rotate_left
  · omega
  refine S_al0 qX1_addSeen_18 ?_
  refine S_getR qX1_addSeen_19 fX1_11 (B_1 hb) ?_
  refine S_al0 qX1_addSeen_22 ?_
  refine S_getI qX1_addSeen_23 fX1_30 (B_0 hb) ?_
  refine S_il1 qX1_addSeen_26 ?_
  refine S_iast qX1_addSeen_27 (Ba_1 hb) (K := ?_)
  have e1 : (upR V (b + 1) (ur (V (b + 1)) (V b 0) d)) b = V b := upR_n _ (by omega)
  refine S_al0 qX1_addSeen_28 ?_
  refine S_getR qX1_addSeen_29 fX1_15 (B_2 hb) ?_
  refine S_al0 qX1_addSeen_32 ?_
  refine S_getI qX1_addSeen_33 fX1_30 (B_0 hb) ?_
  rw [e1]
  refine S_il2 qX1_addSeen_36 ?_
  refine S_iast qX1_addSeen_37 (Ba_2 hb) (K := ?_)
  have e2 : (upR (upR V (b + 1) (ur (V (b + 1)) (V b 0) d)) (b + 2) (ur (upR V (b + 1) (ur (V (b + 1)) (V b 0) d) (b + 2)) (V b 0) p)) b = V b := by rw [upR_n _ (by omega), e1]
  refine S_al0 qX1_addSeen_38 ?_
  refine S_getR qX1_addSeen_39 fX1_18 (B_3 hb) ?_
  refine S_al0 qX1_addSeen_42 ?_
  refine S_getI qX1_addSeen_43 fX1_30 (B_0 hb) ?_
  rw [e2]
  refine S_il3 qX1_addSeen_46 ?_
  refine S_iast qX1_addSeen_47 (Ba_3 hb) (K := ?_)
  refine S_al0 qX1_addSeen_48 ?_
  refine S_dup (d := qX1_addSeen_49) (k := ?_)
  refine S_getI qX1_addSeen_50 fX1_30 (B_0 hb) ?_
  refine S_iconst qX1_addSeen_53 ?_
  refine S_iadd qX1_addSeen_54 ?_
  refine S_putI qX1_addSeen_55 fX1_30 (B_0 hb) tX1_0 ?_
  refine S_al0 qX1_addSeen_58 ?_
  refine S_getI qX1_addSeen_59 fX1_30 (B_0 hb) ?_
  refine S_iret hz qX1_addSeen_62 ?_
  refine ⟨?_, ?_⟩ <;> simp only [upR_n _ (show b ≠ b + 1 by omega), upR_n _ (show b ≠ b + 2 by omega), upR_n _ (show b ≠ b + 3 by omega), upR_n _ (show b ≠ b + 4 by omega), upR_n _ (show b ≠ b + 5 by omega), upR_n _ (show b ≠ b + 6 by omega), upR_n _ (show b + 1 ≠ b by omega), upR_n _ (show b + 1 ≠ b + 2 by omega), upR_n _ (show b + 1 ≠ b + 3 by omega), upR_n _ (show b + 1 ≠ b + 4 by omega), upR_n _ (show b + 1 ≠ b + 5 by omega), upR_n _ (show b + 1 ≠ b + 6 by omega), upR_n _ (show b + 2 ≠ b by omega), upR_n _ (show b + 2 ≠ b + 1 by omega), upR_n _ (show b + 2 ≠ b + 3 by omega), upR_n _ (show b + 2 ≠ b + 4 by omega), upR_n _ (show b + 2 ≠ b + 5 by omega), upR_n _ (show b + 2 ≠ b + 6 by omega), upR_n _ (show b + 3 ≠ b by omega), upR_n _ (show b + 3 ≠ b + 1 by omega), upR_n _ (show b + 3 ≠ b + 2 by omega), upR_n _ (show b + 3 ≠ b + 4 by omega), upR_n _ (show b + 3 ≠ b + 5 by omega), upR_n _ (show b + 3 ≠ b + 6 by omega), upR_n _ (show b + 4 ≠ b by omega), upR_n _ (show b + 4 ≠ b + 1 by omega), upR_n _ (show b + 4 ≠ b + 2 by omega), upR_n _ (show b + 4 ≠ b + 3 by omega), upR_n _ (show b + 4 ≠ b + 5 by omega), upR_n _ (show b + 4 ≠ b + 6 by omega), upR_n _ (show b + 5 ≠ b by omega), upR_n _ (show b + 5 ≠ b + 1 by omega), upR_n _ (show b + 5 ≠ b + 2 by omega), upR_n _ (show b + 5 ≠ b + 3 by omega), upR_n _ (show b + 5 ≠ b + 4 by omega), upR_n _ (show b + 5 ≠ b + 6 by omega), upR_n _ (show b + 6 ≠ b by omega), upR_n _ (show b + 6 ≠ b + 1 by omega), upR_n _ (show b + 6 ≠ b + 2 by omega), upR_n _ (show b + 6 ≠ b + 3 by omega), upR_n _ (show b + 6 ≠ b + 4 by omega), upR_n _ (show b + 6 ≠ b + 5 by omega), upR_s, ur_s]

theorem c_addStep {g : GC} {b : Nat} {V : MM} {d : Int} (hb : isB b) (hn : 0 ≤ V b 4 ∧ V b 4 < 10) : Ct g mX1_addStep 1 [vr b, vi d] V (fun r V' => r = some (vi (V b 4 + 1)) ∧ V' = upR (upR V (b + 4) (ur (V (b + 4)) (V b 4) d)) b (ur (V b) 4 (V b 4 + 1))) := by
  refine Ct.of (ls := [some (vr b), some (vi d)]) (plainFor_of_name (by decide +kernel)) rfl (by exact Nat.le_of_ble_eq_true rfl) (fun X hz hD => ?_)
  refine S_al0 qX1_addStep_0 ?_
  refine S_getI qX1_addStep_1 fX1_40 (B_4 hb) ?_
  refine S_if_lt (d := qX1_addStep_4) (kt := fun c4 => ?_) (kf := fun c4 => ?_)
  · omega
  refine S_al0 qX1_addStep_7 ?_
  refine S_getI qX1_addStep_8 fX1_40 (B_4 hb) ?_
  refine S_bipush (d := qX1_addStep_11) (k := ?_)
  refine S_icmp_lt (d := qX1_addStep_13) (kt := fun c13 => ?_) (kf := fun c13 => ?_)
  rotate_left
  · omega
  refine S_al0 qX1_addStep_19 ?_
  refine S_getR qX1_addStep_20 fX1_21 (B_5 hb) ?_
  refine S_al0 qX1_addStep_23 ?_
  refine S_getI qX1_addStep_24 fX1_40 (B_4 hb) ?_
  refine S_il1 qX1_addStep_27 ?_
  refine S_iast qX1_addStep_28 (Ba_4 hb) (K := ?_)
  refine S_al0 qX1_addStep_29 ?_
  refine S_dup (d := qX1_addStep_30) (k := ?_)
  refine S_getI qX1_addStep_31 fX1_40 (B_4 hb) ?_
  refine S_iconst qX1_addStep_34 ?_
  refine S_iadd qX1_addStep_35 ?_
  refine S_putI qX1_addStep_36 fX1_40 (B_4 hb) tX1_4 ?_
  refine S_al0 qX1_addStep_39 ?_
  refine S_getI qX1_addStep_40 fX1_40 (B_4 hb) ?_
  refine S_iret hz qX1_addStep_43 ?_
  refine ⟨?_, ?_⟩ <;> simp only [upR_n _ (show b ≠ b + 1 by omega), upR_n _ (show b ≠ b + 2 by omega), upR_n _ (show b ≠ b + 3 by omega), upR_n _ (show b ≠ b + 4 by omega), upR_n _ (show b ≠ b + 5 by omega), upR_n _ (show b ≠ b + 6 by omega), upR_n _ (show b + 1 ≠ b by omega), upR_n _ (show b + 1 ≠ b + 2 by omega), upR_n _ (show b + 1 ≠ b + 3 by omega), upR_n _ (show b + 1 ≠ b + 4 by omega), upR_n _ (show b + 1 ≠ b + 5 by omega), upR_n _ (show b + 1 ≠ b + 6 by omega), upR_n _ (show b + 2 ≠ b by omega), upR_n _ (show b + 2 ≠ b + 1 by omega), upR_n _ (show b + 2 ≠ b + 3 by omega), upR_n _ (show b + 2 ≠ b + 4 by omega), upR_n _ (show b + 2 ≠ b + 5 by omega), upR_n _ (show b + 2 ≠ b + 6 by omega), upR_n _ (show b + 3 ≠ b by omega), upR_n _ (show b + 3 ≠ b + 1 by omega), upR_n _ (show b + 3 ≠ b + 2 by omega), upR_n _ (show b + 3 ≠ b + 4 by omega), upR_n _ (show b + 3 ≠ b + 5 by omega), upR_n _ (show b + 3 ≠ b + 6 by omega), upR_n _ (show b + 4 ≠ b by omega), upR_n _ (show b + 4 ≠ b + 1 by omega), upR_n _ (show b + 4 ≠ b + 2 by omega), upR_n _ (show b + 4 ≠ b + 3 by omega), upR_n _ (show b + 4 ≠ b + 5 by omega), upR_n _ (show b + 4 ≠ b + 6 by omega), upR_n _ (show b + 5 ≠ b by omega), upR_n _ (show b + 5 ≠ b + 1 by omega), upR_n _ (show b + 5 ≠ b + 2 by omega), upR_n _ (show b + 5 ≠ b + 3 by omega), upR_n _ (show b + 5 ≠ b + 4 by omega), upR_n _ (show b + 5 ≠ b + 6 by omega), upR_n _ (show b + 6 ≠ b by omega), upR_n _ (show b + 6 ≠ b + 1 by omega), upR_n _ (show b + 6 ≠ b + 2 by omega), upR_n _ (show b + 6 ≠ b + 3 by omega), upR_n _ (show b + 6 ≠ b + 4 by omega), upR_n _ (show b + 6 ≠ b + 5 by omega), upR_s, ur_s]

theorem c_addRow {g : GC} {b : Nat} {V : MM} {d p : Int} (hb : isB b) (hn : 0 ≤ V b 6 ∧ V b 6 < 8) : Ct g mX1_addRow 1 [vr b, vi d, vi p] V (fun r V' => r = some (vi (V b 6 + 1)) ∧ V' = upR (upR (upR V (b + 5) (ur (V (b + 5)) (V b 6) d)) (b + 6) (ur (V (b + 6)) (V b 6) p)) b (ur (V b) 6 (V b 6 + 1))) := by
  refine Ct.of (ls := [some (vr b), some (vi d), some (vi p)]) (plainFor_of_name (by decide +kernel)) rfl (by exact Nat.le_of_ble_eq_true rfl) (fun X hz hD => ?_)
  refine S_al0 qX1_addRow_0 ?_
  refine S_getI qX1_addRow_1 fX1_43 (B_6 hb) ?_
  refine S_if_lt (d := qX1_addRow_4) (kt := fun c4 => ?_) (kf := fun c4 => ?_)
  · omega
  refine S_al0 qX1_addRow_7 ?_
  refine S_getI qX1_addRow_8 fX1_43 (B_6 hb) ?_
  refine S_bipush (d := qX1_addRow_11) (k := ?_)
  refine S_icmp_lt (d := qX1_addRow_13) (kt := fun c13 => ?_) (kf := fun c13 => ?_)
  rotate_left
  · omega
  refine S_al0 qX1_addRow_19 ?_
  refine S_getR qX1_addRow_20 fX1_24 (B_7 hb) ?_
  refine S_al0 qX1_addRow_23 ?_
  refine S_getI qX1_addRow_24 fX1_43 (B_6 hb) ?_
  refine S_il1 qX1_addRow_27 ?_
  refine S_iast qX1_addRow_28 (Ba_5 hb) (K := ?_)
  have e1 : (upR V (b + 5) (ur (V (b + 5)) (V b 6) d)) b = V b := upR_n _ (by omega)
  refine S_al0 qX1_addRow_29 ?_
  refine S_getR qX1_addRow_30 fX1_27 (B_8 hb) ?_
  refine S_al0 qX1_addRow_33 ?_
  refine S_getI qX1_addRow_34 fX1_43 (B_6 hb) ?_
  rw [e1]
  refine S_il2 qX1_addRow_37 ?_
  refine S_iast qX1_addRow_38 (Ba_6 hb) (K := ?_)
  refine S_al0 qX1_addRow_39 ?_
  refine S_dup (d := qX1_addRow_40) (k := ?_)
  refine S_getI qX1_addRow_41 fX1_43 (B_6 hb) ?_
  refine S_iconst qX1_addRow_44 ?_
  refine S_iadd qX1_addRow_45 ?_
  refine S_putI qX1_addRow_46 fX1_43 (B_6 hb) tX1_6 ?_
  refine S_al0 qX1_addRow_49 ?_
  refine S_getI qX1_addRow_50 fX1_43 (B_6 hb) ?_
  refine S_iret hz qX1_addRow_53 ?_
  refine ⟨?_, ?_⟩ <;> simp only [upR_n _ (show b ≠ b + 1 by omega), upR_n _ (show b ≠ b + 2 by omega), upR_n _ (show b ≠ b + 3 by omega), upR_n _ (show b ≠ b + 4 by omega), upR_n _ (show b ≠ b + 5 by omega), upR_n _ (show b ≠ b + 6 by omega), upR_n _ (show b + 1 ≠ b by omega), upR_n _ (show b + 1 ≠ b + 2 by omega), upR_n _ (show b + 1 ≠ b + 3 by omega), upR_n _ (show b + 1 ≠ b + 4 by omega), upR_n _ (show b + 1 ≠ b + 5 by omega), upR_n _ (show b + 1 ≠ b + 6 by omega), upR_n _ (show b + 2 ≠ b by omega), upR_n _ (show b + 2 ≠ b + 1 by omega), upR_n _ (show b + 2 ≠ b + 3 by omega), upR_n _ (show b + 2 ≠ b + 4 by omega), upR_n _ (show b + 2 ≠ b + 5 by omega), upR_n _ (show b + 2 ≠ b + 6 by omega), upR_n _ (show b + 3 ≠ b by omega), upR_n _ (show b + 3 ≠ b + 1 by omega), upR_n _ (show b + 3 ≠ b + 2 by omega), upR_n _ (show b + 3 ≠ b + 4 by omega), upR_n _ (show b + 3 ≠ b + 5 by omega), upR_n _ (show b + 3 ≠ b + 6 by omega), upR_n _ (show b + 4 ≠ b by omega), upR_n _ (show b + 4 ≠ b + 1 by omega), upR_n _ (show b + 4 ≠ b + 2 by omega), upR_n _ (show b + 4 ≠ b + 3 by omega), upR_n _ (show b + 4 ≠ b + 5 by omega), upR_n _ (show b + 4 ≠ b + 6 by omega), upR_n _ (show b + 5 ≠ b by omega), upR_n _ (show b + 5 ≠ b + 1 by omega), upR_n _ (show b + 5 ≠ b + 2 by omega), upR_n _ (show b + 5 ≠ b + 3 by omega), upR_n _ (show b + 5 ≠ b + 4 by omega), upR_n _ (show b + 5 ≠ b + 6 by omega), upR_n _ (show b + 6 ≠ b by omega), upR_n _ (show b + 6 ≠ b + 1 by omega), upR_n _ (show b + 6 ≠ b + 2 by omega), upR_n _ (show b + 6 ≠ b + 3 by omega), upR_n _ (show b + 6 ≠ b + 4 by omega), upR_n _ (show b + 6 ≠ b + 5 by omega), upR_s, ur_s]

theorem c_handBecomeM {g : GC} {b o : Nat} {V : MM} (hb : isB b) (ho : isB o) (hne : b ≠ o) : Ct g mX1_become 2 [vr b, vr o] V (RV (fun V' => V' b 0 = V o 0 ∧ V' b 4 = V o 4 ∧ V' b 6 = V o 6 ∧ V' (b + 1) = V (o + 1) ∧ V' (b + 2) = V (o + 2) ∧ V' (b + 3) = V (o + 3) ∧ V' (b + 4) = V (o + 4) ∧ V' (b + 5) = V (o + 5) ∧ V' (b + 6) = V (o + 6) ∧ Sm V V' b 7)) := by
  refine Ct.of (ls := [some (vr b), some (vr o)]) (plainFor_of_name (by decide +kernel)) rfl (by exact Nat.le_of_ble_eq_true rfl) (fun X hz hD => ?_)
  have hsep : b + 7 ≤ o ∨ o + 7 ≤ b := by unfold isB at hb ho; omega
  refine S_al0 qX1_become_0 ?_
  refine S_al1 qX1_become_1 ?_
  refine S_getI qX1_become_2 fX1_30 (B_0 ho) ?_
  refine S_putI qX1_become_5 fX1_30 (B_0 hb) tX1_0 ?_
  refine S_al1 qX1_become_8 ?_
  refine S_getR qX1_become_9 fX1_11 (B_1 ho) ?_
  refine S_iconst qX1_become_12 ?_
  refine S_al0 qX1_become_13 ?_
  refine S_getR qX1_become_14 fX1_11 (B_1 hb) ?_
  refine S_iconst qX1_become_17 ?_
  refine S_iconst qX1_become_18 ?_
  refine S_copyI hD qX1_become_19 cp_X1_34 (Ba_1 ho) (Ba_1 hb) (K := ?_)
  refine SW.castR ?_ (cp_row (Ba_1 hb) (by rfl))
  refine S_al1 qX1_become_22 ?_
  refine S_getR qX1_become_23 fX1_15 (B_2 ho) ?_
  refine S_iconst qX1_become_26 ?_
  refine S_al0 qX1_become_27 ?_
  refine S_getR qX1_become_28 fX1_15 (B_2 hb) ?_
  refine S_iconst qX1_become_31 ?_
  refine S_iconst qX1_become_32 ?_
  refine S_copyI hD qX1_become_33 cp_X1_34 (Ba_2 ho) (Ba_2 hb) (K := ?_)
  refine SW.castR ?_ (cp_row (Ba_2 hb) (by rfl))
  refine S_al1 qX1_become_36 ?_
  refine S_getR qX1_become_37 fX1_18 (B_3 ho) ?_
  refine S_iconst qX1_become_40 ?_
  refine S_al0 qX1_become_41 ?_
  refine S_getR qX1_become_42 fX1_18 (B_3 hb) ?_
  refine S_iconst qX1_become_45 ?_
  refine S_iconst qX1_become_46 ?_
  refine S_copyI hD qX1_become_47 cp_X1_34 (Ba_3 ho) (Ba_3 hb) (K := ?_)
  refine SW.castR ?_ (cp_row (Ba_3 hb) (by rfl))
  refine S_al0 qX1_become_50 ?_
  refine S_al1 qX1_become_51 ?_
  refine S_getI qX1_become_52 fX1_40 (B_4 ho) ?_
  refine S_putI qX1_become_55 fX1_40 (B_4 hb) tX1_4 ?_
  refine S_al1 qX1_become_58 ?_
  refine S_getR qX1_become_59 fX1_21 (B_5 ho) ?_
  refine S_iconst qX1_become_62 ?_
  refine S_al0 qX1_become_63 ?_
  refine S_getR qX1_become_64 fX1_21 (B_5 hb) ?_
  refine S_iconst qX1_become_67 ?_
  refine S_bipush (d := qX1_become_68) (k := ?_)
  refine S_copyI hD qX1_become_70 cp_X1_34 (Ba_4 ho) (Ba_4 hb) (K := ?_)
  refine SW.castR ?_ (cp_row (Ba_4 hb) (by rfl))
  refine S_al0 qX1_become_73 ?_
  refine S_al1 qX1_become_74 ?_
  refine S_getI qX1_become_75 fX1_43 (B_6 ho) ?_
  refine S_putI qX1_become_78 fX1_43 (B_6 hb) tX1_6 ?_
  refine S_al1 qX1_become_81 ?_
  refine S_getR qX1_become_82 fX1_24 (B_7 ho) ?_
  refine S_iconst qX1_become_85 ?_
  refine S_al0 qX1_become_86 ?_
  refine S_getR qX1_become_87 fX1_24 (B_7 hb) ?_
  refine S_iconst qX1_become_90 ?_
  refine S_bipush (d := qX1_become_91) (k := ?_)
  refine S_copyI hD qX1_become_93 cp_X1_34 (Ba_5 ho) (Ba_5 hb) (K := ?_)
  refine SW.castR ?_ (cp_row (Ba_5 hb) (by rfl))
  refine S_al1 qX1_become_96 ?_
  refine S_getR qX1_become_97 fX1_27 (B_8 ho) ?_
  refine S_iconst qX1_become_100 ?_
  refine S_al0 qX1_become_101 ?_
  refine S_getR qX1_become_102 fX1_27 (B_8 hb) ?_
  refine S_iconst qX1_become_105 ?_
  refine S_bipush (d := qX1_become_106) (k := ?_)
  refine S_copyI hD qX1_become_108 cp_X1_34 (Ba_6 ho) (Ba_6 hb) (K := ?_)
  refine SW.castR ?_ (cp_row (Ba_6 hb) (by rfl))
  refine S_vret hz qX1_become_111 ?_
  refine ⟨rfl, ?_, ?_, ?_, ?_, ?_, ?_, ?_, ?_, ?_, fun k hk => ?_⟩
  · simp only [upR_n _ (show b ≠ b + 1 by omega), upR_n _ (show b ≠ b + 2 by omega), upR_n _ (show b ≠ b + 3 by omega), upR_n _ (show b ≠ b + 4 by omega), upR_n _ (show b ≠ b + 5 by omega), upR_n _ (show b ≠ b + 6 by omega), upR_n _ (show b + 1 ≠ b by omega), upR_n _ (show b + 1 ≠ b + 2 by omega), upR_n _ (show b + 1 ≠ b + 3 by omega), upR_n _ (show b + 1 ≠ b + 4 by omega), upR_n _ (show b + 1 ≠ b + 5 by omega), upR_n _ (show b + 1 ≠ b + 6 by omega), upR_n _ (show b + 2 ≠ b by omega), upR_n _ (show b + 2 ≠ b + 1 by omega), upR_n _ (show b + 2 ≠ b + 3 by omega), upR_n _ (show b + 2 ≠ b + 4 by omega), upR_n _ (show b + 2 ≠ b + 5 by omega), upR_n _ (show b + 2 ≠ b + 6 by omega), upR_n _ (show b + 3 ≠ b by omega), upR_n _ (show b + 3 ≠ b + 1 by omega), upR_n _ (show b + 3 ≠ b + 2 by omega), upR_n _ (show b + 3 ≠ b + 4 by omega), upR_n _ (show b + 3 ≠ b + 5 by omega), upR_n _ (show b + 3 ≠ b + 6 by omega), upR_n _ (show b + 4 ≠ b by omega), upR_n _ (show b + 4 ≠ b + 1 by omega), upR_n _ (show b + 4 ≠ b + 2 by omega), upR_n _ (show b + 4 ≠ b + 3 by omega), upR_n _ (show b + 4 ≠ b + 5 by omega), upR_n _ (show b + 4 ≠ b + 6 by omega), upR_n _ (show b + 5 ≠ b by omega), upR_n _ (show b + 5 ≠ b + 1 by omega), upR_n _ (show b + 5 ≠ b + 2 by omega), upR_n _ (show b + 5 ≠ b + 3 by omega), upR_n _ (show b + 5 ≠ b + 4 by omega), upR_n _ (show b + 5 ≠ b + 6 by omega), upR_n _ (show b + 6 ≠ b by omega), upR_n _ (show b + 6 ≠ b + 1 by omega), upR_n _ (show b + 6 ≠ b + 2 by omega), upR_n _ (show b + 6 ≠ b + 3 by omega), upR_n _ (show b + 6 ≠ b + 4 by omega), upR_n _ (show b + 6 ≠ b + 5 by omega), upR_n _ (show o ≠ b by omega), upR_n _ (show o ≠ b + 1 by omega), upR_n _ (show o ≠ b + 2 by omega), upR_n _ (show o ≠ b + 3 by omega), upR_n _ (show o ≠ b + 4 by omega), upR_n _ (show o ≠ b + 5 by omega), upR_n _ (show o ≠ b + 6 by omega), upR_n _ (show o + 1 ≠ b by omega), upR_n _ (show o + 1 ≠ b + 1 by omega), upR_n _ (show o + 1 ≠ b + 2 by omega), upR_n _ (show o + 1 ≠ b + 3 by omega), upR_n _ (show o + 1 ≠ b + 4 by omega), upR_n _ (show o + 1 ≠ b + 5 by omega), upR_n _ (show o + 1 ≠ b + 6 by omega), upR_n _ (show o + 2 ≠ b by omega), upR_n _ (show o + 2 ≠ b + 1 by omega), upR_n _ (show o + 2 ≠ b + 2 by omega), upR_n _ (show o + 2 ≠ b + 3 by omega), upR_n _ (show o + 2 ≠ b + 4 by omega), upR_n _ (show o + 2 ≠ b + 5 by omega), upR_n _ (show o + 2 ≠ b + 6 by omega), upR_n _ (show o + 3 ≠ b by omega), upR_n _ (show o + 3 ≠ b + 1 by omega), upR_n _ (show o + 3 ≠ b + 2 by omega), upR_n _ (show o + 3 ≠ b + 3 by omega), upR_n _ (show o + 3 ≠ b + 4 by omega), upR_n _ (show o + 3 ≠ b + 5 by omega), upR_n _ (show o + 3 ≠ b + 6 by omega), upR_n _ (show o + 4 ≠ b by omega), upR_n _ (show o + 4 ≠ b + 1 by omega), upR_n _ (show o + 4 ≠ b + 2 by omega), upR_n _ (show o + 4 ≠ b + 3 by omega), upR_n _ (show o + 4 ≠ b + 4 by omega), upR_n _ (show o + 4 ≠ b + 5 by omega), upR_n _ (show o + 4 ≠ b + 6 by omega), upR_n _ (show o + 5 ≠ b by omega), upR_n _ (show o + 5 ≠ b + 1 by omega), upR_n _ (show o + 5 ≠ b + 2 by omega), upR_n _ (show o + 5 ≠ b + 3 by omega), upR_n _ (show o + 5 ≠ b + 4 by omega), upR_n _ (show o + 5 ≠ b + 5 by omega), upR_n _ (show o + 5 ≠ b + 6 by omega), upR_n _ (show o + 6 ≠ b by omega), upR_n _ (show o + 6 ≠ b + 1 by omega), upR_n _ (show o + 6 ≠ b + 2 by omega), upR_n _ (show o + 6 ≠ b + 3 by omega), upR_n _ (show o + 6 ≠ b + 4 by omega), upR_n _ (show o + 6 ≠ b + 5 by omega), upR_n _ (show o + 6 ≠ b + 6 by omega), upR_s, upR_u, ur_s, ur_n _ (show (0 : Int) ≠ 4 by omega), ur_n _ (show (0 : Int) ≠ 6 by omega), ur_n _ (show (4 : Int) ≠ 6 by omega)]
  · simp only [upR_n _ (show b ≠ b + 1 by omega), upR_n _ (show b ≠ b + 2 by omega), upR_n _ (show b ≠ b + 3 by omega), upR_n _ (show b ≠ b + 4 by omega), upR_n _ (show b ≠ b + 5 by omega), upR_n _ (show b ≠ b + 6 by omega), upR_n _ (show b + 1 ≠ b by omega), upR_n _ (show b + 1 ≠ b + 2 by omega), upR_n _ (show b + 1 ≠ b + 3 by omega), upR_n _ (show b + 1 ≠ b + 4 by omega), upR_n _ (show b + 1 ≠ b + 5 by omega), upR_n _ (show b + 1 ≠ b + 6 by omega), upR_n _ (show b + 2 ≠ b by omega), upR_n _ (show b + 2 ≠ b + 1 by omega), upR_n _ (show b + 2 ≠ b + 3 by omega), upR_n _ (show b + 2 ≠ b + 4 by omega), upR_n _ (show b + 2 ≠ b + 5 by omega), upR_n _ (show b + 2 ≠ b + 6 by omega), upR_n _ (show b + 3 ≠ b by omega), upR_n _ (show b + 3 ≠ b + 1 by omega), upR_n _ (show b + 3 ≠ b + 2 by omega), upR_n _ (show b + 3 ≠ b + 4 by omega), upR_n _ (show b + 3 ≠ b + 5 by omega), upR_n _ (show b + 3 ≠ b + 6 by omega), upR_n _ (show b + 4 ≠ b by omega), upR_n _ (show b + 4 ≠ b + 1 by omega), upR_n _ (show b + 4 ≠ b + 2 by omega), upR_n _ (show b + 4 ≠ b + 3 by omega), upR_n _ (show b + 4 ≠ b + 5 by omega), upR_n _ (show b + 4 ≠ b + 6 by omega), upR_n _ (show b + 5 ≠ b by omega), upR_n _ (show b + 5 ≠ b + 1 by omega), upR_n _ (show b + 5 ≠ b + 2 by omega), upR_n _ (show b + 5 ≠ b + 3 by omega), upR_n _ (show b + 5 ≠ b + 4 by omega), upR_n _ (show b + 5 ≠ b + 6 by omega), upR_n _ (show b + 6 ≠ b by omega), upR_n _ (show b + 6 ≠ b + 1 by omega), upR_n _ (show b + 6 ≠ b + 2 by omega), upR_n _ (show b + 6 ≠ b + 3 by omega), upR_n _ (show b + 6 ≠ b + 4 by omega), upR_n _ (show b + 6 ≠ b + 5 by omega), upR_n _ (show o ≠ b by omega), upR_n _ (show o ≠ b + 1 by omega), upR_n _ (show o ≠ b + 2 by omega), upR_n _ (show o ≠ b + 3 by omega), upR_n _ (show o ≠ b + 4 by omega), upR_n _ (show o ≠ b + 5 by omega), upR_n _ (show o ≠ b + 6 by omega), upR_n _ (show o + 1 ≠ b by omega), upR_n _ (show o + 1 ≠ b + 1 by omega), upR_n _ (show o + 1 ≠ b + 2 by omega), upR_n _ (show o + 1 ≠ b + 3 by omega), upR_n _ (show o + 1 ≠ b + 4 by omega), upR_n _ (show o + 1 ≠ b + 5 by omega), upR_n _ (show o + 1 ≠ b + 6 by omega), upR_n _ (show o + 2 ≠ b by omega), upR_n _ (show o + 2 ≠ b + 1 by omega), upR_n _ (show o + 2 ≠ b + 2 by omega), upR_n _ (show o + 2 ≠ b + 3 by omega), upR_n _ (show o + 2 ≠ b + 4 by omega), upR_n _ (show o + 2 ≠ b + 5 by omega), upR_n _ (show o + 2 ≠ b + 6 by omega), upR_n _ (show o + 3 ≠ b by omega), upR_n _ (show o + 3 ≠ b + 1 by omega), upR_n _ (show o + 3 ≠ b + 2 by omega), upR_n _ (show o + 3 ≠ b + 3 by omega), upR_n _ (show o + 3 ≠ b + 4 by omega), upR_n _ (show o + 3 ≠ b + 5 by omega), upR_n _ (show o + 3 ≠ b + 6 by omega), upR_n _ (show o + 4 ≠ b by omega), upR_n _ (show o + 4 ≠ b + 1 by omega), upR_n _ (show o + 4 ≠ b + 2 by omega), upR_n _ (show o + 4 ≠ b + 3 by omega), upR_n _ (show o + 4 ≠ b + 4 by omega), upR_n _ (show o + 4 ≠ b + 5 by omega), upR_n _ (show o + 4 ≠ b + 6 by omega), upR_n _ (show o + 5 ≠ b by omega), upR_n _ (show o + 5 ≠ b + 1 by omega), upR_n _ (show o + 5 ≠ b + 2 by omega), upR_n _ (show o + 5 ≠ b + 3 by omega), upR_n _ (show o + 5 ≠ b + 4 by omega), upR_n _ (show o + 5 ≠ b + 5 by omega), upR_n _ (show o + 5 ≠ b + 6 by omega), upR_n _ (show o + 6 ≠ b by omega), upR_n _ (show o + 6 ≠ b + 1 by omega), upR_n _ (show o + 6 ≠ b + 2 by omega), upR_n _ (show o + 6 ≠ b + 3 by omega), upR_n _ (show o + 6 ≠ b + 4 by omega), upR_n _ (show o + 6 ≠ b + 5 by omega), upR_n _ (show o + 6 ≠ b + 6 by omega), upR_s, upR_u, ur_s, ur_n _ (show (0 : Int) ≠ 4 by omega), ur_n _ (show (0 : Int) ≠ 6 by omega), ur_n _ (show (4 : Int) ≠ 6 by omega)]
  · simp only [upR_n _ (show b ≠ b + 1 by omega), upR_n _ (show b ≠ b + 2 by omega), upR_n _ (show b ≠ b + 3 by omega), upR_n _ (show b ≠ b + 4 by omega), upR_n _ (show b ≠ b + 5 by omega), upR_n _ (show b ≠ b + 6 by omega), upR_n _ (show b + 1 ≠ b by omega), upR_n _ (show b + 1 ≠ b + 2 by omega), upR_n _ (show b + 1 ≠ b + 3 by omega), upR_n _ (show b + 1 ≠ b + 4 by omega), upR_n _ (show b + 1 ≠ b + 5 by omega), upR_n _ (show b + 1 ≠ b + 6 by omega), upR_n _ (show b + 2 ≠ b by omega), upR_n _ (show b + 2 ≠ b + 1 by omega), upR_n _ (show b + 2 ≠ b + 3 by omega), upR_n _ (show b + 2 ≠ b + 4 by omega), upR_n _ (show b + 2 ≠ b + 5 by omega), upR_n _ (show b + 2 ≠ b + 6 by omega), upR_n _ (show b + 3 ≠ b by omega), upR_n _ (show b + 3 ≠ b + 1 by omega), upR_n _ (show b + 3 ≠ b + 2 by omega), upR_n _ (show b + 3 ≠ b + 4 by omega), upR_n _ (show b + 3 ≠ b + 5 by omega), upR_n _ (show b + 3 ≠ b + 6 by omega), upR_n _ (show b + 4 ≠ b by omega), upR_n _ (show b + 4 ≠ b + 1 by omega), upR_n _ (show b + 4 ≠ b + 2 by omega), upR_n _ (show b + 4 ≠ b + 3 by omega), upR_n _ (show b + 4 ≠ b + 5 by omega), upR_n _ (show b + 4 ≠ b + 6 by omega), upR_n _ (show b + 5 ≠ b by omega), upR_n _ (show b + 5 ≠ b + 1 by omega), upR_n _ (show b + 5 ≠ b + 2 by omega), upR_n _ (show b + 5 ≠ b + 3 by omega), upR_n _ (show b + 5 ≠ b + 4 by omega), upR_n _ (show b + 5 ≠ b + 6 by omega), upR_n _ (show b + 6 ≠ b by omega), upR_n _ (show b + 6 ≠ b + 1 by omega), upR_n _ (show b + 6 ≠ b + 2 by omega), upR_n _ (show b + 6 ≠ b + 3 by omega), upR_n _ (show b + 6 ≠ b + 4 by omega), upR_n _ (show b + 6 ≠ b + 5 by omega), upR_n _ (show o ≠ b by omega), upR_n _ (show o ≠ b + 1 by omega), upR_n _ (show o ≠ b + 2 by omega), upR_n _ (show o ≠ b + 3 by omega), upR_n _ (show o ≠ b + 4 by omega), upR_n _ (show o ≠ b + 5 by omega), upR_n _ (show o ≠ b + 6 by omega), upR_n _ (show o + 1 ≠ b by omega), upR_n _ (show o + 1 ≠ b + 1 by omega), upR_n _ (show o + 1 ≠ b + 2 by omega), upR_n _ (show o + 1 ≠ b + 3 by omega), upR_n _ (show o + 1 ≠ b + 4 by omega), upR_n _ (show o + 1 ≠ b + 5 by omega), upR_n _ (show o + 1 ≠ b + 6 by omega), upR_n _ (show o + 2 ≠ b by omega), upR_n _ (show o + 2 ≠ b + 1 by omega), upR_n _ (show o + 2 ≠ b + 2 by omega), upR_n _ (show o + 2 ≠ b + 3 by omega), upR_n _ (show o + 2 ≠ b + 4 by omega), upR_n _ (show o + 2 ≠ b + 5 by omega), upR_n _ (show o + 2 ≠ b + 6 by omega), upR_n _ (show o + 3 ≠ b by omega), upR_n _ (show o + 3 ≠ b + 1 by omega), upR_n _ (show o + 3 ≠ b + 2 by omega), upR_n _ (show o + 3 ≠ b + 3 by omega), upR_n _ (show o + 3 ≠ b + 4 by omega), upR_n _ (show o + 3 ≠ b + 5 by omega), upR_n _ (show o + 3 ≠ b + 6 by omega), upR_n _ (show o + 4 ≠ b by omega), upR_n _ (show o + 4 ≠ b + 1 by omega), upR_n _ (show o + 4 ≠ b + 2 by omega), upR_n _ (show o + 4 ≠ b + 3 by omega), upR_n _ (show o + 4 ≠ b + 4 by omega), upR_n _ (show o + 4 ≠ b + 5 by omega), upR_n _ (show o + 4 ≠ b + 6 by omega), upR_n _ (show o + 5 ≠ b by omega), upR_n _ (show o + 5 ≠ b + 1 by omega), upR_n _ (show o + 5 ≠ b + 2 by omega), upR_n _ (show o + 5 ≠ b + 3 by omega), upR_n _ (show o + 5 ≠ b + 4 by omega), upR_n _ (show o + 5 ≠ b + 5 by omega), upR_n _ (show o + 5 ≠ b + 6 by omega), upR_n _ (show o + 6 ≠ b by omega), upR_n _ (show o + 6 ≠ b + 1 by omega), upR_n _ (show o + 6 ≠ b + 2 by omega), upR_n _ (show o + 6 ≠ b + 3 by omega), upR_n _ (show o + 6 ≠ b + 4 by omega), upR_n _ (show o + 6 ≠ b + 5 by omega), upR_n _ (show o + 6 ≠ b + 6 by omega), upR_s, upR_u, ur_s, ur_n _ (show (0 : Int) ≠ 4 by omega), ur_n _ (show (0 : Int) ≠ 6 by omega), ur_n _ (show (4 : Int) ≠ 6 by omega)]
  · simp only [upR_n _ (show b ≠ b + 1 by omega), upR_n _ (show b ≠ b + 2 by omega), upR_n _ (show b ≠ b + 3 by omega), upR_n _ (show b ≠ b + 4 by omega), upR_n _ (show b ≠ b + 5 by omega), upR_n _ (show b ≠ b + 6 by omega), upR_n _ (show b + 1 ≠ b by omega), upR_n _ (show b + 1 ≠ b + 2 by omega), upR_n _ (show b + 1 ≠ b + 3 by omega), upR_n _ (show b + 1 ≠ b + 4 by omega), upR_n _ (show b + 1 ≠ b + 5 by omega), upR_n _ (show b + 1 ≠ b + 6 by omega), upR_n _ (show b + 2 ≠ b by omega), upR_n _ (show b + 2 ≠ b + 1 by omega), upR_n _ (show b + 2 ≠ b + 3 by omega), upR_n _ (show b + 2 ≠ b + 4 by omega), upR_n _ (show b + 2 ≠ b + 5 by omega), upR_n _ (show b + 2 ≠ b + 6 by omega), upR_n _ (show b + 3 ≠ b by omega), upR_n _ (show b + 3 ≠ b + 1 by omega), upR_n _ (show b + 3 ≠ b + 2 by omega), upR_n _ (show b + 3 ≠ b + 4 by omega), upR_n _ (show b + 3 ≠ b + 5 by omega), upR_n _ (show b + 3 ≠ b + 6 by omega), upR_n _ (show b + 4 ≠ b by omega), upR_n _ (show b + 4 ≠ b + 1 by omega), upR_n _ (show b + 4 ≠ b + 2 by omega), upR_n _ (show b + 4 ≠ b + 3 by omega), upR_n _ (show b + 4 ≠ b + 5 by omega), upR_n _ (show b + 4 ≠ b + 6 by omega), upR_n _ (show b + 5 ≠ b by omega), upR_n _ (show b + 5 ≠ b + 1 by omega), upR_n _ (show b + 5 ≠ b + 2 by omega), upR_n _ (show b + 5 ≠ b + 3 by omega), upR_n _ (show b + 5 ≠ b + 4 by omega), upR_n _ (show b + 5 ≠ b + 6 by omega), upR_n _ (show b + 6 ≠ b by omega), upR_n _ (show b + 6 ≠ b + 1 by omega), upR_n _ (show b + 6 ≠ b + 2 by omega), upR_n _ (show b + 6 ≠ b + 3 by omega), upR_n _ (show b + 6 ≠ b + 4 by omega), upR_n _ (show b + 6 ≠ b + 5 by omega), upR_n _ (show o ≠ b by omega), upR_n _ (show o ≠ b + 1 by omega), upR_n _ (show o ≠ b + 2 by omega), upR_n _ (show o ≠ b + 3 by omega), upR_n _ (show o ≠ b + 4 by omega), upR_n _ (show o ≠ b + 5 by omega), upR_n _ (show o ≠ b + 6 by omega), upR_n _ (show o + 1 ≠ b by omega), upR_n _ (show o + 1 ≠ b + 1 by omega), upR_n _ (show o + 1 ≠ b + 2 by omega), upR_n _ (show o + 1 ≠ b + 3 by omega), upR_n _ (show o + 1 ≠ b + 4 by omega), upR_n _ (show o + 1 ≠ b + 5 by omega), upR_n _ (show o + 1 ≠ b + 6 by omega), upR_n _ (show o + 2 ≠ b by omega), upR_n _ (show o + 2 ≠ b + 1 by omega), upR_n _ (show o + 2 ≠ b + 2 by omega), upR_n _ (show o + 2 ≠ b + 3 by omega), upR_n _ (show o + 2 ≠ b + 4 by omega), upR_n _ (show o + 2 ≠ b + 5 by omega), upR_n _ (show o + 2 ≠ b + 6 by omega), upR_n _ (show o + 3 ≠ b by omega), upR_n _ (show o + 3 ≠ b + 1 by omega), upR_n _ (show o + 3 ≠ b + 2 by omega), upR_n _ (show o + 3 ≠ b + 3 by omega), upR_n _ (show o + 3 ≠ b + 4 by omega), upR_n _ (show o + 3 ≠ b + 5 by omega), upR_n _ (show o + 3 ≠ b + 6 by omega), upR_n _ (show o + 4 ≠ b by omega), upR_n _ (show o + 4 ≠ b + 1 by omega), upR_n _ (show o + 4 ≠ b + 2 by omega), upR_n _ (show o + 4 ≠ b + 3 by omega), upR_n _ (show o + 4 ≠ b + 4 by omega), upR_n _ (show o + 4 ≠ b + 5 by omega), upR_n _ (show o + 4 ≠ b + 6 by omega), upR_n _ (show o + 5 ≠ b by omega), upR_n _ (show o + 5 ≠ b + 1 by omega), upR_n _ (show o + 5 ≠ b + 2 by omega), upR_n _ (show o + 5 ≠ b + 3 by omega), upR_n _ (show o + 5 ≠ b + 4 by omega), upR_n _ (show o + 5 ≠ b + 5 by omega), upR_n _ (show o + 5 ≠ b + 6 by omega), upR_n _ (show o + 6 ≠ b by omega), upR_n _ (show o + 6 ≠ b + 1 by omega), upR_n _ (show o + 6 ≠ b + 2 by omega), upR_n _ (show o + 6 ≠ b + 3 by omega), upR_n _ (show o + 6 ≠ b + 4 by omega), upR_n _ (show o + 6 ≠ b + 5 by omega), upR_n _ (show o + 6 ≠ b + 6 by omega), upR_s]
  · simp only [upR_n _ (show b ≠ b + 1 by omega), upR_n _ (show b ≠ b + 2 by omega), upR_n _ (show b ≠ b + 3 by omega), upR_n _ (show b ≠ b + 4 by omega), upR_n _ (show b ≠ b + 5 by omega), upR_n _ (show b ≠ b + 6 by omega), upR_n _ (show b + 1 ≠ b by omega), upR_n _ (show b + 1 ≠ b + 2 by omega), upR_n _ (show b + 1 ≠ b + 3 by omega), upR_n _ (show b + 1 ≠ b + 4 by omega), upR_n _ (show b + 1 ≠ b + 5 by omega), upR_n _ (show b + 1 ≠ b + 6 by omega), upR_n _ (show b + 2 ≠ b by omega), upR_n _ (show b + 2 ≠ b + 1 by omega), upR_n _ (show b + 2 ≠ b + 3 by omega), upR_n _ (show b + 2 ≠ b + 4 by omega), upR_n _ (show b + 2 ≠ b + 5 by omega), upR_n _ (show b + 2 ≠ b + 6 by omega), upR_n _ (show b + 3 ≠ b by omega), upR_n _ (show b + 3 ≠ b + 1 by omega), upR_n _ (show b + 3 ≠ b + 2 by omega), upR_n _ (show b + 3 ≠ b + 4 by omega), upR_n _ (show b + 3 ≠ b + 5 by omega), upR_n _ (show b + 3 ≠ b + 6 by omega), upR_n _ (show b + 4 ≠ b by omega), upR_n _ (show b + 4 ≠ b + 1 by omega), upR_n _ (show b + 4 ≠ b + 2 by omega), upR_n _ (show b + 4 ≠ b + 3 by omega), upR_n _ (show b + 4 ≠ b + 5 by omega), upR_n _ (show b + 4 ≠ b + 6 by omega), upR_n _ (show b + 5 ≠ b by omega), upR_n _ (show b + 5 ≠ b + 1 by omega), upR_n _ (show b + 5 ≠ b + 2 by omega), upR_n _ (show b + 5 ≠ b + 3 by omega), upR_n _ (show b + 5 ≠ b + 4 by omega), upR_n _ (show b + 5 ≠ b + 6 by omega), upR_n _ (show b + 6 ≠ b by omega), upR_n _ (show b + 6 ≠ b + 1 by omega), upR_n _ (show b + 6 ≠ b + 2 by omega), upR_n _ (show b + 6 ≠ b + 3 by omega), upR_n _ (show b + 6 ≠ b + 4 by omega), upR_n _ (show b + 6 ≠ b + 5 by omega), upR_n _ (show o ≠ b by omega), upR_n _ (show o ≠ b + 1 by omega), upR_n _ (show o ≠ b + 2 by omega), upR_n _ (show o ≠ b + 3 by omega), upR_n _ (show o ≠ b + 4 by omega), upR_n _ (show o ≠ b + 5 by omega), upR_n _ (show o ≠ b + 6 by omega), upR_n _ (show o + 1 ≠ b by omega), upR_n _ (show o + 1 ≠ b + 1 by omega), upR_n _ (show o + 1 ≠ b + 2 by omega), upR_n _ (show o + 1 ≠ b + 3 by omega), upR_n _ (show o + 1 ≠ b + 4 by omega), upR_n _ (show o + 1 ≠ b + 5 by omega), upR_n _ (show o + 1 ≠ b + 6 by omega), upR_n _ (show o + 2 ≠ b by omega), upR_n _ (show o + 2 ≠ b + 1 by omega), upR_n _ (show o + 2 ≠ b + 2 by omega), upR_n _ (show o + 2 ≠ b + 3 by omega), upR_n _ (show o + 2 ≠ b + 4 by omega), upR_n _ (show o + 2 ≠ b + 5 by omega), upR_n _ (show o + 2 ≠ b + 6 by omega), upR_n _ (show o + 3 ≠ b by omega), upR_n _ (show o + 3 ≠ b + 1 by omega), upR_n _ (show o + 3 ≠ b + 2 by omega), upR_n _ (show o + 3 ≠ b + 3 by omega), upR_n _ (show o + 3 ≠ b + 4 by omega), upR_n _ (show o + 3 ≠ b + 5 by omega), upR_n _ (show o + 3 ≠ b + 6 by omega), upR_n _ (show o + 4 ≠ b by omega), upR_n _ (show o + 4 ≠ b + 1 by omega), upR_n _ (show o + 4 ≠ b + 2 by omega), upR_n _ (show o + 4 ≠ b + 3 by omega), upR_n _ (show o + 4 ≠ b + 4 by omega), upR_n _ (show o + 4 ≠ b + 5 by omega), upR_n _ (show o + 4 ≠ b + 6 by omega), upR_n _ (show o + 5 ≠ b by omega), upR_n _ (show o + 5 ≠ b + 1 by omega), upR_n _ (show o + 5 ≠ b + 2 by omega), upR_n _ (show o + 5 ≠ b + 3 by omega), upR_n _ (show o + 5 ≠ b + 4 by omega), upR_n _ (show o + 5 ≠ b + 5 by omega), upR_n _ (show o + 5 ≠ b + 6 by omega), upR_n _ (show o + 6 ≠ b by omega), upR_n _ (show o + 6 ≠ b + 1 by omega), upR_n _ (show o + 6 ≠ b + 2 by omega), upR_n _ (show o + 6 ≠ b + 3 by omega), upR_n _ (show o + 6 ≠ b + 4 by omega), upR_n _ (show o + 6 ≠ b + 5 by omega), upR_n _ (show o + 6 ≠ b + 6 by omega), upR_s]
  · simp only [upR_n _ (show b ≠ b + 1 by omega), upR_n _ (show b ≠ b + 2 by omega), upR_n _ (show b ≠ b + 3 by omega), upR_n _ (show b ≠ b + 4 by omega), upR_n _ (show b ≠ b + 5 by omega), upR_n _ (show b ≠ b + 6 by omega), upR_n _ (show b + 1 ≠ b by omega), upR_n _ (show b + 1 ≠ b + 2 by omega), upR_n _ (show b + 1 ≠ b + 3 by omega), upR_n _ (show b + 1 ≠ b + 4 by omega), upR_n _ (show b + 1 ≠ b + 5 by omega), upR_n _ (show b + 1 ≠ b + 6 by omega), upR_n _ (show b + 2 ≠ b by omega), upR_n _ (show b + 2 ≠ b + 1 by omega), upR_n _ (show b + 2 ≠ b + 3 by omega), upR_n _ (show b + 2 ≠ b + 4 by omega), upR_n _ (show b + 2 ≠ b + 5 by omega), upR_n _ (show b + 2 ≠ b + 6 by omega), upR_n _ (show b + 3 ≠ b by omega), upR_n _ (show b + 3 ≠ b + 1 by omega), upR_n _ (show b + 3 ≠ b + 2 by omega), upR_n _ (show b + 3 ≠ b + 4 by omega), upR_n _ (show b + 3 ≠ b + 5 by omega), upR_n _ (show b + 3 ≠ b + 6 by omega), upR_n _ (show b + 4 ≠ b by omega), upR_n _ (show b + 4 ≠ b + 1 by omega), upR_n _ (show b + 4 ≠ b + 2 by omega), upR_n _ (show b + 4 ≠ b + 3 by omega), upR_n _ (show b + 4 ≠ b + 5 by omega), upR_n _ (show b + 4 ≠ b + 6 by omega), upR_n _ (show b + 5 ≠ b by omega), upR_n _ (show b + 5 ≠ b + 1 by omega), upR_n _ (show b + 5 ≠ b + 2 by omega), upR_n _ (show b + 5 ≠ b + 3 by omega), upR_n _ (show b + 5 ≠ b + 4 by omega), upR_n _ (show b + 5 ≠ b + 6 by omega), upR_n _ (show b + 6 ≠ b by omega), upR_n _ (show b + 6 ≠ b + 1 by omega), upR_n _ (show b + 6 ≠ b + 2 by omega), upR_n _ (show b + 6 ≠ b + 3 by omega), upR_n _ (show b + 6 ≠ b + 4 by omega), upR_n _ (show b + 6 ≠ b + 5 by omega), upR_n _ (show o ≠ b by omega), upR_n _ (show o ≠ b + 1 by omega), upR_n _ (show o ≠ b + 2 by omega), upR_n _ (show o ≠ b + 3 by omega), upR_n _ (show o ≠ b + 4 by omega), upR_n _ (show o ≠ b + 5 by omega), upR_n _ (show o ≠ b + 6 by omega), upR_n _ (show o + 1 ≠ b by omega), upR_n _ (show o + 1 ≠ b + 1 by omega), upR_n _ (show o + 1 ≠ b + 2 by omega), upR_n _ (show o + 1 ≠ b + 3 by omega), upR_n _ (show o + 1 ≠ b + 4 by omega), upR_n _ (show o + 1 ≠ b + 5 by omega), upR_n _ (show o + 1 ≠ b + 6 by omega), upR_n _ (show o + 2 ≠ b by omega), upR_n _ (show o + 2 ≠ b + 1 by omega), upR_n _ (show o + 2 ≠ b + 2 by omega), upR_n _ (show o + 2 ≠ b + 3 by omega), upR_n _ (show o + 2 ≠ b + 4 by omega), upR_n _ (show o + 2 ≠ b + 5 by omega), upR_n _ (show o + 2 ≠ b + 6 by omega), upR_n _ (show o + 3 ≠ b by omega), upR_n _ (show o + 3 ≠ b + 1 by omega), upR_n _ (show o + 3 ≠ b + 2 by omega), upR_n _ (show o + 3 ≠ b + 3 by omega), upR_n _ (show o + 3 ≠ b + 4 by omega), upR_n _ (show o + 3 ≠ b + 5 by omega), upR_n _ (show o + 3 ≠ b + 6 by omega), upR_n _ (show o + 4 ≠ b by omega), upR_n _ (show o + 4 ≠ b + 1 by omega), upR_n _ (show o + 4 ≠ b + 2 by omega), upR_n _ (show o + 4 ≠ b + 3 by omega), upR_n _ (show o + 4 ≠ b + 4 by omega), upR_n _ (show o + 4 ≠ b + 5 by omega), upR_n _ (show o + 4 ≠ b + 6 by omega), upR_n _ (show o + 5 ≠ b by omega), upR_n _ (show o + 5 ≠ b + 1 by omega), upR_n _ (show o + 5 ≠ b + 2 by omega), upR_n _ (show o + 5 ≠ b + 3 by omega), upR_n _ (show o + 5 ≠ b + 4 by omega), upR_n _ (show o + 5 ≠ b + 5 by omega), upR_n _ (show o + 5 ≠ b + 6 by omega), upR_n _ (show o + 6 ≠ b by omega), upR_n _ (show o + 6 ≠ b + 1 by omega), upR_n _ (show o + 6 ≠ b + 2 by omega), upR_n _ (show o + 6 ≠ b + 3 by omega), upR_n _ (show o + 6 ≠ b + 4 by omega), upR_n _ (show o + 6 ≠ b + 5 by omega), upR_n _ (show o + 6 ≠ b + 6 by omega), upR_s]
  · simp only [upR_n _ (show b ≠ b + 1 by omega), upR_n _ (show b ≠ b + 2 by omega), upR_n _ (show b ≠ b + 3 by omega), upR_n _ (show b ≠ b + 4 by omega), upR_n _ (show b ≠ b + 5 by omega), upR_n _ (show b ≠ b + 6 by omega), upR_n _ (show b + 1 ≠ b by omega), upR_n _ (show b + 1 ≠ b + 2 by omega), upR_n _ (show b + 1 ≠ b + 3 by omega), upR_n _ (show b + 1 ≠ b + 4 by omega), upR_n _ (show b + 1 ≠ b + 5 by omega), upR_n _ (show b + 1 ≠ b + 6 by omega), upR_n _ (show b + 2 ≠ b by omega), upR_n _ (show b + 2 ≠ b + 1 by omega), upR_n _ (show b + 2 ≠ b + 3 by omega), upR_n _ (show b + 2 ≠ b + 4 by omega), upR_n _ (show b + 2 ≠ b + 5 by omega), upR_n _ (show b + 2 ≠ b + 6 by omega), upR_n _ (show b + 3 ≠ b by omega), upR_n _ (show b + 3 ≠ b + 1 by omega), upR_n _ (show b + 3 ≠ b + 2 by omega), upR_n _ (show b + 3 ≠ b + 4 by omega), upR_n _ (show b + 3 ≠ b + 5 by omega), upR_n _ (show b + 3 ≠ b + 6 by omega), upR_n _ (show b + 4 ≠ b by omega), upR_n _ (show b + 4 ≠ b + 1 by omega), upR_n _ (show b + 4 ≠ b + 2 by omega), upR_n _ (show b + 4 ≠ b + 3 by omega), upR_n _ (show b + 4 ≠ b + 5 by omega), upR_n _ (show b + 4 ≠ b + 6 by omega), upR_n _ (show b + 5 ≠ b by omega), upR_n _ (show b + 5 ≠ b + 1 by omega), upR_n _ (show b + 5 ≠ b + 2 by omega), upR_n _ (show b + 5 ≠ b + 3 by omega), upR_n _ (show b + 5 ≠ b + 4 by omega), upR_n _ (show b + 5 ≠ b + 6 by omega), upR_n _ (show b + 6 ≠ b by omega), upR_n _ (show b + 6 ≠ b + 1 by omega), upR_n _ (show b + 6 ≠ b + 2 by omega), upR_n _ (show b + 6 ≠ b + 3 by omega), upR_n _ (show b + 6 ≠ b + 4 by omega), upR_n _ (show b + 6 ≠ b + 5 by omega), upR_n _ (show o ≠ b by omega), upR_n _ (show o ≠ b + 1 by omega), upR_n _ (show o ≠ b + 2 by omega), upR_n _ (show o ≠ b + 3 by omega), upR_n _ (show o ≠ b + 4 by omega), upR_n _ (show o ≠ b + 5 by omega), upR_n _ (show o ≠ b + 6 by omega), upR_n _ (show o + 1 ≠ b by omega), upR_n _ (show o + 1 ≠ b + 1 by omega), upR_n _ (show o + 1 ≠ b + 2 by omega), upR_n _ (show o + 1 ≠ b + 3 by omega), upR_n _ (show o + 1 ≠ b + 4 by omega), upR_n _ (show o + 1 ≠ b + 5 by omega), upR_n _ (show o + 1 ≠ b + 6 by omega), upR_n _ (show o + 2 ≠ b by omega), upR_n _ (show o + 2 ≠ b + 1 by omega), upR_n _ (show o + 2 ≠ b + 2 by omega), upR_n _ (show o + 2 ≠ b + 3 by omega), upR_n _ (show o + 2 ≠ b + 4 by omega), upR_n _ (show o + 2 ≠ b + 5 by omega), upR_n _ (show o + 2 ≠ b + 6 by omega), upR_n _ (show o + 3 ≠ b by omega), upR_n _ (show o + 3 ≠ b + 1 by omega), upR_n _ (show o + 3 ≠ b + 2 by omega), upR_n _ (show o + 3 ≠ b + 3 by omega), upR_n _ (show o + 3 ≠ b + 4 by omega), upR_n _ (show o + 3 ≠ b + 5 by omega), upR_n _ (show o + 3 ≠ b + 6 by omega), upR_n _ (show o + 4 ≠ b by omega), upR_n _ (show o + 4 ≠ b + 1 by omega), upR_n _ (show o + 4 ≠ b + 2 by omega), upR_n _ (show o + 4 ≠ b + 3 by omega), upR_n _ (show o + 4 ≠ b + 4 by omega), upR_n _ (show o + 4 ≠ b + 5 by omega), upR_n _ (show o + 4 ≠ b + 6 by omega), upR_n _ (show o + 5 ≠ b by omega), upR_n _ (show o + 5 ≠ b + 1 by omega), upR_n _ (show o + 5 ≠ b + 2 by omega), upR_n _ (show o + 5 ≠ b + 3 by omega), upR_n _ (show o + 5 ≠ b + 4 by omega), upR_n _ (show o + 5 ≠ b + 5 by omega), upR_n _ (show o + 5 ≠ b + 6 by omega), upR_n _ (show o + 6 ≠ b by omega), upR_n _ (show o + 6 ≠ b + 1 by omega), upR_n _ (show o + 6 ≠ b + 2 by omega), upR_n _ (show o + 6 ≠ b + 3 by omega), upR_n _ (show o + 6 ≠ b + 4 by omega), upR_n _ (show o + 6 ≠ b + 5 by omega), upR_n _ (show o + 6 ≠ b + 6 by omega), upR_s]
  · simp only [upR_n _ (show b ≠ b + 1 by omega), upR_n _ (show b ≠ b + 2 by omega), upR_n _ (show b ≠ b + 3 by omega), upR_n _ (show b ≠ b + 4 by omega), upR_n _ (show b ≠ b + 5 by omega), upR_n _ (show b ≠ b + 6 by omega), upR_n _ (show b + 1 ≠ b by omega), upR_n _ (show b + 1 ≠ b + 2 by omega), upR_n _ (show b + 1 ≠ b + 3 by omega), upR_n _ (show b + 1 ≠ b + 4 by omega), upR_n _ (show b + 1 ≠ b + 5 by omega), upR_n _ (show b + 1 ≠ b + 6 by omega), upR_n _ (show b + 2 ≠ b by omega), upR_n _ (show b + 2 ≠ b + 1 by omega), upR_n _ (show b + 2 ≠ b + 3 by omega), upR_n _ (show b + 2 ≠ b + 4 by omega), upR_n _ (show b + 2 ≠ b + 5 by omega), upR_n _ (show b + 2 ≠ b + 6 by omega), upR_n _ (show b + 3 ≠ b by omega), upR_n _ (show b + 3 ≠ b + 1 by omega), upR_n _ (show b + 3 ≠ b + 2 by omega), upR_n _ (show b + 3 ≠ b + 4 by omega), upR_n _ (show b + 3 ≠ b + 5 by omega), upR_n _ (show b + 3 ≠ b + 6 by omega), upR_n _ (show b + 4 ≠ b by omega), upR_n _ (show b + 4 ≠ b + 1 by omega), upR_n _ (show b + 4 ≠ b + 2 by omega), upR_n _ (show b + 4 ≠ b + 3 by omega), upR_n _ (show b + 4 ≠ b + 5 by omega), upR_n _ (show b + 4 ≠ b + 6 by omega), upR_n _ (show b + 5 ≠ b by omega), upR_n _ (show b + 5 ≠ b + 1 by omega), upR_n _ (show b + 5 ≠ b + 2 by omega), upR_n _ (show b + 5 ≠ b + 3 by omega), upR_n _ (show b + 5 ≠ b + 4 by omega), upR_n _ (show b + 5 ≠ b + 6 by omega), upR_n _ (show b + 6 ≠ b by omega), upR_n _ (show b + 6 ≠ b + 1 by omega), upR_n _ (show b + 6 ≠ b + 2 by omega), upR_n _ (show b + 6 ≠ b + 3 by omega), upR_n _ (show b + 6 ≠ b + 4 by omega), upR_n _ (show b + 6 ≠ b + 5 by omega), upR_n _ (show o ≠ b by omega), upR_n _ (show o ≠ b + 1 by omega), upR_n _ (show o ≠ b + 2 by omega), upR_n _ (show o ≠ b + 3 by omega), upR_n _ (show o ≠ b + 4 by omega), upR_n _ (show o ≠ b + 5 by omega), upR_n _ (show o ≠ b + 6 by omega), upR_n _ (show o + 1 ≠ b by omega), upR_n _ (show o + 1 ≠ b + 1 by omega), upR_n _ (show o + 1 ≠ b + 2 by omega), upR_n _ (show o + 1 ≠ b + 3 by omega), upR_n _ (show o + 1 ≠ b + 4 by omega), upR_n _ (show o + 1 ≠ b + 5 by omega), upR_n _ (show o + 1 ≠ b + 6 by omega), upR_n _ (show o + 2 ≠ b by omega), upR_n _ (show o + 2 ≠ b + 1 by omega), upR_n _ (show o + 2 ≠ b + 2 by omega), upR_n _ (show o + 2 ≠ b + 3 by omega), upR_n _ (show o + 2 ≠ b + 4 by omega), upR_n _ (show o + 2 ≠ b + 5 by omega), upR_n _ (show o + 2 ≠ b + 6 by omega), upR_n _ (show o + 3 ≠ b by omega), upR_n _ (show o + 3 ≠ b + 1 by omega), upR_n _ (show o + 3 ≠ b + 2 by omega), upR_n _ (show o + 3 ≠ b + 3 by omega), upR_n _ (show o + 3 ≠ b + 4 by omega), upR_n _ (show o + 3 ≠ b + 5 by omega), upR_n _ (show o + 3 ≠ b + 6 by omega), upR_n _ (show o + 4 ≠ b by omega), upR_n _ (show o + 4 ≠ b + 1 by omega), upR_n _ (show o + 4 ≠ b + 2 by omega), upR_n _ (show o + 4 ≠ b + 3 by omega), upR_n _ (show o + 4 ≠ b + 4 by omega), upR_n _ (show o + 4 ≠ b + 5 by omega), upR_n _ (show o + 4 ≠ b + 6 by omega), upR_n _ (show o + 5 ≠ b by omega), upR_n _ (show o + 5 ≠ b + 1 by omega), upR_n _ (show o + 5 ≠ b + 2 by omega), upR_n _ (show o + 5 ≠ b + 3 by omega), upR_n _ (show o + 5 ≠ b + 4 by omega), upR_n _ (show o + 5 ≠ b + 5 by omega), upR_n _ (show o + 5 ≠ b + 6 by omega), upR_n _ (show o + 6 ≠ b by omega), upR_n _ (show o + 6 ≠ b + 1 by omega), upR_n _ (show o + 6 ≠ b + 2 by omega), upR_n _ (show o + 6 ≠ b + 3 by omega), upR_n _ (show o + 6 ≠ b + 4 by omega), upR_n _ (show o + 6 ≠ b + 5 by omega), upR_n _ (show o + 6 ≠ b + 6 by omega), upR_s]
  · simp only [upR_n _ (show b ≠ b + 1 by omega), upR_n _ (show b ≠ b + 2 by omega), upR_n _ (show b ≠ b + 3 by omega), upR_n _ (show b ≠ b + 4 by omega), upR_n _ (show b ≠ b + 5 by omega), upR_n _ (show b ≠ b + 6 by omega), upR_n _ (show b + 1 ≠ b by omega), upR_n _ (show b + 1 ≠ b + 2 by omega), upR_n _ (show b + 1 ≠ b + 3 by omega), upR_n _ (show b + 1 ≠ b + 4 by omega), upR_n _ (show b + 1 ≠ b + 5 by omega), upR_n _ (show b + 1 ≠ b + 6 by omega), upR_n _ (show b + 2 ≠ b by omega), upR_n _ (show b + 2 ≠ b + 1 by omega), upR_n _ (show b + 2 ≠ b + 3 by omega), upR_n _ (show b + 2 ≠ b + 4 by omega), upR_n _ (show b + 2 ≠ b + 5 by omega), upR_n _ (show b + 2 ≠ b + 6 by omega), upR_n _ (show b + 3 ≠ b by omega), upR_n _ (show b + 3 ≠ b + 1 by omega), upR_n _ (show b + 3 ≠ b + 2 by omega), upR_n _ (show b + 3 ≠ b + 4 by omega), upR_n _ (show b + 3 ≠ b + 5 by omega), upR_n _ (show b + 3 ≠ b + 6 by omega), upR_n _ (show b + 4 ≠ b by omega), upR_n _ (show b + 4 ≠ b + 1 by omega), upR_n _ (show b + 4 ≠ b + 2 by omega), upR_n _ (show b + 4 ≠ b + 3 by omega), upR_n _ (show b + 4 ≠ b + 5 by omega), upR_n _ (show b + 4 ≠ b + 6 by omega), upR_n _ (show b + 5 ≠ b by omega), upR_n _ (show b + 5 ≠ b + 1 by omega), upR_n _ (show b + 5 ≠ b + 2 by omega), upR_n _ (show b + 5 ≠ b + 3 by omega), upR_n _ (show b + 5 ≠ b + 4 by omega), upR_n _ (show b + 5 ≠ b + 6 by omega), upR_n _ (show b + 6 ≠ b by omega), upR_n _ (show b + 6 ≠ b + 1 by omega), upR_n _ (show b + 6 ≠ b + 2 by omega), upR_n _ (show b + 6 ≠ b + 3 by omega), upR_n _ (show b + 6 ≠ b + 4 by omega), upR_n _ (show b + 6 ≠ b + 5 by omega), upR_n _ (show o ≠ b by omega), upR_n _ (show o ≠ b + 1 by omega), upR_n _ (show o ≠ b + 2 by omega), upR_n _ (show o ≠ b + 3 by omega), upR_n _ (show o ≠ b + 4 by omega), upR_n _ (show o ≠ b + 5 by omega), upR_n _ (show o ≠ b + 6 by omega), upR_n _ (show o + 1 ≠ b by omega), upR_n _ (show o + 1 ≠ b + 1 by omega), upR_n _ (show o + 1 ≠ b + 2 by omega), upR_n _ (show o + 1 ≠ b + 3 by omega), upR_n _ (show o + 1 ≠ b + 4 by omega), upR_n _ (show o + 1 ≠ b + 5 by omega), upR_n _ (show o + 1 ≠ b + 6 by omega), upR_n _ (show o + 2 ≠ b by omega), upR_n _ (show o + 2 ≠ b + 1 by omega), upR_n _ (show o + 2 ≠ b + 2 by omega), upR_n _ (show o + 2 ≠ b + 3 by omega), upR_n _ (show o + 2 ≠ b + 4 by omega), upR_n _ (show o + 2 ≠ b + 5 by omega), upR_n _ (show o + 2 ≠ b + 6 by omega), upR_n _ (show o + 3 ≠ b by omega), upR_n _ (show o + 3 ≠ b + 1 by omega), upR_n _ (show o + 3 ≠ b + 2 by omega), upR_n _ (show o + 3 ≠ b + 3 by omega), upR_n _ (show o + 3 ≠ b + 4 by omega), upR_n _ (show o + 3 ≠ b + 5 by omega), upR_n _ (show o + 3 ≠ b + 6 by omega), upR_n _ (show o + 4 ≠ b by omega), upR_n _ (show o + 4 ≠ b + 1 by omega), upR_n _ (show o + 4 ≠ b + 2 by omega), upR_n _ (show o + 4 ≠ b + 3 by omega), upR_n _ (show o + 4 ≠ b + 4 by omega), upR_n _ (show o + 4 ≠ b + 5 by omega), upR_n _ (show o + 4 ≠ b + 6 by omega), upR_n _ (show o + 5 ≠ b by omega), upR_n _ (show o + 5 ≠ b + 1 by omega), upR_n _ (show o + 5 ≠ b + 2 by omega), upR_n _ (show o + 5 ≠ b + 3 by omega), upR_n _ (show o + 5 ≠ b + 4 by omega), upR_n _ (show o + 5 ≠ b + 5 by omega), upR_n _ (show o + 5 ≠ b + 6 by omega), upR_n _ (show o + 6 ≠ b by omega), upR_n _ (show o + 6 ≠ b + 1 by omega), upR_n _ (show o + 6 ≠ b + 2 by omega), upR_n _ (show o + 6 ≠ b + 3 by omega), upR_n _ (show o + 6 ≠ b + 4 by omega), upR_n _ (show o + 6 ≠ b + 5 by omega), upR_n _ (show o + 6 ≠ b + 6 by omega), upR_s]
  · simp only [upR_n _ (show k ≠ b by omega), upR_n _ (show k ≠ b + 1 by omega), upR_n _ (show k ≠ b + 2 by omega), upR_n _ (show k ≠ b + 3 by omega), upR_n _ (show k ≠ b + 4 by omega), upR_n _ (show k ≠ b + 5 by omega), upR_n _ (show k ≠ b + 6 by omega)]

theorem c_handBecome {g : GC} {b o : Nat} {V : MM} (hb : isB b) (ho : isB o) (hne : b ≠ o) : Ct g mX1_become 2 [vr b, vr o] V (RV (fun V' => snC V' b = snC V o ∧ Sm V V' b 7)) :=
  (c_handBecomeM hb ho hne).mono (fun r V' h => by
    obtain ⟨rfl, a0, a4, a6, a1, a2, a3, b4, a5, b6, hS⟩ := h
    refine ⟨rfl, ?_, hS⟩
    show (V' b 0, V' (b + 1), V' (b + 2), V' (b + 3), V' b 4, V' (b + 4), V' b 6, V' (b + 5), V' (b + 6)) = _
    rw [a0, a1, a2, a3, a4, b4, a6, a5, b6])

/-- behind one more row: the first place of the book that is otherwise -/
def lokS (wa : Int → Int) (who wh : Int → Int) : Nat → Int → Int
  | 0, _ => -5
  | n + 1, i => if wa (8 * who i) = wh i then lokS wa who wh n (i + 1) else i

theorem look_loop {g : GC} {X : CX} {Q : Option AV → MM → Prop} {b f : Nat} {V : MM} {xf : Int} (hb : isB b) (hf : isF f) (hn : 0 ≤ V f 0 ∧ V f 0 ≤ 6) (hwa : ∀ i : Int, 0 ≤ i ∧ i < 48 → 0 ≤ V (f + 4) i ∧ V (f + 4) i < 99) (hr : 0 ≤ V b 6 ∧ V b 6 ≤ 8) (hbk : ∀ i, 0 ≤ i ∧ i < V b 6 → (0 ≤ V (b + 5) i ∧ V (b + 5) i < V f 0) ∧ (0 ≤ V (b + 6) i ∧ V (b + 6) i ≤ 98)) (hz : Fi g X (some .int) Q) (hD : Dp X 3) (hQ : Q (some (vi xf)) V) : ∀ (n : Nat) (i : Int), 0 ≤ i → i + n = V b 6 → lokS (V (f + 4)) (V (b + 5)) (V (b + 6)) n i = xf → SW g X RX1 cX1_firstWrongRow 2 [some (vr b), some (vr f), some (vi i)] [] V := by
  intro n
  induction n with
  | zero =>
    intro i h0 h1 hx
    unfold lokS at hx
    subst hx
    refine S_il2 qX1_firstWrongRow_2 ?_
    refine S_al0 qX1_firstWrongRow_3 ?_
    refine S_getI qX1_firstWrongRow_4 fX1_43 (B_6 hb) ?_
    refine S_icmp_ge (d := qX1_firstWrongRow_7) (kt := fun c7 => ?_) (kf := fun c7 => ?_)
    rotate_left
    · omega
    refine S_bipush (d := qX1_firstWrongRow_38) (k := ?_)
    refine S_iret hz qX1_firstWrongRow_40 ?_
    exact hQ
  | succ n ih =>
    intro i h0 h1 hx
    unfold lokS at hx
    have w1 := hbk i (by omega)
    have w2 := hwa (8 * V (b + 5) i) (by omega)
    refine S_il2 qX1_firstWrongRow_2 ?_
    refine S_al0 qX1_firstWrongRow_3 ?_
    refine S_getI qX1_firstWrongRow_4 fX1_43 (B_6 hb) ?_
    refine S_icmp_ge (d := qX1_firstWrongRow_7) (kt := fun c7 => ?_) (kf := fun c7 => ?_)
    · omega
    refine S_al1 qX1_firstWrongRow_10 ?_
    refine S_al0 qX1_firstWrongRow_11 ?_
    refine S_getR qX1_firstWrongRow_12 fX1_24 (B_7 hb) ?_
    refine S_il2 qX1_firstWrongRow_15 ?_
    refine S_iald qX1_firstWrongRow_16 (Ba_5 hb) (K := ?_)
    refine S_iconst qX1_firstWrongRow_17 ?_
    refine S_V2E hD qX1_firstWrongRow_18 lX1_46 vX2_wasOf (F_r hf) (c_was0 hf (by omega) (by omega)) (K := ?_)
    refine S_al0 qX1_firstWrongRow_21 ?_
    refine S_getR qX1_firstWrongRow_22 fX1_27 (B_8 hb) ?_
    refine S_il2 qX1_firstWrongRow_25 ?_
    refine S_iald qX1_firstWrongRow_26 (Ba_6 hb) (K := ?_)
    refine S_icmp_eq (d := qX1_firstWrongRow_27) (kt := fun c27 => ?_) (kf := fun c27 => ?_)
    · refine S_inc2 qX1_firstWrongRow_32 (K := ?_)
      refine S_goto qX1_firstWrongRow_35 ?_
      rw [if_pos c27] at hx
      exact ih (i + 1) (by omega) (by omega) hx
    · refine S_il2 qX1_firstWrongRow_30 ?_
      refine S_iret hz qX1_firstWrongRow_31 ?_
      rw [if_neg c27] at hx
      subst hx
      exact hQ
theorem c_firstWrongRow {g : GC} {b f : Nat} {V : MM} {hs : HS} {s : FS} (hb : isB b) (hF : FlC V f hs s) (hN : NInv s.1 (snC V b)) : Ct g mX1_firstWrongRow 3 [vr b, vr f] V (RE V (lokS s.2.2.2.2.2.1 (V (b + 5)) (V (b + 6)) (V b 6).toNat 0)) := by
  refine Ct.of (ls := [some (vr b), some (vr f), none]) (plainFor_of_name (by decide +kernel)) rfl (by exact Nat.le_of_ble_eq_true rfl) (fun X hz hD => ?_)
  obtain ⟨hf, rfl, hn, hb2, hkv, hfo, hwa, hro, hH, hh0, rfl⟩ := hF.facts
  have hw := hH.2.1
  have hwa9 : ∀ i : Int, 0 ≤ i ∧ i < 48 → 0 ≤ V (f + 4) i ∧ V (f + 4) i < 99 := fun i hi => by have := hwa i hi; omega
  obtain ⟨-, -, -, -, hr, hbk⟩ := hN
  replace hr : 0 ≤ V b 6 ∧ V b 6 ≤ 8 := hr
  refine S_iconst qX1_firstWrongRow_0 ?_
  refine S_is2 qX1_firstWrongRow_1 (K := ?_)
  exact look_loop hb hf hn hwa9 hr hbk hz hD ⟨rfl, rfl⟩ (V b 6).toNat 0 (by omega) (by omega) rfl
