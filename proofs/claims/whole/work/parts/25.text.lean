theorem c_forgetTrace {g : GC} {V : MM} : Ct g mX0_forgetTrace 1 [vr 6] V (RW (upR V 6 (ur (V 6) 0 0))) := by
  refine Ct.of (ls := [some (vr 6)]) (plainFor_of_name (by decide +kernel)) rfl (by exact Nat.le_of_ble_eq_true rfl) (fun X hz hD => ?_)
  refine S_al0 qX0_forgetTrace_0 ?_
  refine S_iconst qX0_forgetTrace_1 ?_
  refine S_putI qX0_forgetTrace_2 fX0_15 e6_0 tX0_0 ?_
  refine S_vret hz qX0_forgetTrace_5 ?_
  exact ⟨rfl, rfl⟩

theorem trM_id (V : MM) : trM V (V 6 0, V 7) = V := by
  unfold trM
  rw [upR_id, ur_id, upR_id]
/-- the memory with an act's own -/
def plM (V : MM) (k v i : Int) : MM := upR V 6 (ur (ur (ur (V 6) 2 k) 3 v) 4 i)
theorem plM_6 (V : MM) (k v i : Int) : plM V k v i 6 = ur (ur (ur (V 6) 2 k) 3 v) 4 i := upR_s ..
theorem plM_7 (V : MM) (k v i : Int) : plM V k v i 7 = V 7 := upR_n _ (by omega)

theorem c_play {g : GC} {f : Nat} {V : MM} {d s x : Int} {res : Int × TR} (hf : isF f) (hn : V f 0 ≤ 6) (hd : 0 ≤ d ∧ d < V f 0) (hk : 0 ≤ V (f + 1) d ∧ V (f + 1) d ≤ 6) (hx : actR (V (f + 1) d) (V (f + 2) d) d 12 s (V (f + 1) d) x (V 6 0, V 7) = some res) : Ct g mX0_play 27 [vr 6, vr f, vi d, vi s, vi x] V (fun r V2 => r = some (vi res.1) ∧ V2 = trM (plM V (V (f + 1) d) (V (f + 2) d) d) res.2) := by
  refine Ct.of (ls := [some (vr 6), some (vr f), some (vi d), some (vi s), some (vi x)]) (plainFor_of_name (by decide +kernel)) rfl (by exact Nat.le_of_ble_eq_true rfl) (fun X hz hD => ?_)
  have hfb := isF_b hf
  refine S_al1 qX0_play_0 ?_
  refine S_il2 qX0_play_1 ?_
  refine S_V1B hD qX0_play_2 lX0_19 vX2_has (F_r hf) (c_has hf (by omega) (by omega)) (kt := fun j2 => ?_) (kf := fun j2 => ?_)
  · refine S_if_ne (d := qX0_play_5) (kt := fun _ => ?_) (kf := fun c => absurd c (by decide))
    refine S_al0 qX0_play_10 ?_
    refine S_al1 qX0_play_11 ?_
    refine S_getR qX0_play_12 fX0_25 (F_3 hf) ?_
    refine S_il2 qX0_play_15 ?_
    refine S_iald qX0_play_16 (Fa_1 hf) (K := ?_)
    refine S_putI qX0_play_17 fX0_28 e6_2 tX0_2 ?_
    refine S_al0 qX0_play_20 ?_
    refine S_al1 qX0_play_21 ?_
    refine S_getR qX0_play_22 fX0_30 (F_4 hf) ?_
    refine S_il2 qX0_play_25 ?_
    refine S_iald qX0_play_26 (Fa_2 hf) (K := ?_)
    refine S_putI qX0_play_27 fX0_33 e6_3 tX0_3 ?_
    rw [upR_n _ (show f + 2 ≠ 6 by omega), upR_s, upR_u]
    refine S_al0 qX0_play_30 ?_
    refine S_il2 qX0_play_31 ?_
    refine S_putI qX0_play_32 fX0_35 e6_4 tX0_4 ?_
    rw [upR_s, upR_u]
    refine S_al0 qX0_play_35 ?_
    refine S_il3 qX0_play_36 ?_
    refine S_al0 qX0_play_37 ?_
    refine S_getI qX0_play_38 fX0_28 e6_2 ?_
    rw [upR_s, ur_n _ (by omega), ur_n _ (by omega), ur_s]
    refine S_il4 qX0_play_41 ?_
    refine S_iconst qX0_play_43 ?_
    have e2 : plM V (V (f + 1) d) (V (f + 2) d) d 6 2 = V (f + 1) d := by
      rw [plM_6, ur_n _ (by omega), ur_n _ (by omega), ur_s]
    have e3 : plM V (V (f + 1) d) (V (f + 2) d) d 6 3 = V (f + 2) d := by
      rw [plM_6, ur_n _ (by omega), ur_s]
    have e4 : plM V (V (f + 1) d) (V (f + 2) d) d 6 4 = d := by
      rw [plM_6, ur_s]
    have e6 : plM V (V (f + 1) d) (V (f + 2) d) d 6 0 = V 6 0 := by
      rw [plM_6, ur_n _ (by omega), ur_n _ (by omega), ur_n _ (by omega)]
    have e7 := plM_7 V (V (f + 1) d) (V (f + 2) d) d
    have hR := c_run g 12 (plM V (V (f + 1) d) (V (f + 2) d) d) s (V (f + 1) d) x 0 (V 6 0, V 7) res (by rw [e2, e3, e4]; exact hx) (by rw [e2]; exact hk) (by omega) (by omega)
    have e5 : trM (plM V (V (f + 1) d) (V (f + 2) d) d) (V 6 0, V 7) = plM V (V (f + 1) d) (V (f + 2) d) d := by
      rw [← e6, ← e7, trM_id]
    rw [e5] at hR
    exact S_V4X hD qX0_play_44 lX0_38 vX0_run r6 hR (by omega) (K := S_iret hz qX0_play_47 ⟨rfl, rfl⟩)
  · refine S_if_ne (d := qX0_play_5) (kt := fun c => absurd c (by decide)) (kf := fun _ => ?_)
    refine S_iconst qX0_play_8 ?_
    refine S_iret hz qX0_play_9 ?_
    exfalso; omega

theorem c_clear {g : GC} {h : Nat} {V : MM} (hh : isH h) : Ct g mX3_clear 1 [vr h] V (RW (upR V h (ur (ur (ur (ur (V h) 0 24) 1 0) 2 0) 3 0))) := by
  refine Ct.of (ls := [some (vr h)]) (plainFor_of_name (by decide +kernel)) rfl (by exact Nat.le_of_ble_eq_true rfl) (fun X hz hD => ?_)
  refine S_al0 qX3_clear_0 ?_
  refine S_bipush (d := qX3_clear_1) (k := ?_)
  refine S_putI qX3_clear_3 fX3_11 (H_0 hh) tX3_0 ?_
  refine S_al0 qX3_clear_6 ?_
  refine S_iconst qX3_clear_7 ?_
  refine S_putI qX3_clear_8 fX3_27 (H_1 hh) tX3_1 ?_
  refine S_al0 qX3_clear_11 ?_
  refine S_iconst qX3_clear_12 ?_
  refine S_putI qX3_clear_13 fX3_30 (H_2 hh) tX3_2 ?_
  refine S_al0 qX3_clear_16 ?_
  refine S_iconst qX3_clear_17 ?_
  refine S_putI qX3_clear_18 fX3_33 (H_3 hh) tX3_3 ?_
  refine S_vret hz qX3_clear_21 ?_
  refine ⟨rfl, ?_⟩
  simp only [upR_s, upR_u]

theorem c_setWide {g : GC} {h : Nat} {V : MM} {n : Int} (hh : isH h) (hn : 0 ≤ n ∧ n ≤ 99) : Ct g mX3_setWide 2 [vr h, vi n] V (RW (upR V h (ur (V h) 0 (if n < 1 then 1 else n)))) := by
  refine Ct.of (ls := [some (vr h), some (vi n)]) (plainFor_of_name (by decide +kernel)) rfl (by exact Nat.le_of_ble_eq_true rfl) (fun X hz hD => ?_)
  refine S_al0 qX3_setWide_0 ?_
  refine S_iconst qX3_setWide_1 ?_
  refine S_il1 qX3_setWide_2 ?_
  refine S_bipush (d := qX3_setWide_3) (k := ?_)
  refine S_S2E hD qX3_setWide_5 lX3_36 sJ9_min_7cf53 (c_min (by omega) (by omega)) (K := ?_)
  refine S_S2E hD qX3_setWide_8 lX3_42 sJ9_max_7cf53 (c_max (by omega) (by split <;> omega)) (K := ?_)
  refine S_putI qX3_setWide_11 fX3_11 (H_0 hh) tX3_0 ?_
  refine S_vret hz qX3_setWide_14 ?_
  refine ⟨rfl, ?_⟩
  rw [if_neg (show ¬ (99 : Int) < n by omega)]
  by_cases hq : n < 1
  · rw [if_pos hq, if_neg (by omega)]
  · rw [if_neg hq]
    by_cases hq2 : 1 < n
    · rw [if_pos hq2]
    · rw [if_neg hq2, show n = 1 by omega]

/-- a hall's memory behind one code more -/
def adM (V : MM) (h : Nat) (c : Int) : MM := if V h 3 < 100 then upR (upR V (h + 3) (ur (V (h + 3)) (V h 3) c)) h (ur (V h) 3 (V h 3 + 1)) else V

theorem c_addCode {g : GC} {h : Nat} {V : MM} {c : Int} (hh : isH h) (h3 : 0 ≤ V h 3 ∧ V h 3 ≤ 100) : Ct g mX3_addCode 1 [vr h, vi c] V (RW (adM V h c)) := by
  refine Ct.of (ls := [some (vr h), some (vi c)]) (plainFor_of_name (by decide +kernel)) rfl (by exact Nat.le_of_ble_eq_true rfl) (fun X hz hD => ?_)
  refine S_al0 qX3_addCode_0 ?_
  refine S_getI qX3_addCode_1 fX3_33 (H_3 hh) ?_
  refine S_if_lt (d := qX3_addCode_4) (kt := fun c4 => ?_) (kf := fun c4 => ?_)
  · refine S_vret hz qX3_addCode_19 ?_
    refine ⟨rfl, ?_⟩
    unfold adM
    rw [if_neg (by omega)]
  · refine S_al0 qX3_addCode_7 ?_
    refine S_getI qX3_addCode_8 fX3_33 (H_3 hh) ?_
    refine S_al0 qX3_addCode_11 ?_
    refine S_getR qX3_addCode_12 fX3_24 (H_6 hh) ?_
    refine S_alen qX3_addCode_15 (Ha_3 hh) ?_
    refine S_icmp_lt (d := qX3_addCode_16) (kt := fun c16 => ?_) (kf := fun c16 => ?_)
    · refine S_al0 qX3_addCode_20 ?_
      refine S_getR qX3_addCode_21 fX3_24 (H_6 hh) ?_
      refine S_al0 qX3_addCode_24 ?_
      refine S_getI qX3_addCode_25 fX3_33 (H_3 hh) ?_
      refine S_il1 qX3_addCode_28 ?_
      refine S_iast qX3_addCode_29 (Ha_3 hh) (K := ?_)
      refine S_al0 qX3_addCode_30 ?_
      refine S_dup (d := qX3_addCode_31) (k := ?_)
      refine S_getI qX3_addCode_32 fX3_33 (H_3 hh) ?_
      refine S_iconst qX3_addCode_35 ?_
      refine S_iadd qX3_addCode_36 ?_
      refine S_putI qX3_addCode_37 fX3_33 (H_3 hh) tX3_3 ?_
      rw [upR_n _ (show h ≠ h + 3 by omega)]
      refine S_vret hz qX3_addCode_40 ?_
      refine ⟨rfl, ?_⟩
      unfold adM
      rw [if_pos (by omega)]
    · refine S_vret hz qX3_addCode_19 ?_
      refine ⟨rfl, ?_⟩
      unfold adM
      rw [if_neg (by omega)]

theorem c_testCode {g : GC} {V : MM} {l m n : Int} : Ct g mX3_testCode 1 [vi l, vi m, vi n] V (RE V ((l * 3 + m) * 100 + n)) := by
  refine Ct.of (ls := [some (vi l), some (vi m), some (vi n)]) (plainFor_of_name (by decide +kernel)) rfl (by exact Nat.le_of_ble_eq_true rfl) (fun X hz hD => ?_)
  refine S_il0 qX3_testCode_0 ?_
  refine S_iconst qX3_testCode_1 ?_
  refine S_imul qX3_testCode_2 ?_
  refine S_il1 qX3_testCode_3 ?_
  refine S_iadd qX3_testCode_4 ?_
  refine S_bipush (d := qX3_testCode_5) (k := ?_)
  refine S_imul qX3_testCode_7 ?_
  refine S_il2 qX3_testCode_8 ?_
  refine S_iadd qX3_testCode_9 ?_
  refine S_iret hz qX3_testCode_10 ?_
  exact ⟨rfl, rfl⟩

def asM (V : MM) (h : Nat) (n : Int) : MM := upR (upR (upR V (h + 1) (ur (V (h + 1)) (V h 2) n)) (h + 2) (ur (V (h + 2)) (V h 2) (V h 3))) h (ur (V h) 2 (V h 2 + 1))

theorem c_hAddStep {g : GC} {h : Nat} {V : MM} {n : Int} (hh : isH h) (h2 : 0 ≤ V h 2 ∧ V h 2 < 10) : Ct g mX3_addStep 1 [vr h, vi n] V (RW (asM V h n)) := by
  refine Ct.of (ls := [some (vr h), some (vi n)]) (plainFor_of_name (by decide +kernel)) rfl (by exact Nat.le_of_ble_eq_true rfl) (fun X hz hD => ?_)
  refine S_al0 qX3_addStep_0 ?_
  refine S_getI qX3_addStep_1 fX3_30 (H_2 hh) ?_
  refine S_if_lt (d := qX3_addStep_4) (kt := fun c4 => ?_) (kf := fun c4 => ?_)
  · omega
  refine S_al0 qX3_addStep_7 ?_
  refine S_getI qX3_addStep_8 fX3_30 (H_2 hh) ?_
  refine S_bipush (d := qX3_addStep_11) (k := ?_)
  refine S_icmp_lt (d := qX3_addStep_13) (kt := fun c13 => ?_) (kf := fun c13 => ?_)
  rotate_left
  · omega
  refine S_al0 qX3_addStep_17 ?_
  refine S_getR qX3_addStep_18 fX3_15 (H_4 hh) ?_
  refine S_al0 qX3_addStep_21 ?_
  refine S_getI qX3_addStep_22 fX3_30 (H_2 hh) ?_
  refine S_il1 qX3_addStep_25 ?_
  refine S_iast qX3_addStep_26 (Ha_1 hh) (K := ?_)
  refine S_al0 qX3_addStep_27 ?_
  refine S_getR qX3_addStep_28 fX3_19 (H_5 hh) ?_
  refine S_al0 qX3_addStep_31 ?_
  refine S_getI qX3_addStep_32 fX3_30 (H_2 hh) ?_
  refine S_al0 qX3_addStep_35 ?_
  refine S_getI qX3_addStep_36 fX3_33 (H_3 hh) ?_
  refine S_iast qX3_addStep_39 (Ha_2 hh) (h0 := by rw [upR_n _ (show h ≠ h + 1 by omega)]; omega) (K := ?_)
  refine S_al0 qX3_addStep_40 ?_
  refine S_dup (d := qX3_addStep_41) (k := ?_)
  refine S_getI qX3_addStep_42 fX3_30 (H_2 hh) ?_
  refine S_iconst qX3_addStep_45 ?_
  refine S_iadd qX3_addStep_46 ?_
  refine S_putI qX3_addStep_47 fX3_30 (H_2 hh) tX3_2 ?_
  refine S_vret hz qX3_addStep_50 ?_
  refine ⟨rfl, ?_⟩
  unfold asM
  simp only [upR_n _ (show h ≠ h + 1 by omega), upR_n _ (show h ≠ h + 2 by omega), upR_n _ (show h + 2 ≠ h + 1 by omega)]

theorem nar_c {x : Int} (h : 0 ≤ x ∧ x ≤ 255) : narrow .char (.int (Int32.ofInt x)) = .int (Int32.ofInt x) := by
  have h2 : ∀ n : Fin 256, vp_nar .char (Int32.ofInt (n.1 : Int)) = Int32.ofInt (n.1 : Int) := by decide +kernel
  have h3 := h2 ⟨x.toNat, by omega⟩
  have h4 : ((x.toNat : Nat) : Int) = x := by omega
  rw [h4] at h3
  show Value.int (vp_nar .char (Int32.ofInt x)) = _
  rw [h3]
def ahS (T : Int → Int) (L p : Int) : Int := if p < L ∧ p < 100 then T p else 255
def atM (V : MM) (p : Int) : MM := upR V 4 (ur (V 4) 2 p)
abbrev ahV (V : MM) : Int := ahS (V 5) (V 4 1) (V 4 2)
def TInv (V : MM) : Prop := (0 ≤ V 4 1 ∧ V 4 1 ≤ 100) ∧ (0 ≤ V 4 2 ∧ V 4 2 ≤ 100) ∧ ∀ i, 0 ≤ i ∧ i < 100 → 0 ≤ V 5 i ∧ V 5 i ≤ 127
theorem atM_id (V : MM) : atM V (V 4 2) = V := by unfold atM; rw [ur_id, upR_id]
theorem ah_rg {V : MM} (h : TInv V) : 0 ≤ ahV V ∧ ahV V ≤ 255 := by
  obtain ⟨h1, h2, h3⟩ := h
  unfold ahV ahS
  split
  · have := h3 (V 4 2) (by omega)
    omega
  · omega

theorem c_tadd {g : GC} {V : MM} {c : Int} (hc : 0 ≤ c ∧ c ≤ 127) (hl : 0 ≤ V 4 1 ∧ V 4 1 < 100) : Ct g mX4_add 1 [vr 4, vi c] V (RW (upR (upR V 5 (ur (V 5) (V 4 1) c)) 4 (ur (V 4) 1 (V 4 1 + 1)))) := by
  refine Ct.of (ls := [some (vr 4), some (vi c)]) (plainFor_of_name (by decide +kernel)) rfl (by exact Nat.le_of_ble_eq_true rfl) (fun X hz hD => ?_)
  refine S_al0 qX4_add_0 ?_
  refine S_getI qX4_add_1 fX4_15 e4_1 ?_
  refine S_if_lt (d := qX4_add_4) (kt := fun c4 => ?_) (kf := fun c4 => ?_)
  · omega
  refine S_al0 qX4_add_7 ?_
  refine S_getI qX4_add_8 fX4_15 e4_1 ?_
  refine S_bipush (d := qX4_add_11) (k := ?_)
  refine S_icmp_lt (d := qX4_add_13) (kt := fun c13 => ?_) (kf := fun c13 => ?_)
  rotate_left
  · omega
  refine S_al0 qX4_add_17 ?_
  refine S_getR qX4_add_18 fX4_11 e4_0 ?_
  refine S_al0 qX4_add_21 ?_
  refine S_getI qX4_add_22 fX4_15 e4_1 ?_
  refine S_il1 qX4_add_25 ?_
  refine S_cast qX4_add_26 a5 (hx1 := by have h5 := nar_c (x := c) (by omega); exact Value.int.inj h5) (K := ?_)
  refine S_al0 qX4_add_27 ?_
  refine S_dup (d := qX4_add_28) (k := ?_)
  refine S_getI qX4_add_29 fX4_15 e4_1 ?_
  refine S_iconst qX4_add_32 ?_
  refine S_iadd qX4_add_33 ?_
  refine S_putI qX4_add_34 fX4_15 e4_1 tX4_1 ?_
  refine S_vret hz qX4_add_37 ?_
  refine ⟨rfl, ?_⟩
  simp only [upR_n _ (show (4 : Nat) ≠ 5 by omega)]

theorem c_ahead {g : GC} {V : MM} (hT : TInv V) : Ct g mX4_ahead 1 [vr 4] V (RE V (ahV V)) := by
  refine Ct.of (ls := [some (vr 4)]) (plainFor_of_name (by decide +kernel)) rfl (by exact Nat.le_of_ble_eq_true rfl) (fun X hz hD => ?_)
  have ha := ah_rg hT
  obtain ⟨h1, h2, h3⟩ := id hT
  refine S_al0 qX4_ahead_0 ?_
  refine S_getI qX4_ahead_1 fX4_19 e4_2 ?_
  refine S_if_lt (d := qX4_ahead_4) (kt := fun c4 => ?_) (kf := fun c4 => ?_)
  · omega
  refine S_al0 qX4_ahead_7 ?_
  refine S_getI qX4_ahead_8 fX4_19 e4_2 ?_
  refine S_al0 qX4_ahead_11 ?_
  refine S_getI qX4_ahead_12 fX4_15 e4_1 ?_
  refine S_icmp_ge (d := qX4_ahead_15) (kt := fun c15 => ?_) (kf := fun c15 => ?_)
  · refine S_sipush (d := qX4_ahead_39) (k := ?_)
    refine S_cret hz qX4_ahead_42 ?_ ?_
    · first | exact nar_c (by omega) | exact nar_c (by have := h3 (V 4 2) (by omega); omega)
    refine RE.mk ?_
    unfold ahV ahS
    first | (rw [if_pos (by omega)]; done) | (rw [if_neg (by omega)]; done) | (exfalso; omega)
  · refine S_al0 qX4_ahead_18 ?_
    refine S_getI qX4_ahead_19 fX4_19 e4_2 ?_
    refine S_bipush (d := qX4_ahead_22) (k := ?_)
    refine S_icmp_ge (d := qX4_ahead_24) (kt := fun c24 => ?_) (kf := fun c24 => ?_)
    · refine S_sipush (d := qX4_ahead_39) (k := ?_)
      refine S_cret hz qX4_ahead_42 ?_ ?_
      · first | exact nar_c (by omega) | exact nar_c (by have := h3 (V 4 2) (by omega); omega)
      refine RE.mk ?_
      unfold ahV ahS
      first | (rw [if_pos (by omega)]; done) | (rw [if_neg (by omega)]; done) | (exfalso; omega)
    · refine S_al0 qX4_ahead_27 ?_
      refine S_getR qX4_ahead_28 fX4_11 e4_0 ?_
      refine S_al0 qX4_ahead_31 ?_
      refine S_getI qX4_ahead_32 fX4_19 e4_2 ?_
      refine S_cald qX4_ahead_35 a5 (K := ?_)
      refine S_goto qX4_ahead_36 ?_
      refine S_cret hz qX4_ahead_42 ?_ ?_
      · first | exact nar_c (by omega) | exact nar_c (by have := h3 (V 4 2) (by omega); omega)
      refine RE.mk ?_
      unfold ahV ahS
      first | (rw [if_pos (by omega)]; done) | (rw [if_neg (by omega)]; done) | (exfalso; omega)

/-- takes: with one or none -/
def taP (V : MM) (c : Int) : Int → MM → Prop := fun z V' => (z = 1 ∧ ahV V = c ∧ V' = atM V (V 4 2 + 1)) ∨ (z = 0 ∧ ahV V ≠ c ∧ V' = V)

theorem c_takes {g : GC} {V : MM} {c : Int} (hT : TInv V) (hc : 0 ≤ c ∧ c ≤ 255) : Ct g mX4_takes 2 [vr 4, vi c] V (RI (taP V c)) := by
  refine Ct.of (ls := [some (vr 4), some (vi c)]) (plainFor_of_name (by decide +kernel)) rfl (by exact Nat.le_of_ble_eq_true rfl) (fun X hz hD => ?_)
  have ha := ah_rg hT
  obtain ⟨h1, h2, h3⟩ := id hT
  refine S_al0 qX4_takes_0 ?_
  refine S_V0E hD qX4_takes_1 lX4_35 vX4_ahead r4 (c_ahead hT) (K := ?_)
  refine S_il1 qX4_takes_4 ?_
  refine S_icmp_eq (d := qX4_takes_5) (kt := fun c5 => ?_) (kf := fun c5 => ?_)
  · refine S_al0 qX4_takes_10 ?_
    refine S_dup (d := qX4_takes_11) (k := ?_)
    refine S_getI qX4_takes_12 fX4_19 e4_2 ?_
    refine S_iconst qX4_takes_15 ?_
    refine S_iadd qX4_takes_16 ?_
    refine S_putI qX4_takes_17 fX4_19 e4_2 tX4_2 ?_
    refine S_iconst qX4_takes_20 ?_
    refine S_zret hz qX4_takes_21 (by omega) ?_
    refine ⟨_, rfl, ?_⟩
    first | exact Or.inl ⟨rfl, by omega, rfl⟩ | exact Or.inr ⟨rfl, by omega, rfl⟩
  · refine S_iconst qX4_takes_8 ?_
    refine S_zret hz qX4_takes_9 (by omega) ?_
    refine ⟨_, rfl, ?_⟩
    first | exact Or.inl ⟨rfl, by omega, rfl⟩ | exact Or.inr ⟨rfl, by omega, rfl⟩

abbrev dgS (T : Int → Int) (L p : Int) : Prop := p < L ∧ p < 100 ∧ 48 ≤ T p ∧ T p ≤ 57
/-- a number at p: itself and the place behind it -/
def nuS (T : Int → Int) (L p : Int) : Int × Int := if dgS T L p then (if dgS T L (p + 1) then ((T p - 48) * 10 + (T (p + 1) - 48), p + 2) else (T p - 48, p + 1)) else (-1, p)
abbrev nuV (V : MM) : Int × Int := nuS (V 5) (V 4 1) (V 4 2)
theorem atM_4 (V : MM) (p : Int) : atM V p 4 = ur (V 4) 2 p := upR_s ..
theorem atM_n {V : MM} (p : Int) {k : Nat} (h : k ≠ 4) : atM V p k = V k := upR_n _ h
theorem atM_at (V : MM) (p q : Int) : atM (atM V p) q = atM V q := by
  unfold atM
  rw [upR_s, ur_u, upR_u]
theorem nu_rg (T : Int → Int) (L p : Int) : (nuS T L p).1 ≤ 99 ∧ -1 ≤ (nuS T L p).1 ∧ p ≤ (nuS T L p).2 ∧ (nuS T L p).2 ≤ p + 2 := by
  unfold nuS
  split
  · split
    · refine ⟨?_, ?_, ?_, ?_⟩ <;> show _ ≤ _ <;> omega
    · refine ⟨?_, ?_, ?_, ?_⟩ <;> show _ ≤ _ <;> omega
  · refine ⟨?_, ?_, ?_, ?_⟩ <;> show _ ≤ _ <;> omega

theorem nu_tail {g : GC} {X : CX} {V : MM} {n : Int} (h1 : 0 ≤ V 4 1 ∧ V 4 1 ≤ 100) (h2 : 0 ≤ V 4 2 ∧ V 4 2 ≤ 100) (h3 : ∀ i, 0 ≤ i ∧ i < 100 → 0 ≤ V 5 i ∧ V 5 i ≤ 127) (hn : 0 ≤ n ∧ n ≤ 9) {Q : Option AV → MM → Prop} (hz : Fi g X (some .int) Q) (hQ : dgS (V 5) (V 4 1) (V 4 2) → Q (some (vi (n * 10 + (V 5 (V 4 2) - 48)))) (atM V (V 4 2 + 1))) (hQ2 : ¬ dgS (V 5) (V 4 1) (V 4 2) → Q (some (vi n)) V) : SW g X RX4 cX4_readNumber 4 [some (vr 4), some (vi n), some (vi 1), none] [] V := by
  refine S_il2 qX4_readNumber_4 ?_
  refine S_iconst qX4_readNumber_5 ?_
  refine S_icmp_ge (d := qX4_readNumber_6) (kt := fun c => absurd c (by decide)) (kf := fun _ => ?_)
  refine S_al0 qX4_readNumber_9 ?_
  refine S_getI qX4_readNumber_10 fX4_19 e4_2 ?_
  refine S_if_lt (d := qX4_readNumber_13) (kt := fun c13 => ?_) (kf := fun c13 => ?_)
  · omega
  refine S_al0 qX4_readNumber_16 ?_
  refine S_getI qX4_readNumber_17 fX4_19 e4_2 ?_
  refine S_al0 qX4_readNumber_20 ?_
  refine S_getI qX4_readNumber_21 fX4_15 e4_1 ?_
  refine S_icmp_ge (d := qX4_readNumber_24) (kt := fun c24 => ?_) (kf := fun c24 => ?_)
  · refine S_il1 qX4_readNumber_93 ?_
    refine S_iret hz qX4_readNumber_94 ?_
    first | exact hQ (by unfold dgS; omega) | exact hQ2 (by unfold dgS; omega)
  · refine S_al0 qX4_readNumber_27 ?_
    refine S_getI qX4_readNumber_28 fX4_19 e4_2 ?_
    refine S_bipush (d := qX4_readNumber_31) (k := ?_)
    refine S_icmp_ge (d := qX4_readNumber_33) (kt := fun c33 => ?_) (kf := fun c33 => ?_)
    · refine S_il1 qX4_readNumber_93 ?_
      refine S_iret hz qX4_readNumber_94 ?_
      first | exact hQ (by unfold dgS; omega) | exact hQ2 (by unfold dgS; omega)
    · refine S_al0 qX4_readNumber_36 ?_
      refine S_getR qX4_readNumber_37 fX4_11 e4_0 ?_
      refine S_al0 qX4_readNumber_40 ?_
      refine S_getI qX4_readNumber_41 fX4_19 e4_2 ?_
      refine S_cald qX4_readNumber_44 a5 (K := ?_)
      have h4 := h3 (V 4 2) (by omega)
      refine S_bipush (d := qX4_readNumber_45) (k := ?_)
      refine S_isub qX4_readNumber_47 ?_
      refine S_is3 qX4_readNumber_48 (K := ?_)
      refine S_il3 qX4_readNumber_49 ?_
      refine S_if_lt (d := qX4_readNumber_50) (kt := fun c50 => ?_) (kf := fun c50 => ?_)
      · refine S_il1 qX4_readNumber_59 ?_
        refine S_iret hz qX4_readNumber_60 ?_
        first | exact hQ (by unfold dgS; omega) | exact hQ2 (by unfold dgS; omega)
      · refine S_il3 qX4_readNumber_53 ?_
        refine S_bipush (d := qX4_readNumber_54) (k := ?_)
        refine S_icmp_le (d := qX4_readNumber_56) (kt := fun c56 => ?_) (kf := fun c56 => ?_)
        · refine S_il1 qX4_readNumber_61 ?_
          refine S_iconst qX4_readNumber_62 ?_
          refine S_icmp_ne (d := qX4_readNumber_63) (kt := fun c63 => ?_) (kf := fun c63 => ?_)
          rotate_left
          · omega
          refine S_il1 qX4_readNumber_70 ?_
          refine S_bipush (d := qX4_readNumber_71) (k := ?_)
          refine S_imul qX4_readNumber_73 ?_
          refine S_il3 qX4_readNumber_74 ?_
          refine S_iadd qX4_readNumber_75 ?_
          refine S_is1 qX4_readNumber_76 (K := ?_)
          refine S_al0 qX4_readNumber_77 ?_
          refine S_dup (d := qX4_readNumber_78) (k := ?_)
          refine S_getI qX4_readNumber_79 fX4_19 e4_2 ?_
          refine S_iconst qX4_readNumber_82 ?_
          refine S_iadd qX4_readNumber_83 ?_
          refine S_putI qX4_readNumber_84 fX4_19 e4_2 tX4_2 ?_
          refine S_inc2 qX4_readNumber_87 (K := ?_)
          refine S_goto qX4_readNumber_90 ?_
          refine S_il2 qX4_readNumber_4 ?_
          refine S_iconst qX4_readNumber_5 ?_
          refine S_icmp_ge (d := qX4_readNumber_6) (kt := fun _ => ?_) (kf := fun c => absurd c (by decide))
          refine S_il1 qX4_readNumber_93 ?_
          refine S_iret hz qX4_readNumber_94 ?_
          first | exact hQ (by unfold dgS; omega) | exact hQ2 (by unfold dgS; omega)
        · refine S_il1 qX4_readNumber_59 ?_
          refine S_iret hz qX4_readNumber_60 ?_
          first | exact hQ (by unfold dgS; omega) | exact hQ2 (by unfold dgS; omega)
theorem c_readNumber {g : GC} {V : MM} (hT : TInv V) : Ct g mX4_readNumber 1 [vr 4] V (fun r V2 => r = some (vi (nuV V).1) ∧ V2 = atM V (nuV V).2) := by
  refine Ct.of (ls := [some (vr 4), none, none, none]) (plainFor_of_name (by decide +kernel)) rfl (by exact Nat.le_of_ble_eq_true rfl) (fun X hz hD => ?_)
  obtain ⟨h1, h2, h3⟩ := id hT
  refine S_iconst qX4_readNumber_0 ?_
  refine S_is1 qX4_readNumber_1 (K := ?_)
  refine S_iconst qX4_readNumber_2 ?_
  refine S_is2 qX4_readNumber_3 (K := ?_)
  refine S_il2 qX4_readNumber_4 ?_
  refine S_iconst qX4_readNumber_5 ?_
  refine S_icmp_ge (d := qX4_readNumber_6) (kt := fun c => absurd c (by decide)) (kf := fun _ => ?_)
  refine S_al0 qX4_readNumber_9 ?_
  refine S_getI qX4_readNumber_10 fX4_19 e4_2 ?_
  refine S_if_lt (d := qX4_readNumber_13) (kt := fun c13 => ?_) (kf := fun c13 => ?_)
  · omega
  refine S_al0 qX4_readNumber_16 ?_
  refine S_getI qX4_readNumber_17 fX4_19 e4_2 ?_
  refine S_al0 qX4_readNumber_20 ?_
  refine S_getI qX4_readNumber_21 fX4_15 e4_1 ?_
  refine S_icmp_ge (d := qX4_readNumber_24) (kt := fun c24 => ?_) (kf := fun c24 => ?_)
  · refine S_il1 qX4_readNumber_93 ?_
    refine S_iret hz qX4_readNumber_94 ?_
    have e : nuV V = (-1, V 4 2) := if_neg (by unfold dgS; omega)
    rw [e]
    exact ⟨rfl, (atM_id V).symm⟩
  · refine S_al0 qX4_readNumber_27 ?_
    refine S_getI qX4_readNumber_28 fX4_19 e4_2 ?_
    refine S_bipush (d := qX4_readNumber_31) (k := ?_)
    refine S_icmp_ge (d := qX4_readNumber_33) (kt := fun c33 => ?_) (kf := fun c33 => ?_)
    · refine S_il1 qX4_readNumber_93 ?_
      refine S_iret hz qX4_readNumber_94 ?_
      have e : nuV V = (-1, V 4 2) := if_neg (by unfold dgS; omega)
      rw [e]
      exact ⟨rfl, (atM_id V).symm⟩
    · refine S_al0 qX4_readNumber_36 ?_
      refine S_getR qX4_readNumber_37 fX4_11 e4_0 ?_
      refine S_al0 qX4_readNumber_40 ?_
      refine S_getI qX4_readNumber_41 fX4_19 e4_2 ?_
      refine S_cald qX4_readNumber_44 a5 (K := ?_)
      have h4 := h3 (V 4 2) (by omega)
      refine S_bipush (d := qX4_readNumber_45) (k := ?_)
      refine S_isub qX4_readNumber_47 ?_
      refine S_is3 qX4_readNumber_48 (K := ?_)
      refine S_il3 qX4_readNumber_49 ?_
      refine S_if_lt (d := qX4_readNumber_50) (kt := fun c50 => ?_) (kf := fun c50 => ?_)
      · refine S_il1 qX4_readNumber_59 ?_
        refine S_iret hz qX4_readNumber_60 ?_
        have e : nuV V = (-1, V 4 2) := if_neg (by unfold dgS; omega)
        rw [e]
        exact ⟨rfl, (atM_id V).symm⟩
      · refine S_il3 qX4_readNumber_53 ?_
        refine S_bipush (d := qX4_readNumber_54) (k := ?_)
        refine S_icmp_le (d := qX4_readNumber_56) (kt := fun c56 => ?_) (kf := fun c56 => ?_)
        · refine S_il1 qX4_readNumber_61 ?_
          refine S_iconst qX4_readNumber_62 ?_
          refine S_icmp_ne (d := qX4_readNumber_63) (kt := fun c => absurd c (by decide)) (kf := fun _ => ?_)
          refine S_il3 qX4_readNumber_66 ?_
          refine S_goto qX4_readNumber_67 ?_
          refine S_is1 qX4_readNumber_76 (K := ?_)
          refine S_al0 qX4_readNumber_77 ?_
          refine S_dup (d := qX4_readNumber_78) (k := ?_)
          refine S_getI qX4_readNumber_79 fX4_19 e4_2 ?_
          refine S_iconst qX4_readNumber_82 ?_
          refine S_iadd qX4_readNumber_83 ?_
          refine S_putI qX4_readNumber_84 fX4_19 e4_2 tX4_2 ?_
          refine S_inc2 qX4_readNumber_87 (K := ?_)
          refine S_goto qX4_readNumber_90 ?_
          have ha : V 4 2 < V 4 1 ∧ V 4 2 < 100 ∧ 48 ≤ V 5 (V 4 2) ∧ V 5 (V 4 2) ≤ 57 := by omega
          refine SW.forget 3 (nu_tail (V := atM V (V 4 2 + 1)) ?_ ?_ ?_ ?_ hz ?_ ?_)
          · rw [atM_4, ur_n _ (by omega)]; exact h1
          · rw [atM_4, ur_s]; omega
          · rw [atM_n _ (by omega)]; exact h3
          · omega
          · intro hd
            rw [atM_n _ (show (5 : Nat) ≠ 4 by omega), atM_4, ur_s, ur_n _ (show (1 : Int) ≠ 2 by omega)] at hd
            have e : nuV V = ((V 5 (V 4 2) - 48) * 10 + (V 5 (V 4 2 + 1) - 48), V 4 2 + 2) := by
              unfold nuV nuS
              rw [if_pos ha, if_pos hd]
            rw [e, atM_n _ (show (5 : Nat) ≠ 4 by omega), atM_4, ur_s, atM_at, show V 4 2 + 1 + 1 = V 4 2 + 2 by omega]
            exact ⟨rfl, rfl⟩
          · intro hd
            rw [atM_n _ (show (5 : Nat) ≠ 4 by omega), atM_4, ur_s, ur_n _ (show (1 : Int) ≠ 2 by omega)] at hd
            have e : nuV V = (V 5 (V 4 2) - 48, V 4 2 + 1) := by
              unfold nuV nuS
              rw [if_pos ha, if_neg hd]
            rw [e]
            exact ⟨rfl, rfl⟩
        · refine S_il1 qX4_readNumber_59 ?_
          refine S_iret hz qX4_readNumber_60 ?_
          have e : nuV V = (-1, V 4 2) := if_neg (by unfold dgS; omega)
          rw [e]
          exact ⟨rfl, (atM_id V).symm⟩
