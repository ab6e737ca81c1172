def tpZ (Z : ZT) (t : Int) (x : Int × Int × (Int → Int)) : ZT := (Z.1, Z.2.1, Z.2.2.1, Z.2.2.2.1, Z.2.2.2.2.1, Z.2.2.2.2.2.1, Z.2.2.2.2.2.2.1, fun i => if i = t then x else Z.2.2.2.2.2.2.2 i)
def tpS (Z : ZT) (t : Int) : Int := (Z.2.2.2.2.2.2.2 t).1
def tpN (Z : ZT) (t : Int) : Int := (Z.2.2.2.2.2.2.2 t).2.1
def tpR (Z : ZT) (t : Int) : Int → Int := (Z.2.2.2.2.2.2.2 t).2.2
def judS (wa it : Int → Int) (i len : Int) : Nat → Int → Int
  | 0, _ => -5
  | n + 1, k => if i < 0 ∨ len - k ≤ i then 100 + k else if Int64.ofInt (it (i + k)) = Int64.ofInt (wa k) then judS wa it i len n (k + 1) else 10 * (k / 8) + k % 8
def oJudge (Z : ZT) (t i : Int) : Int := if t < 0 ∨ 5 < t then -1 else if 0 < tpS Z t then -12 else judS Z.1.2.2.2.2.2.1 (tpR Z t) i (tpN Z t) (8 * Z.1.1).toNat 0
def oTaken (Z : ZT) (d k : Int) : Int := if k < 0 ∨ 6 < k then -2 else if d < 0 ∨ Z.1.1 ≤ d then -11 else if k = 0 ∨ Z.1.2.2.1 d = k ∨ (k = 1 ∧ Z.1.2.2.1 d = 4) ∨ (k = 2 ∧ Z.1.2.2.1 d = 5) ∨ (k = 3 ∧ Z.1.2.2.1 d = 6) then Z.1.2.2.1 d else -12
def nTape (Z : ZT) (t s n : Int) : Int × ZT := if t < 0 ∨ 5 < t then (-1, Z) else if s = -1 then (1, tpZ Z t (-1, 0, lz (tpR Z t) 0 0 60)) else if s < 0 ∨ 4 < s ∨ 60 < n then (-2, Z) else if n < 0 then (-14, Z) else (1, tpZ Z t (s, n, lz (tpR Z t) 0 0 60))
def nItem (Z : ZT) (t i z : Int) : Int × ZT := if t < 0 ∨ 5 < t then (-1, Z) else if tpS Z t = -1 then (-11, Z) else if i < 0 ∨ tpN Z t ≤ i then (-13, Z) else (1, tpZ Z t (tpS Z t, tpN Z t, ur (tpR Z t) i (fitS (tpS Z t) z)))
def oRead (Z : ZT) (t i : Int) : Int := if t < 0 ∨ 5 < t ∨ tpS Z t = -1 ∨ i < 0 ∨ tpN Z t ≤ i then NOl else tpR Z t i
def nShift (Z : ZT) (t i o j n : Int) : Int × ZT := if t < 0 ∨ 5 < t ∨ o < 0 ∨ 5 < o then (-1, Z) else if tpS Z t = -1 ∨ tpS Z o = -1 then (-11, Z) else if tpS Z t ≠ tpS Z o then (-12, Z) else if n < 0 ∨ i < 0 ∨ j < 0 ∨ tpN Z t - n < i ∨ tpN Z o - n < j then (-13, Z) else (n, tpZ Z o (tpS Z o, tpN Z o, cpS (tpR Z t) (tpR Z o) i j n))
theorem CAg.at {V : MM} {Z : ZT} (h : CAg V Z) {t : Int} (ht : 0 ≤ t ∧ t < 6) : tpS Z t = V (71 + 2 * t.toNat) 0 ∧ tpN Z t = V (71 + 2 * t.toNat) 1 ∧ tpR Z t = V (71 + 2 * t.toNat + 1) ∧ (-1 ≤ V (71 + 2 * t.toNat) 0 ∧ V (71 + 2 * t.toNat) 0 ≤ 4) ∧ (0 ≤ V (71 + 2 * t.toNat) 1 ∧ V (71 + 2 * t.toNat) 1 ≤ 60) ∧ (V (71 + 2 * t.toNat) 0 = -1 → V (71 + 2 * t.toNat) 1 = 0) := by
  have h1 := h t.toNat (by omega)
  rw [show ((t.toNat : Nat) : Int) = t by omega] at h1
  unfold tpS tpN tpR
  rw [h1.1]
  exact ⟨rfl, rfl, rfl, h1.2⟩
/-- a tape has become another -/
theorem CA.tp {V V' : MM} {Z : ZT} {t : Int} {x : Int × Int × (Int → Int)} (hZ : CA V Z) (ht : 0 ≤ t ∧ t < 6) (hS : ∀ k : Nat, k ≠ 71 + 2 * t.toNat → k ≠ 71 + 2 * t.toNat + 1 → V' k = V k) (e0 : V' (71 + 2 * t.toNat) 0 = x.1) (e1 : V' (71 + 2 * t.toNat) 1 = x.2.1) (e2 : V' (71 + 2 * t.toNat + 1) = x.2.2) (rx : (-1 ≤ x.1 ∧ x.1 ≤ 4) ∧ (0 ≤ x.2.1 ∧ x.2.1 ≤ 60) ∧ (x.1 = -1 → x.2.1 = 0)) : CA V' (tpZ Z t x) := by
  have hS2 : ∀ k : Nat, k < 71 → V' k = V k := fun k hk => hS k (by omega) (by omega)
  refine ⟨⟨hZ.1.1.cong (fun k a b => hS2 k (by omega)) (fun k a b => hS2 k (by omega)), hZ.1.2.1, by rw [hS2 8 (by omega)]; exact hZ.1.2.2⟩, CAh_c hZ.2.1 (by rw [hS2 0 (by omega)]) (fun k a b => hS2 k (by omega)) rfl, CAt_c hZ.2.2.1 (hS2 4 (by omega)) (hS2 5 (by omega)) rfl, CAn_c hZ.2.2.2.1 (fun k a b => hS2 k (by omega)) (Int.le_refl _) rfl, CAi_c hZ.2.2.2.2.1 (by rw [hS2 0 (by omega)]) (fun k a => hS2 k (by omega)) rfl rfl, CAr_c hZ.2.2.2.2.2.1 (by rw [hS2 6 (by omega)]) (hS2 7 (by omega)) rfl, fun i hi => ?_⟩
  show (if (i : Int) = t then x else Z.2.2.2.2.2.2.2 i) = _ ∧ _
  by_cases e : (i : Int) = t
  · subst e
    rw [if_pos rfl]
    rw [Int.toNat_natCast] at e0 e1 e2
    rw [e0, e1, e2]
    exact ⟨rfl, rx⟩
  · rw [if_neg e, hS (71 + 2 * i) (by omega) (by omega), hS (71 + 2 * i + 1) (by omega) (by omega)]
    exact hZ.2.2.2.2.2.2 i hi

theorem c_image {g : GC} {V : MM} {Z : ZT} (hZ : CA V Z) : Ct g mX6_image 5 [vr 0] V (RZ V (nImage Z).1 (nImage Z).2) := by
  refine Ct.of (ls := [some (vr 0)]) (plainFor_of_name (by decide +kernel)) rfl (by exact Nat.le_of_ble_eq_true rfl) (fun X hz hD => ?_)
  obtain ⟨hF, es, e1, e2, hn, hb, hkv, hfo, hwa, hro, hH, hh, h0, eh, hw, hk, hwz⟩ := hZ.fl
  have ew : Z.2.1.1 = V (V 8 2).toNat 0 := by rw [eh]
  have hr := hZ.1.2.1
  obtain ⟨hN, hNI⟩ := hZ.2.2.2.1
  refine S_al0 qX6_image_0 ?_
  refine S_getR qX6_image_1 fX6_26 e0_2 ?_
  refine S_al0 qX6_image_4 ?_
  refine S_getR qX6_image_5 fX6_17 e0_0 ?_
  refine S_V1V hD qX6_image_8 lX6_158 vX2_become (F_r F22) (c_become F22 (by decide) hF) (kk := fun V8 h8 => ?_)
  obtain ⟨hG, hM, h2⟩ := h8
  refine S_al0 qX6_image_11 ?_
  refine S_getR qX6_image_12 fX6_36 e0_4 ?_
  refine S_al0 qX6_image_15 ?_
  refine S_getR qX6_image_16 fX6_32 e0_3 ?_
  refine S_V1V hD qX6_image_19 lX6_245 vX1_become (B_r B36) (c_handBecome B36 B29 (by decide)) (kk := fun V19 h19 => ?_)
  obtain ⟨hN2, hM2⟩ := h19
  refine S_al0 qX6_image_22 ?_
  refine S_iconst qX6_image_23 ?_
  refine S_putZ qX6_image_24 fX6_248 e0_5 tX6_5 (K := ?_)
  refine S_al0 qX6_image_27 ?_
  refine S_getR qX6_image_28 fX6_17 e0_0 ?_
  refine S_getI qX6_image_31 fX6_72 (F_0 F8) ?_
  refine S_iret hz qX6_image_34 ?_
  have hw : ∀ k : Nat, k ≠ 0 → (k < 22 ∨ 43 ≤ k ∨ 29 ≤ k ∧ k < 36) → upR V19 0 (ur (V19 0) 5 1) k = V k := fun k a b => by rw [upR_n _ a, hM2 k (by omega), hM k (by omega)]
  have h0' : ∀ j : Int, j ≠ 5 → upR V19 0 (ur (V19 0) 5 1) 0 j = V 0 j := fun j a => by rw [upR_s, ur_n _ a, hM2 0 (by omega), hM 0 (by omega)]
  have h05 : upR V19 0 (ur (V19 0) 5 1) 0 5 = 1 := by rw [upR_s, ur_s]
  have hk : ∀ k : Nat, k ≠ 0 → k < 36 ∨ 43 ≤ k → upR V19 0 (ur (V19 0) 5 1) k = V8 k := fun k a b => by rw [upR_n _ a, hM2 k (by omega)]
  have h36 : snC (upR V19 0 (ur (V19 0) 5 1)) 36 = Z.2.2.2.2.1 := by
    rw [← hN, ← sn_c (V' := V8) (V := V) (b := 29) (fun k a b => hM k (by omega)), ← hN2]
    exact sn_c (fun k a b => upR_n _ (by omega))
  generalize upR V19 0 (ur (V19 0) 5 1) = W at hw h0' h05 hk h36
  refine RZ.to (Z' := (nImage Z).2) ⟨⟨hF.cong (fun k a b => hw k (by omega) (by omega)) (fun k a b => hw k (by omega) (by omega)), hZ.1.2.1, by rw [hw 8 (by omega) (by omega)]; exact hZ.1.2.2⟩, CAh_c hZ.2.1 (h0' 7 (by omega)) (fun k a b => hw k (by omega) (by omega)) rfl, CAt_c hZ.2.2.1 (hw 4 (by omega) (by omega)) (hw 5 (by omega) (by omega)) rfl, CAn_c hZ.2.2.2.1 (fun k a b => hw k (by omega) (by omega)) (Int.le_refl _) rfl, Or.inr ⟨(Z.1, Z.2.1, Z.2.2.2.2.1), h05, rfl, hG.cong (fun k a b => hk k (by omega) (by omega)) (fun k a b => hk k (by omega) (by omega)), hZ.1.2.1, by rw [hk 22 (by omega) (by omega), h2]; exact hZ.1.2.2, h36, hNI⟩, CAr_c hZ.2.2.2.2.2.1 (by rw [hw 6 (by omega) (by omega)]) (hw 7 (by omega) (by omega)) rfl, CAg_c hZ.2.2.2.2.2.2 (fun k a b => hw k (by omega) (by omega)) rfl⟩ (fun k hk2 => hw k (by omega) (by omega)) ?_
  unfold nImage
  rw [hw 8 (by omega) (by omega), e1]

theorem c_undo {g : GC} {V : MM} {Z : ZT} (hZ : CA V Z) : Ct g mX6_undo 5 [vr 0] V (RZ V (nUndo Z).1 (nUndo Z).2) := by
  refine Ct.of (ls := [some (vr 0)]) (plainFor_of_name (by decide +kernel)) rfl (by exact Nat.le_of_ble_eq_true rfl) (fun X hz hD => ?_)
  obtain ⟨hF, es, e1, e2, hn, hb, hkv, hfo, hwa, hro, hH, hh, h0, eh, hw, hk, hwz⟩ := hZ.fl
  have ew : Z.2.1.1 = V (V 8 2).toNat 0 := by rw [eh]
  have hr := hZ.1.2.1
  rcases hZ.2.2.2.2.1 with ⟨i1, i2⟩ | ⟨I, i1, i2, i3, i4, i5, i6, i7⟩
  · refine S_al0 qX6_undo_0 ?_
    refine S_getI qX6_undo_1 fX6_248 e0_5 ?_
    refine S_if_ne (d := qX6_undo_4) (kt := fun c4 => ?_) (kf := fun c4 => ?_)
    · omega
    refine S_bipush (d := qX6_undo_7) (k := ?_)
    refine S_iret hz qX6_undo_9 ?_
    refine RZ.eq hZ ?_
    unfold nUndo
    rw [i2]
  · refine S_al0 qX6_undo_0 ?_
    refine S_getI qX6_undo_1 fX6_248 e0_5 ?_
    refine S_if_ne (d := qX6_undo_4) (kt := fun c4 => ?_) (kf := fun c4 => ?_)
    rotate_left
    · omega
    refine S_al0 qX6_undo_10 ?_
    refine S_getR qX6_undo_11 fX6_17 e0_0 ?_
    refine S_al0 qX6_undo_14 ?_
    refine S_getR qX6_undo_15 fX6_26 e0_2 ?_
    refine S_V1V hD qX6_undo_18 lX6_158 vX2_become (F_r F8) (c_become F8 (by decide) i3) (kk := fun V18 h18 => ?_)
    obtain ⟨hG, hM, h2⟩ := h18
    have hg6 := hG.n6
    refine S_al0 qX6_undo_21 ?_
    refine S_getR qX6_undo_22 fX6_32 e0_3 ?_
    refine S_al0 qX6_undo_25 ?_
    refine S_getR qX6_undo_26 fX6_36 e0_4 ?_
    refine S_V1V hD qX6_undo_29 lX6_245 vX1_become (B_r B29) (c_handBecome B29 B36 (by decide)) (kk := fun V29 h29 => ?_)
    obtain ⟨hN2, hM2⟩ := h29
    refine S_al0 qX6_undo_32 ?_
    refine S_getR qX6_undo_33 fX6_17 e0_0 ?_
    refine S_getI qX6_undo_36 fX6_72 (F_0 F8) ?_
    refine S_iret hz qX6_undo_39 ?_
    have hk : ∀ k : Nat, k < 29 ∨ 36 ≤ k → V29 k = V18 k := fun k a => hM2 k (by omega)
    have hw : ∀ k : Nat, k < 8 ∨ 15 ≤ k → k < 29 ∨ 36 ≤ k → V29 k = V k := fun k a b => by rw [hk k b, hM k (by omega)]
    have hN3 : snC V29 29 = I.2.2 := by rw [hN2, ← i6]; exact sn_c (fun k a b => hM k (by omega))
    refine RZ.to (Z' := (I.1, I.2.1, Z.2.2.1, Z.2.2.2.1, I.2.2, Z.2.2.2.2.2)) ⟨⟨hG.cong (fun k a b => hk k (by omega)) (fun k a b => hk k (by omega)), i4, by rw [hk 8 (by omega), h2]; exact i5⟩, CAh_c hZ.2.1 (by rw [hw 0 (by omega) (by omega)]) (fun k a b => hw k (by omega) (by omega)) rfl, CAt_c hZ.2.2.1 (hw 4 (by omega) (by omega)) (hw 5 (by omega) (by omega)) rfl, ⟨hN3, i7⟩, CAi_c hZ.2.2.2.2.1 (by rw [hw 0 (by omega) (by omega)]) (fun k a => hw k (by omega) (by omega)) rfl rfl, CAr_c hZ.2.2.2.2.2.1 (by rw [hw 6 (by omega) (by omega)]) (hw 7 (by omega) (by omega)) rfl, CAg_c hZ.2.2.2.2.2.2 (fun k a b => hw k (by omega) (by omega)) rfl⟩ (fun k hk2 => hw k (by omega) (by omega)) ?_
    unfold nUndo
    rw [i2, hk 8 (by omega), ← hg6.1]

theorem CA.tr {V V' : MM} {Z : ZT} {tr : TR} (hZ : CA V Z) (h6 : V' 6 0 = tr.1) (h7 : V' 7 = tr.2) (hr : 0 ≤ tr.1 ∧ tr.1 ≤ 1000) (hS : ∀ k : Nat, k ≠ 6 → k ≠ 7 → V' k = V k) : CA V' (trZ Z tr) :=
  ⟨⟨hZ.1.1.cong (fun k a b => hS k (by omega) (by omega)) (fun k a b => hS k (by omega) (by omega)), hZ.1.2.1, by rw [hS 8 (by omega) (by omega)]; exact hZ.1.2.2⟩, CAh_c hZ.2.1 (by rw [hS 0 (by omega) (by omega)]) (fun k a b => hS k (by omega) (by omega)) rfl, CAt_c hZ.2.2.1 (hS 4 (by omega) (by omega)) (hS 5 (by omega) (by omega)) rfl, CAn_c hZ.2.2.2.1 (fun k a b => hS k (by omega) (by omega)) (Int.le_refl _) rfl, CAi_c hZ.2.2.2.2.1 (by rw [hS 0 (by omega) (by omega)]) (fun k a => hS k (by omega) (by omega)) rfl rfl, ⟨h6, h7, by rw [h6]; exact hr⟩, CAg_c hZ.2.2.2.2.2.2 (fun k a b => hS k (by omega) (by omega)) rfl⟩

theorem c_act {g : GC} {V : MM} {Z : ZT} {d a x : Int} (hZ : CA V Z) (rd : -2147483648 ≤ d ∧ d ≤ 2147483647) (ra : -2147483648 ≤ a ∧ a ≤ 2147483647) : Ct g mX6_act 28 [vr 0, vi d, vi a, vi x] V (RZ V (nAct Z d a x).1 (nAct Z d a x).2) := by
  refine Ct.of (ls := [some (vr 0), some (vi d), some (vi a), some (vi x)]) (plainFor_of_name (by decide +kernel)) rfl (by exact Nat.le_of_ble_eq_true rfl) (fun X hz hD => ?_)
  obtain ⟨hF, es, e1, e2, hn, hb, hkv, hfo, hwa, hro, hH, hh, h0, eh, hw, hk, hwz⟩ := hZ.fl
  have ew : Z.2.1.1 = V (V 8 2).toNat 0 := by rw [eh]
  have hr := hZ.1.2.1
  obtain ⟨r1, r2, r3⟩ := hZ.2.2.2.2.2.1
  have e8 : upR V 6 (ur (V 6) 0 0) 8 = V 8 := upR_n _ (by omega)
  have e9 : upR V 6 (ur (V 6) 0 0) (8 + 1) = V (8 + 1) := upR_n _ (by omega)
  have e10 : upR V 6 (ur (V 6) 0 0) (8 + 2) = V (8 + 2) := upR_n _ (by omega)
  have e7 : upR V 6 (ur (V 6) 0 0) 7 = V 7 := upR_n _ (by omega)
  have e60 : upR V 6 (ur (V 6) 0 0) 6 0 = 0 := by rw [upR_s, ur_s]
  refine S_al0 qX6_act_0 ?_
  refine S_getR qX6_act_1 fX6_53 e0_9 ?_
  refine S_V0W hD qX6_act_4 lX6_252 vX0_forgetTrace r6 (c_forgetTrace) (K := ?_)
  refine S_al0 qX6_act_7 ?_
  refine S_getR qX6_act_8 fX6_17 e0_0 ?_
  refine S_il1 qX6_act_11 ?_
  refine S_V1B hD qX6_act_12 lX6_80 vX2_has (F_r F8) (c_has F8 (by omega) (by rw [upR_n _ (show (8 : Nat) ≠ 6 by omega)]; omega)) (kt := fun j12 => ?_) (kf := fun j12 => ?_)
  · refine S_if_eq (d := qX6_act_15) (kt := fun c => absurd c (by decide)) (kf := fun _ => ?_)
    refine S_il2 qX6_act_18 ?_
    refine S_if_lt (d := qX6_act_19) (kt := fun c19 => ?_) (kf := fun c19 => ?_)
    · refine S_iconst qX6_act_27 ?_
      refine S_iret hz qX6_act_28 ?_
      try rw [e8] at *
      refine RZ.to (hZ.tr (tr := (0, Z.2.2.2.2.2.2.1.2)) e60 (by rw [e7]; exact r2) ⟨Int.le_refl _, (by omega : (0 : Int) ≤ 1000)⟩ (fun k a b => upR_n _ a)) (fun k hk => upR_n _ (by omega)) ?_
      unfold nAct
      rw [if_pos (by omega)]
    · refine S_il2 qX6_act_22 ?_
      refine S_iconst qX6_act_23 ?_
      refine S_icmp_lt (d := qX6_act_24) (kt := fun c24 => ?_) (kf := fun c24 => ?_)
      · refine S_al0 qX6_act_29 ?_
        refine S_getR qX6_act_30 fX6_53 e0_9 ?_
        refine S_al0 qX6_act_33 ?_
        refine S_getR qX6_act_34 fX6_17 e0_0 ?_
        refine S_il1 qX6_act_37 ?_
        refine S_il2 qX6_act_38 ?_
        refine S_il3 qX6_act_39 ?_
        rw [e8] at j12
        have hk1 := hkv d (by omega)
        refine S_V4I hD qX6_act_40 lX6_255 vX0_play r6 ((c_play (res := actZ (V (8 + 1) d) (V (8 + 2) d) d a x (0, V 7)) F8 (by rw [e8]; omega) (by rw [e8]; omega) (by rw [e9]; omega) (by rw [e9, e10, e60, e7]; exact actZ_eq (by omega) (by omega) ⟨Int.le_refl _, (by omega : (0 : Int) ≤ 900)⟩)).x) (kk := fun z40 V40 h40 => ?_)
        obtain ⟨rfl, hW⟩ := h40
        refine S_iret hz qX6_act_43 ?_
        have hb2 := actZ_1 (V (8 + 1) d) (V (8 + 2) d) d a x (0, V 7)
        replace hb2 : 0 ≤ (actZ (V (8 + 1) d) (V (8 + 2) d) d a x (0, V 7)).2.1 ∧ (actZ (V (8 + 1) d) (V (8 + 2) d) d a x (0, V 7)).2.1 ≤ 0 + 12 := hb2
        refine RZ.to (hZ.tr (tr := (actZ (V (8 + 1) d) (V (8 + 2) d) d a x (0, V 7)).2) ?_ ?_ (by omega) (fun k a b => ?_)) (fun k hk => ?_) ?_
        · rw [hW, trM_6, ur_s]
        · rw [hW, trM_7]
        · rw [hW]
          unfold trM plM
          rw [upR_n _ a, upR_n _ b, upR_n _ a, upR_n _ a]
        · rw [hW]
          unfold trM plM
          rw [upR_n _ (by omega), upR_n _ (by omega), upR_n _ (by omega), upR_n _ (by omega)]
        · unfold nAct
          rw [if_neg (by omega), ← r2]
          rw [es]
      · refine S_iconst qX6_act_27 ?_
        refine S_iret hz qX6_act_28 ?_
        try rw [e8] at *
        refine RZ.to (hZ.tr (tr := (0, Z.2.2.2.2.2.2.1.2)) e60 (by rw [e7]; exact r2) ⟨Int.le_refl _, (by omega : (0 : Int) ≤ 1000)⟩ (fun k a b => upR_n _ a)) (fun k hk => upR_n _ (by omega)) ?_
        unfold nAct
        rw [if_pos (by omega)]
  · refine S_if_eq (d := qX6_act_15) (kt := fun _ => ?_) (kf := fun c => absurd c (by decide))
    refine S_iconst qX6_act_27 ?_
    refine S_iret hz qX6_act_28 ?_
    try rw [e8] at *
    refine RZ.to (hZ.tr (tr := (0, Z.2.2.2.2.2.2.1.2)) e60 (by rw [e7]; exact r2) ⟨Int.le_refl _, (by omega : (0 : Int) ≤ 1000)⟩ (fun k a b => upR_n _ a)) (fun k hk => upR_n _ (by omega)) ?_
    unfold nAct
    rw [if_pos (by omega)]

theorem c_taken {g : GC} {V : MM} {Z : ZT} {d k : Int} (hZ : CA V Z) (rd : -2147483648 ≤ d ∧ d ≤ 2147483647) (rk : -2147483648 ≤ k ∧ k ≤ 2147483647) : Ct g mX6_taken 5 [vr 0, vi d, vi k] V (RZ V (oTaken Z d k) Z) := by
  refine Ct.of (ls := [some (vr 0), some (vi d), some (vi k), none, none, none]) (plainFor_of_name (by decide +kernel)) rfl (by exact Nat.le_of_ble_eq_true rfl) (fun X hz hD => ?_)
  obtain ⟨hF, es, e1, e2, hn, hb, hkv, hfo, hwa, hro, hH, hh, h0, eh, hw, hk, hwz⟩ := hZ.fl
  have ew : Z.2.1.1 = V (V 8 2).toNat 0 := by rw [eh]
  have hr := hZ.1.2.1
  refine S_il2 qX6_taken_0 ?_
  refine S_if_lt (d := qX6_taken_1) (kt := fun c1 => ?_) (kf := fun c1 => ?_)
  · refine S_bipush (d := qX6_taken_10) (k := ?_)
    refine S_iret hz qX6_taken_12 ?_
    refine RZ.same hZ ?_
    unfold oTaken
    first | (rw [if_pos (by omega)]; done) | (rw [if_neg (by omega), if_pos (by omega)]; done)
  · refine S_il2 qX6_taken_4 ?_
    refine S_bipush (d := qX6_taken_5) (k := ?_)
    refine S_icmp_lt (d := qX6_taken_7) (kt := fun c7 => ?_) (kf := fun c7 => ?_)
    · refine S_al0 qX6_taken_13 ?_
      refine S_getR qX6_taken_14 fX6_17 e0_0 ?_
      refine S_il1 qX6_taken_17 ?_
      refine S_V1B hD qX6_taken_18 lX6_80 vX2_has (F_r F8) (c_has F8 (by omega) (by omega)) (kt := fun j18 => ?_) (kf := fun j18 => ?_)
      · refine S_if_ne (d := qX6_taken_21) (kt := fun _ => ?_) (kf := fun c => absurd c (by decide))
        refine S_al0 qX6_taken_27 ?_
        refine S_getR qX6_taken_28 fX6_17 e0_0 ?_
        refine S_getR qX6_taken_31 fX6_83 (F_3 F8) ?_
        refine S_il1 qX6_taken_34 ?_
        refine S_iald qX6_taken_35 (Fa_1 F8) (K := ?_)
        have hk1 := hkv d (by omega)
        have ek : Z.1.2.2.1 d = V (8 + 1) d := by rw [es]
        have h7 : V (8 + 1) d = 0 ∨ V (8 + 1) d = 1 ∨ V (8 + 1) d = 2 ∨ V (8 + 1) d = 3 ∨ V (8 + 1) d = 4 ∨ V (8 + 1) d = 5 ∨ V (8 + 1) d = 6 := by omega
        rcases h7 with h7 | h7 | h7 | h7 | h7 | h7 | h7
        · rw [h7]
          refine S_is3 qX6_taken_36 (K := ?_)
          refine S_il3 qX6_taken_37 ?_
          refine S_is4 qX6_taken_38 (K := ?_)
          refine S_iconst qX6_taken_40 ?_
          refine S_is5 qX6_taken_41 (K := ?_)
          refine S_il5 qX6_taken_43 ?_
          refine S_bipush (d := qX6_taken_45) (k := ?_)
          refine S_icmp_ge (d := qX6_taken_47) (kt := fun c => absurd c (by decide)) (kf := fun _ => ?_)
          refine S_il4 qX6_taken_50 ?_
          refine S_if_lt (d := qX6_taken_52) (kt := fun c => absurd c (by decide)) (kf := fun _ => ?_)
          refine S_il4 qX6_taken_55 ?_
          refine S_bipush (d := qX6_taken_57) (k := ?_)
          refine S_icmp_ge (d := qX6_taken_59) (kt := fun c => absurd c (by decide)) (kf := fun _ => ?_)
          refine S_il4 qX6_taken_62 ?_
          refine S_il2 qX6_taken_64 ?_
          refine S_icmp_ne (d := qX6_taken_65) (kt := fun c65 => ?_) (kf := fun c65 => ?_)
          · refine S_gets (v := vr 220) qX6_taken_70 sX6_265 (fun g2 U H h => h.2.1.1) ?_
            refine S_il4 qX6_taken_73 ?_
            refine S_tild (z := -1) qX6_taken_75 (fun g2 U H h => ro_above h) (by decide) (by decide) ?_
            refine S_is4 qX6_taken_76 (K := ?_)
            refine S_inc5 qX6_taken_78 (K := ?_)
            refine S_goto qX6_taken_81 ?_
            refine S_il5 qX6_taken_43 ?_
            refine S_bipush (d := qX6_taken_45) (k := ?_)
            refine S_icmp_ge (d := qX6_taken_47) (kt := fun c => absurd c (by decide)) (kf := fun _ => ?_)
            refine S_il4 qX6_taken_50 ?_
            refine S_if_lt (d := qX6_taken_52) (kt := fun _ => ?_) (kf := fun c => absurd c (by decide))
            refine S_bipush (d := qX6_taken_84) (k := ?_)
            refine S_iret hz qX6_taken_86 ?_
            refine RZ.same hZ ?_
            unfold oTaken
            rw [if_neg (by omega), if_neg (by omega)]
            first
              | (rw [if_pos (by omega), ek, h7]; done)
              | (rw [if_neg (by omega)]; done)
          · refine S_il3 qX6_taken_68 ?_
            refine S_iret hz qX6_taken_69 ?_
            refine RZ.same hZ ?_
            unfold oTaken
            rw [if_neg (by omega), if_neg (by omega)]
            first
              | (rw [if_pos (by omega), ek, h7]; done)
              | (rw [if_neg (by omega)]; done)
        · rw [h7]
          refine S_is3 qX6_taken_36 (K := ?_)
          refine S_il3 qX6_taken_37 ?_
          refine S_is4 qX6_taken_38 (K := ?_)
          refine S_iconst qX6_taken_40 ?_
          refine S_is5 qX6_taken_41 (K := ?_)
          refine S_il5 qX6_taken_43 ?_
          refine S_bipush (d := qX6_taken_45) (k := ?_)
          refine S_icmp_ge (d := qX6_taken_47) (kt := fun c => absurd c (by decide)) (kf := fun _ => ?_)
          refine S_il4 qX6_taken_50 ?_
          refine S_if_lt (d := qX6_taken_52) (kt := fun c => absurd c (by decide)) (kf := fun _ => ?_)
          refine S_il4 qX6_taken_55 ?_
          refine S_bipush (d := qX6_taken_57) (k := ?_)
          refine S_icmp_ge (d := qX6_taken_59) (kt := fun c => absurd c (by decide)) (kf := fun _ => ?_)
          refine S_il4 qX6_taken_62 ?_
          refine S_il2 qX6_taken_64 ?_
          refine S_icmp_ne (d := qX6_taken_65) (kt := fun c65 => ?_) (kf := fun c65 => ?_)
          · refine S_gets (v := vr 220) qX6_taken_70 sX6_265 (fun g2 U H h => h.2.1.1) ?_
            refine S_il4 qX6_taken_73 ?_
            refine S_tild (z := 0) qX6_taken_75 (fun g2 U H h => ro_above h) (by decide) (by decide) ?_
            refine S_is4 qX6_taken_76 (K := ?_)
            refine S_inc5 qX6_taken_78 (K := ?_)
            refine S_goto qX6_taken_81 ?_
            refine S_il5 qX6_taken_43 ?_
            refine S_bipush (d := qX6_taken_45) (k := ?_)
            refine S_icmp_ge (d := qX6_taken_47) (kt := fun c => absurd c (by decide)) (kf := fun _ => ?_)
            refine S_il4 qX6_taken_50 ?_
            refine S_if_lt (d := qX6_taken_52) (kt := fun c => absurd c (by decide)) (kf := fun _ => ?_)
            refine S_il4 qX6_taken_55 ?_
            refine S_bipush (d := qX6_taken_57) (k := ?_)
            refine S_icmp_ge (d := qX6_taken_59) (kt := fun c => absurd c (by decide)) (kf := fun _ => ?_)
            refine S_il4 qX6_taken_62 ?_
            refine S_il2 qX6_taken_64 ?_
            refine S_icmp_ne (d := qX6_taken_65) (kt := fun c65 => ?_) (kf := fun c65 => ?_)
            · refine S_gets (v := vr 220) qX6_taken_70 sX6_265 (fun g2 U H h => h.2.1.1) ?_
              refine S_il4 qX6_taken_73 ?_
              refine S_tild (z := -1) qX6_taken_75 (fun g2 U H h => ro_above h) (by decide) (by decide) ?_
              refine S_is4 qX6_taken_76 (K := ?_)
              refine S_inc5 qX6_taken_78 (K := ?_)
              refine S_goto qX6_taken_81 ?_
              refine S_il5 qX6_taken_43 ?_
              refine S_bipush (d := qX6_taken_45) (k := ?_)
              refine S_icmp_ge (d := qX6_taken_47) (kt := fun c => absurd c (by decide)) (kf := fun _ => ?_)
              refine S_il4 qX6_taken_50 ?_
              refine S_if_lt (d := qX6_taken_52) (kt := fun _ => ?_) (kf := fun c => absurd c (by decide))
              refine S_bipush (d := qX6_taken_84) (k := ?_)
              refine S_iret hz qX6_taken_86 ?_
              refine RZ.same hZ ?_
              unfold oTaken
              rw [if_neg (by omega), if_neg (by omega)]
              first
                | (rw [if_pos (by omega), ek, h7]; done)
                | (rw [if_neg (by omega)]; done)
            · refine S_il3 qX6_taken_68 ?_
              refine S_iret hz qX6_taken_69 ?_
              refine RZ.same hZ ?_
              unfold oTaken
              rw [if_neg (by omega), if_neg (by omega)]
              first
                | (rw [if_pos (by omega), ek, h7]; done)
                | (rw [if_neg (by omega)]; done)
          · refine S_il3 qX6_taken_68 ?_
            refine S_iret hz qX6_taken_69 ?_
            refine RZ.same hZ ?_
            unfold oTaken
            rw [if_neg (by omega), if_neg (by omega)]
            first
              | (rw [if_pos (by omega), ek, h7]; done)
              | (rw [if_neg (by omega)]; done)
        · rw [h7]
          refine S_is3 qX6_taken_36 (K := ?_)
          refine S_il3 qX6_taken_37 ?_
          refine S_is4 qX6_taken_38 (K := ?_)
          refine S_iconst qX6_taken_40 ?_
          refine S_is5 qX6_taken_41 (K := ?_)
          refine S_il5 qX6_taken_43 ?_
          refine S_bipush (d := qX6_taken_45) (k := ?_)
          refine S_icmp_ge (d := qX6_taken_47) (kt := fun c => absurd c (by decide)) (kf := fun _ => ?_)
          refine S_il4 qX6_taken_50 ?_
          refine S_if_lt (d := qX6_taken_52) (kt := fun c => absurd c (by decide)) (kf := fun _ => ?_)
          refine S_il4 qX6_taken_55 ?_
          refine S_bipush (d := qX6_taken_57) (k := ?_)
          refine S_icmp_ge (d := qX6_taken_59) (kt := fun c => absurd c (by decide)) (kf := fun _ => ?_)
          refine S_il4 qX6_taken_62 ?_
          refine S_il2 qX6_taken_64 ?_
          refine S_icmp_ne (d := qX6_taken_65) (kt := fun c65 => ?_) (kf := fun c65 => ?_)
          · refine S_gets (v := vr 220) qX6_taken_70 sX6_265 (fun g2 U H h => h.2.1.1) ?_
            refine S_il4 qX6_taken_73 ?_
            refine S_tild (z := 0) qX6_taken_75 (fun g2 U H h => ro_above h) (by decide) (by decide) ?_
            refine S_is4 qX6_taken_76 (K := ?_)
            refine S_inc5 qX6_taken_78 (K := ?_)
            refine S_goto qX6_taken_81 ?_
            refine S_il5 qX6_taken_43 ?_
            refine S_bipush (d := qX6_taken_45) (k := ?_)
            refine S_icmp_ge (d := qX6_taken_47) (kt := fun c => absurd c (by decide)) (kf := fun _ => ?_)
            refine S_il4 qX6_taken_50 ?_
            refine S_if_lt (d := qX6_taken_52) (kt := fun c => absurd c (by decide)) (kf := fun _ => ?_)
            refine S_il4 qX6_taken_55 ?_
            refine S_bipush (d := qX6_taken_57) (k := ?_)
            refine S_icmp_ge (d := qX6_taken_59) (kt := fun c => absurd c (by decide)) (kf := fun _ => ?_)
            refine S_il4 qX6_taken_62 ?_
            refine S_il2 qX6_taken_64 ?_
            refine S_icmp_ne (d := qX6_taken_65) (kt := fun c65 => ?_) (kf := fun c65 => ?_)
            · refine S_gets (v := vr 220) qX6_taken_70 sX6_265 (fun g2 U H h => h.2.1.1) ?_
              refine S_il4 qX6_taken_73 ?_
              refine S_tild (z := -1) qX6_taken_75 (fun g2 U H h => ro_above h) (by decide) (by decide) ?_
              refine S_is4 qX6_taken_76 (K := ?_)
              refine S_inc5 qX6_taken_78 (K := ?_)
              refine S_goto qX6_taken_81 ?_
              refine S_il5 qX6_taken_43 ?_
              refine S_bipush (d := qX6_taken_45) (k := ?_)
              refine S_icmp_ge (d := qX6_taken_47) (kt := fun c => absurd c (by decide)) (kf := fun _ => ?_)
              refine S_il4 qX6_taken_50 ?_
              refine S_if_lt (d := qX6_taken_52) (kt := fun _ => ?_) (kf := fun c => absurd c (by decide))
              refine S_bipush (d := qX6_taken_84) (k := ?_)
              refine S_iret hz qX6_taken_86 ?_
              refine RZ.same hZ ?_
              unfold oTaken
              rw [if_neg (by omega), if_neg (by omega)]
              first
                | (rw [if_pos (by omega), ek, h7]; done)
                | (rw [if_neg (by omega)]; done)
            · refine S_il3 qX6_taken_68 ?_
              refine S_iret hz qX6_taken_69 ?_
              refine RZ.same hZ ?_
              unfold oTaken
              rw [if_neg (by omega), if_neg (by omega)]
              first
                | (rw [if_pos (by omega), ek, h7]; done)
                | (rw [if_neg (by omega)]; done)
          · refine S_il3 qX6_taken_68 ?_
            refine S_iret hz qX6_taken_69 ?_
            refine RZ.same hZ ?_
            unfold oTaken
            rw [if_neg (by omega), if_neg (by omega)]
            first
              | (rw [if_pos (by omega), ek, h7]; done)
              | (rw [if_neg (by omega)]; done)
        · rw [h7]
          refine S_is3 qX6_taken_36 (K := ?_)
          refine S_il3 qX6_taken_37 ?_
          refine S_is4 qX6_taken_38 (K := ?_)
          refine S_iconst qX6_taken_40 ?_
          refine S_is5 qX6_taken_41 (K := ?_)
          refine S_il5 qX6_taken_43 ?_
          refine S_bipush (d := qX6_taken_45) (k := ?_)
          refine S_icmp_ge (d := qX6_taken_47) (kt := fun c => absurd c (by decide)) (kf := fun _ => ?_)
          refine S_il4 qX6_taken_50 ?_
          refine S_if_lt (d := qX6_taken_52) (kt := fun c => absurd c (by decide)) (kf := fun _ => ?_)
          refine S_il4 qX6_taken_55 ?_
          refine S_bipush (d := qX6_taken_57) (k := ?_)
          refine S_icmp_ge (d := qX6_taken_59) (kt := fun c => absurd c (by decide)) (kf := fun _ => ?_)
          refine S_il4 qX6_taken_62 ?_
          refine S_il2 qX6_taken_64 ?_
          refine S_icmp_ne (d := qX6_taken_65) (kt := fun c65 => ?_) (kf := fun c65 => ?_)
          · refine S_gets (v := vr 220) qX6_taken_70 sX6_265 (fun g2 U H h => h.2.1.1) ?_
            refine S_il4 qX6_taken_73 ?_
            refine S_tild (z := 0) qX6_taken_75 (fun g2 U H h => ro_above h) (by decide) (by decide) ?_
            refine S_is4 qX6_taken_76 (K := ?_)
            refine S_inc5 qX6_taken_78 (K := ?_)
            refine S_goto qX6_taken_81 ?_
            refine S_il5 qX6_taken_43 ?_
            refine S_bipush (d := qX6_taken_45) (k := ?_)
            refine S_icmp_ge (d := qX6_taken_47) (kt := fun c => absurd c (by decide)) (kf := fun _ => ?_)
            refine S_il4 qX6_taken_50 ?_
            refine S_if_lt (d := qX6_taken_52) (kt := fun c => absurd c (by decide)) (kf := fun _ => ?_)
            refine S_il4 qX6_taken_55 ?_
            refine S_bipush (d := qX6_taken_57) (k := ?_)
            refine S_icmp_ge (d := qX6_taken_59) (kt := fun c => absurd c (by decide)) (kf := fun _ => ?_)
            refine S_il4 qX6_taken_62 ?_
            refine S_il2 qX6_taken_64 ?_
            refine S_icmp_ne (d := qX6_taken_65) (kt := fun c65 => ?_) (kf := fun c65 => ?_)
            · refine S_gets (v := vr 220) qX6_taken_70 sX6_265 (fun g2 U H h => h.2.1.1) ?_
              refine S_il4 qX6_taken_73 ?_
              refine S_tild (z := -1) qX6_taken_75 (fun g2 U H h => ro_above h) (by decide) (by decide) ?_
              refine S_is4 qX6_taken_76 (K := ?_)
              refine S_inc5 qX6_taken_78 (K := ?_)
              refine S_goto qX6_taken_81 ?_
              refine S_il5 qX6_taken_43 ?_
              refine S_bipush (d := qX6_taken_45) (k := ?_)
              refine S_icmp_ge (d := qX6_taken_47) (kt := fun c => absurd c (by decide)) (kf := fun _ => ?_)
              refine S_il4 qX6_taken_50 ?_
              refine S_if_lt (d := qX6_taken_52) (kt := fun _ => ?_) (kf := fun c => absurd c (by decide))
              refine S_bipush (d := qX6_taken_84) (k := ?_)
              refine S_iret hz qX6_taken_86 ?_
              refine RZ.same hZ ?_
              unfold oTaken
              rw [if_neg (by omega), if_neg (by omega)]
              first
                | (rw [if_pos (by omega), ek, h7]; done)
                | (rw [if_neg (by omega)]; done)
            · refine S_il3 qX6_taken_68 ?_
              refine S_iret hz qX6_taken_69 ?_
              refine RZ.same hZ ?_
              unfold oTaken
              rw [if_neg (by omega), if_neg (by omega)]
              first
                | (rw [if_pos (by omega), ek, h7]; done)
                | (rw [if_neg (by omega)]; done)
          · refine S_il3 qX6_taken_68 ?_
            refine S_iret hz qX6_taken_69 ?_
            refine RZ.same hZ ?_
            unfold oTaken
            rw [if_neg (by omega), if_neg (by omega)]
            first
              | (rw [if_pos (by omega), ek, h7]; done)
              | (rw [if_neg (by omega)]; done)
        · rw [h7]
          refine S_is3 qX6_taken_36 (K := ?_)
          refine S_il3 qX6_taken_37 ?_
          refine S_is4 qX6_taken_38 (K := ?_)
          refine S_iconst qX6_taken_40 ?_
          refine S_is5 qX6_taken_41 (K := ?_)
          refine S_il5 qX6_taken_43 ?_
          refine S_bipush (d := qX6_taken_45) (k := ?_)
          refine S_icmp_ge (d := qX6_taken_47) (kt := fun c => absurd c (by decide)) (kf := fun _ => ?_)
          refine S_il4 qX6_taken_50 ?_
          refine S_if_lt (d := qX6_taken_52) (kt := fun c => absurd c (by decide)) (kf := fun _ => ?_)
          refine S_il4 qX6_taken_55 ?_
          refine S_bipush (d := qX6_taken_57) (k := ?_)
          refine S_icmp_ge (d := qX6_taken_59) (kt := fun c => absurd c (by decide)) (kf := fun _ => ?_)
          refine S_il4 qX6_taken_62 ?_
          refine S_il2 qX6_taken_64 ?_
          refine S_icmp_ne (d := qX6_taken_65) (kt := fun c65 => ?_) (kf := fun c65 => ?_)
          · refine S_gets (v := vr 220) qX6_taken_70 sX6_265 (fun g2 U H h => h.2.1.1) ?_
            refine S_il4 qX6_taken_73 ?_
            refine S_tild (z := 1) qX6_taken_75 (fun g2 U H h => ro_above h) (by decide) (by decide) ?_
            refine S_is4 qX6_taken_76 (K := ?_)
            refine S_inc5 qX6_taken_78 (K := ?_)
            refine S_goto qX6_taken_81 ?_
            refine S_il5 qX6_taken_43 ?_
            refine S_bipush (d := qX6_taken_45) (k := ?_)
            refine S_icmp_ge (d := qX6_taken_47) (kt := fun c => absurd c (by decide)) (kf := fun _ => ?_)
            refine S_il4 qX6_taken_50 ?_
            refine S_if_lt (d := qX6_taken_52) (kt := fun c => absurd c (by decide)) (kf := fun _ => ?_)
            refine S_il4 qX6_taken_55 ?_
            refine S_bipush (d := qX6_taken_57) (k := ?_)
            refine S_icmp_ge (d := qX6_taken_59) (kt := fun c => absurd c (by decide)) (kf := fun _ => ?_)
            refine S_il4 qX6_taken_62 ?_
            refine S_il2 qX6_taken_64 ?_
            refine S_icmp_ne (d := qX6_taken_65) (kt := fun c65 => ?_) (kf := fun c65 => ?_)
            · refine S_gets (v := vr 220) qX6_taken_70 sX6_265 (fun g2 U H h => h.2.1.1) ?_
              refine S_il4 qX6_taken_73 ?_
              refine S_tild (z := 0) qX6_taken_75 (fun g2 U H h => ro_above h) (by decide) (by decide) ?_
              refine S_is4 qX6_taken_76 (K := ?_)
              refine S_inc5 qX6_taken_78 (K := ?_)
              refine S_goto qX6_taken_81 ?_
              refine S_il5 qX6_taken_43 ?_
              refine S_bipush (d := qX6_taken_45) (k := ?_)
              refine S_icmp_ge (d := qX6_taken_47) (kt := fun c => absurd c (by decide)) (kf := fun _ => ?_)
              refine S_il4 qX6_taken_50 ?_
              refine S_if_lt (d := qX6_taken_52) (kt := fun c => absurd c (by decide)) (kf := fun _ => ?_)
              refine S_il4 qX6_taken_55 ?_
              refine S_bipush (d := qX6_taken_57) (k := ?_)
              refine S_icmp_ge (d := qX6_taken_59) (kt := fun c => absurd c (by decide)) (kf := fun _ => ?_)
              refine S_il4 qX6_taken_62 ?_
              refine S_il2 qX6_taken_64 ?_
              refine S_icmp_ne (d := qX6_taken_65) (kt := fun c65 => ?_) (kf := fun c65 => ?_)
              · refine S_gets (v := vr 220) qX6_taken_70 sX6_265 (fun g2 U H h => h.2.1.1) ?_
                refine S_il4 qX6_taken_73 ?_
                refine S_tild (z := -1) qX6_taken_75 (fun g2 U H h => ro_above h) (by decide) (by decide) ?_
                refine S_is4 qX6_taken_76 (K := ?_)
                refine S_inc5 qX6_taken_78 (K := ?_)
                refine S_goto qX6_taken_81 ?_
                refine S_il5 qX6_taken_43 ?_
                refine S_bipush (d := qX6_taken_45) (k := ?_)
                refine S_icmp_ge (d := qX6_taken_47) (kt := fun c => absurd c (by decide)) (kf := fun _ => ?_)
                refine S_il4 qX6_taken_50 ?_
                refine S_if_lt (d := qX6_taken_52) (kt := fun _ => ?_) (kf := fun c => absurd c (by decide))
                refine S_bipush (d := qX6_taken_84) (k := ?_)
                refine S_iret hz qX6_taken_86 ?_
                refine RZ.same hZ ?_
                unfold oTaken
                rw [if_neg (by omega), if_neg (by omega)]
                first
                  | (rw [if_pos (by omega), ek, h7]; done)
                  | (rw [if_neg (by omega)]; done)
              · refine S_il3 qX6_taken_68 ?_
                refine S_iret hz qX6_taken_69 ?_
                refine RZ.same hZ ?_
                unfold oTaken
                rw [if_neg (by omega), if_neg (by omega)]
                first
                  | (rw [if_pos (by omega), ek, h7]; done)
                  | (rw [if_neg (by omega)]; done)
            · refine S_il3 qX6_taken_68 ?_
              refine S_iret hz qX6_taken_69 ?_
              refine RZ.same hZ ?_
              unfold oTaken
              rw [if_neg (by omega), if_neg (by omega)]
              first
                | (rw [if_pos (by omega), ek, h7]; done)
                | (rw [if_neg (by omega)]; done)
          · refine S_il3 qX6_taken_68 ?_
            refine S_iret hz qX6_taken_69 ?_
            refine RZ.same hZ ?_
            unfold oTaken
            rw [if_neg (by omega), if_neg (by omega)]
            first
              | (rw [if_pos (by omega), ek, h7]; done)
              | (rw [if_neg (by omega)]; done)
        · rw [h7]
          refine S_is3 qX6_taken_36 (K := ?_)
          refine S_il3 qX6_taken_37 ?_
          refine S_is4 qX6_taken_38 (K := ?_)
          refine S_iconst qX6_taken_40 ?_
          refine S_is5 qX6_taken_41 (K := ?_)
          refine S_il5 qX6_taken_43 ?_
          refine S_bipush (d := qX6_taken_45) (k := ?_)
          refine S_icmp_ge (d := qX6_taken_47) (kt := fun c => absurd c (by decide)) (kf := fun _ => ?_)
          refine S_il4 qX6_taken_50 ?_
          refine S_if_lt (d := qX6_taken_52) (kt := fun c => absurd c (by decide)) (kf := fun _ => ?_)
          refine S_il4 qX6_taken_55 ?_
          refine S_bipush (d := qX6_taken_57) (k := ?_)
          refine S_icmp_ge (d := qX6_taken_59) (kt := fun c => absurd c (by decide)) (kf := fun _ => ?_)
          refine S_il4 qX6_taken_62 ?_
          refine S_il2 qX6_taken_64 ?_
          refine S_icmp_ne (d := qX6_taken_65) (kt := fun c65 => ?_) (kf := fun c65 => ?_)
          · refine S_gets (v := vr 220) qX6_taken_70 sX6_265 (fun g2 U H h => h.2.1.1) ?_
            refine S_il4 qX6_taken_73 ?_
            refine S_tild (z := 2) qX6_taken_75 (fun g2 U H h => ro_above h) (by decide) (by decide) ?_
            refine S_is4 qX6_taken_76 (K := ?_)
            refine S_inc5 qX6_taken_78 (K := ?_)
            refine S_goto qX6_taken_81 ?_
            refine S_il5 qX6_taken_43 ?_
            refine S_bipush (d := qX6_taken_45) (k := ?_)
            refine S_icmp_ge (d := qX6_taken_47) (kt := fun c => absurd c (by decide)) (kf := fun _ => ?_)
            refine S_il4 qX6_taken_50 ?_
            refine S_if_lt (d := qX6_taken_52) (kt := fun c => absurd c (by decide)) (kf := fun _ => ?_)
            refine S_il4 qX6_taken_55 ?_
            refine S_bipush (d := qX6_taken_57) (k := ?_)
            refine S_icmp_ge (d := qX6_taken_59) (kt := fun c => absurd c (by decide)) (kf := fun _ => ?_)
            refine S_il4 qX6_taken_62 ?_
            refine S_il2 qX6_taken_64 ?_
            refine S_icmp_ne (d := qX6_taken_65) (kt := fun c65 => ?_) (kf := fun c65 => ?_)
            · refine S_gets (v := vr 220) qX6_taken_70 sX6_265 (fun g2 U H h => h.2.1.1) ?_
              refine S_il4 qX6_taken_73 ?_
              refine S_tild (z := 0) qX6_taken_75 (fun g2 U H h => ro_above h) (by decide) (by decide) ?_
              refine S_is4 qX6_taken_76 (K := ?_)
              refine S_inc5 qX6_taken_78 (K := ?_)
              refine S_goto qX6_taken_81 ?_
              refine S_il5 qX6_taken_43 ?_
              refine S_bipush (d := qX6_taken_45) (k := ?_)
              refine S_icmp_ge (d := qX6_taken_47) (kt := fun c => absurd c (by decide)) (kf := fun _ => ?_)
              refine S_il4 qX6_taken_50 ?_
              refine S_if_lt (d := qX6_taken_52) (kt := fun c => absurd c (by decide)) (kf := fun _ => ?_)
              refine S_il4 qX6_taken_55 ?_
              refine S_bipush (d := qX6_taken_57) (k := ?_)
              refine S_icmp_ge (d := qX6_taken_59) (kt := fun c => absurd c (by decide)) (kf := fun _ => ?_)
              refine S_il4 qX6_taken_62 ?_
              refine S_il2 qX6_taken_64 ?_
              refine S_icmp_ne (d := qX6_taken_65) (kt := fun c65 => ?_) (kf := fun c65 => ?_)
              · refine S_gets (v := vr 220) qX6_taken_70 sX6_265 (fun g2 U H h => h.2.1.1) ?_
                refine S_il4 qX6_taken_73 ?_
                refine S_tild (z := -1) qX6_taken_75 (fun g2 U H h => ro_above h) (by decide) (by decide) ?_
                refine S_is4 qX6_taken_76 (K := ?_)
                refine S_inc5 qX6_taken_78 (K := ?_)
                refine S_goto qX6_taken_81 ?_
                refine S_il5 qX6_taken_43 ?_
                refine S_bipush (d := qX6_taken_45) (k := ?_)
                refine S_icmp_ge (d := qX6_taken_47) (kt := fun c => absurd c (by decide)) (kf := fun _ => ?_)
                refine S_il4 qX6_taken_50 ?_
                refine S_if_lt (d := qX6_taken_52) (kt := fun _ => ?_) (kf := fun c => absurd c (by decide))
                refine S_bipush (d := qX6_taken_84) (k := ?_)
                refine S_iret hz qX6_taken_86 ?_
                refine RZ.same hZ ?_
                unfold oTaken
                rw [if_neg (by omega), if_neg (by omega)]
                first
                  | (rw [if_pos (by omega), ek, h7]; done)
                  | (rw [if_neg (by omega)]; done)
              · refine S_il3 qX6_taken_68 ?_
                refine S_iret hz qX6_taken_69 ?_
                refine RZ.same hZ ?_
                unfold oTaken
                rw [if_neg (by omega), if_neg (by omega)]
                first
                  | (rw [if_pos (by omega), ek, h7]; done)
                  | (rw [if_neg (by omega)]; done)
            · refine S_il3 qX6_taken_68 ?_
              refine S_iret hz qX6_taken_69 ?_
              refine RZ.same hZ ?_
              unfold oTaken
              rw [if_neg (by omega), if_neg (by omega)]
              first
                | (rw [if_pos (by omega), ek, h7]; done)
                | (rw [if_neg (by omega)]; done)
          · refine S_il3 qX6_taken_68 ?_
            refine S_iret hz qX6_taken_69 ?_
            refine RZ.same hZ ?_
            unfold oTaken
            rw [if_neg (by omega), if_neg (by omega)]
            first
              | (rw [if_pos (by omega), ek, h7]; done)
              | (rw [if_neg (by omega)]; done)
        · rw [h7]
          refine S_is3 qX6_taken_36 (K := ?_)
          refine S_il3 qX6_taken_37 ?_
          refine S_is4 qX6_taken_38 (K := ?_)
          refine S_iconst qX6_taken_40 ?_
          refine S_is5 qX6_taken_41 (K := ?_)
          refine S_il5 qX6_taken_43 ?_
          refine S_bipush (d := qX6_taken_45) (k := ?_)
          refine S_icmp_ge (d := qX6_taken_47) (kt := fun c => absurd c (by decide)) (kf := fun _ => ?_)
          refine S_il4 qX6_taken_50 ?_
          refine S_if_lt (d := qX6_taken_52) (kt := fun c => absurd c (by decide)) (kf := fun _ => ?_)
          refine S_il4 qX6_taken_55 ?_
          refine S_bipush (d := qX6_taken_57) (k := ?_)
          refine S_icmp_ge (d := qX6_taken_59) (kt := fun c => absurd c (by decide)) (kf := fun _ => ?_)
          refine S_il4 qX6_taken_62 ?_
          refine S_il2 qX6_taken_64 ?_
          refine S_icmp_ne (d := qX6_taken_65) (kt := fun c65 => ?_) (kf := fun c65 => ?_)
          · refine S_gets (v := vr 220) qX6_taken_70 sX6_265 (fun g2 U H h => h.2.1.1) ?_
            refine S_il4 qX6_taken_73 ?_
            refine S_tild (z := 3) qX6_taken_75 (fun g2 U H h => ro_above h) (by decide) (by decide) ?_
            refine S_is4 qX6_taken_76 (K := ?_)
            refine S_inc5 qX6_taken_78 (K := ?_)
            refine S_goto qX6_taken_81 ?_
            refine S_il5 qX6_taken_43 ?_
            refine S_bipush (d := qX6_taken_45) (k := ?_)
            refine S_icmp_ge (d := qX6_taken_47) (kt := fun c => absurd c (by decide)) (kf := fun _ => ?_)
            refine S_il4 qX6_taken_50 ?_
            refine S_if_lt (d := qX6_taken_52) (kt := fun c => absurd c (by decide)) (kf := fun _ => ?_)
            refine S_il4 qX6_taken_55 ?_
            refine S_bipush (d := qX6_taken_57) (k := ?_)
            refine S_icmp_ge (d := qX6_taken_59) (kt := fun c => absurd c (by decide)) (kf := fun _ => ?_)
            refine S_il4 qX6_taken_62 ?_
            refine S_il2 qX6_taken_64 ?_
            refine S_icmp_ne (d := qX6_taken_65) (kt := fun c65 => ?_) (kf := fun c65 => ?_)
            · refine S_gets (v := vr 220) qX6_taken_70 sX6_265 (fun g2 U H h => h.2.1.1) ?_
              refine S_il4 qX6_taken_73 ?_
              refine S_tild (z := 0) qX6_taken_75 (fun g2 U H h => ro_above h) (by decide) (by decide) ?_
              refine S_is4 qX6_taken_76 (K := ?_)
              refine S_inc5 qX6_taken_78 (K := ?_)
              refine S_goto qX6_taken_81 ?_
              refine S_il5 qX6_taken_43 ?_
              refine S_bipush (d := qX6_taken_45) (k := ?_)
              refine S_icmp_ge (d := qX6_taken_47) (kt := fun c => absurd c (by decide)) (kf := fun _ => ?_)
              refine S_il4 qX6_taken_50 ?_
              refine S_if_lt (d := qX6_taken_52) (kt := fun c => absurd c (by decide)) (kf := fun _ => ?_)
              refine S_il4 qX6_taken_55 ?_
              refine S_bipush (d := qX6_taken_57) (k := ?_)
              refine S_icmp_ge (d := qX6_taken_59) (kt := fun c => absurd c (by decide)) (kf := fun _ => ?_)
              refine S_il4 qX6_taken_62 ?_
              refine S_il2 qX6_taken_64 ?_
              refine S_icmp_ne (d := qX6_taken_65) (kt := fun c65 => ?_) (kf := fun c65 => ?_)
              · refine S_gets (v := vr 220) qX6_taken_70 sX6_265 (fun g2 U H h => h.2.1.1) ?_
                refine S_il4 qX6_taken_73 ?_
                refine S_tild (z := -1) qX6_taken_75 (fun g2 U H h => ro_above h) (by decide) (by decide) ?_
                refine S_is4 qX6_taken_76 (K := ?_)
                refine S_inc5 qX6_taken_78 (K := ?_)
                refine S_goto qX6_taken_81 ?_
                refine S_il5 qX6_taken_43 ?_
                refine S_bipush (d := qX6_taken_45) (k := ?_)
                refine S_icmp_ge (d := qX6_taken_47) (kt := fun c => absurd c (by decide)) (kf := fun _ => ?_)
                refine S_il4 qX6_taken_50 ?_
                refine S_if_lt (d := qX6_taken_52) (kt := fun _ => ?_) (kf := fun c => absurd c (by decide))
                refine S_bipush (d := qX6_taken_84) (k := ?_)
                refine S_iret hz qX6_taken_86 ?_
                refine RZ.same hZ ?_
                unfold oTaken
                rw [if_neg (by omega), if_neg (by omega)]
                first
                  | (rw [if_pos (by omega), ek, h7]; done)
                  | (rw [if_neg (by omega)]; done)
              · refine S_il3 qX6_taken_68 ?_
                refine S_iret hz qX6_taken_69 ?_
                refine RZ.same hZ ?_
                unfold oTaken
                rw [if_neg (by omega), if_neg (by omega)]
                first
                  | (rw [if_pos (by omega), ek, h7]; done)
                  | (rw [if_neg (by omega)]; done)
            · refine S_il3 qX6_taken_68 ?_
              refine S_iret hz qX6_taken_69 ?_
              refine RZ.same hZ ?_
              unfold oTaken
              rw [if_neg (by omega), if_neg (by omega)]
              first
                | (rw [if_pos (by omega), ek, h7]; done)
                | (rw [if_neg (by omega)]; done)
          · refine S_il3 qX6_taken_68 ?_
            refine S_iret hz qX6_taken_69 ?_
            refine RZ.same hZ ?_
            unfold oTaken
            rw [if_neg (by omega), if_neg (by omega)]
            first
              | (rw [if_pos (by omega), ek, h7]; done)
              | (rw [if_neg (by omega)]; done)
      · refine S_if_ne (d := qX6_taken_21) (kt := fun c => absurd c (by decide)) (kf := fun _ => ?_)
        refine S_bipush (d := qX6_taken_24) (k := ?_)
        refine S_iret hz qX6_taken_26 ?_
        refine RZ.same hZ ?_
        unfold oTaken
        first | (rw [if_pos (by omega)]; done) | (rw [if_neg (by omega), if_pos (by omega)]; done)
    · refine S_bipush (d := qX6_taken_10) (k := ?_)
      refine S_iret hz qX6_taken_12 ?_
      refine RZ.same hZ ?_
      unfold oTaken
      first | (rw [if_pos (by omega)]; done) | (rw [if_neg (by omega), if_pos (by omega)]; done)

theorem judge_loop {g : GC} {X : CX} {Q : Option AV → MM → Prop} {V : MM} {Z : ZT} {t i al xf : Int} (hZ : CA V Z) (ht6 : 0 ≤ t ∧ t < 6) (hal : al = 8 * V 8 0) (ri : -2147483648 ≤ i ∧ i ≤ 2147483647) (hz : Fi g X (some .int) Q) (hD : Dp X 5) (hQ : Q (some (vi xf)) V) : ∀ (n : Nat) (k : Int), 0 ≤ k → k + n = al → judS Z.1.2.2.2.2.2.1 (tpR Z t) i (tpN Z t) n k = xf → SW g X RX6 cX6_judge 49 [some (vr 0), some (vi t), some (vi i), some (vr (71 + 2 * t.toNat)), some (vi al), some (vi k), none, none] [] V := by
  have ht := isT_at ht6
  obtain ⟨hF, es, e1, e2, hn, hb, hkv, hfo, hwa, hro, hH, hh, h0, eh, hw, hk, hwz⟩ := hZ.fl
  obtain ⟨t1, t2, t3, t4, t5, t6⟩ := hZ.2.2.2.2.2.2.at ht6
  intro n
  induction n with
  | zero =>
    intro k h0 h1 hx
    unfold judS at hx
    subst hx
    refine S_il5 qX6_judge_49 ?_
    refine S_il4 qX6_judge_51 ?_
    refine S_icmp_ge (d := qX6_judge_53) (kt := fun c53 => ?_) (kf := fun c53 => ?_)
    rotate_left
    · omega
    refine S_bipush (d := qX6_judge_131) (k := ?_)
    refine S_iret hz qX6_judge_133 ?_
    exact hQ
  | succ n ih =>
    intro k h0 h1 hx
    unfold judS at hx
    have w1 := hwa (8 * (k / 8) + k % 8) (by omega)
    have ew : V (8 + 4) (8 * (k / 8) + k % 8) = Z.1.2.2.2.2.2.1 k := by
      rw [es, show 8 * (k / 8) + k % 8 = k by omega]
    refine S_il5 qX6_judge_49 ?_
    refine S_il4 qX6_judge_51 ?_
    refine S_icmp_ge (d := qX6_judge_53) (kt := fun c53 => ?_) (kf := fun c53 => ?_)
    · omega
    refine S_il2 qX6_judge_56 ?_
    refine S_if_lt (d := qX6_judge_57) (kt := fun c57 => ?_) (kf := fun c57 => ?_)
    · refine S_bipush (d := qX6_judge_71) (k := ?_)
      refine S_il5 qX6_judge_73 ?_
      refine S_iadd qX6_judge_75 ?_
      refine S_iret hz qX6_judge_76 ?_
      rw [if_pos (by omega)] at hx
      subst hx
      exact hQ
    · refine S_il2 qX6_judge_60 ?_
      refine S_al3 qX6_judge_61 ?_
      refine S_getI qX6_judge_62 fX6_240 (T_1 ht) ?_
      refine S_il5 qX6_judge_65 ?_
      refine S_isub qX6_judge_67 ?_
      refine S_icmp_lt (d := qX6_judge_68) (kt := fun c68 => ?_) (kf := fun c68 => ?_)
      · refine S_il5 qX6_judge_77 ?_
        refine S_bipush (d := qX6_judge_79) (k := ?_)
        refine S_idiv (d := qX6_judge_81) (k := ?_)
        refine S_is6 qX6_judge_82 (K := ?_)
        refine S_il5 qX6_judge_84 ?_
        refine S_bipush (d := qX6_judge_86) (k := ?_)
        refine S_irem (d := qX6_judge_88) (k := ?_)
        refine S_is7 qX6_judge_89 (K := ?_)
        refine S_al3 qX6_judge_91 ?_
        refine S_getR qX6_judge_92 fX6_241 (T_2 ht) ?_
        refine S_il2 qX6_judge_95 ?_
        refine S_il5 qX6_judge_96 ?_
        refine S_iadd qX6_judge_98 ?_
        refine S_lald qX6_judge_99 (Ta_1 ht) (K := ?_)
        refine S_al0 qX6_judge_100 ?_
        refine S_getR qX6_judge_101 fX6_17 e0_0 ?_
        refine S_il6 qX6_judge_104 ?_
        refine S_il7 qX6_judge_106 ?_
        refine S_V2E hD qX6_judge_108 lX6_104 vX2_wasOf (F_r F8) (c_wasOf F8 (by omega) (by omega) (by omega)) (K := ?_)
        refine S_i2l (d := qX6_judge_111) (k := ?_)
        refine S_lcmp qX6_judge_112 ?_
        refine S_if_eq (d := qX6_judge_113) (ha := io_rg _) (kt := fun c113 => ?_) (kf := fun c113 => ?_)
        · refine S_inc5 qX6_judge_125 (K := ?_)
          refine S_goto qX6_judge_128 ?_
          rw [if_neg (by omega), if_pos (by rw [lg_eq, ew, ← t3] at c113; exact c113)] at hx
          exact SW.forget 6 (SW.forget 7 (ih (k + 1) (by omega) (by omega) hx))
        · refine S_bipush (d := qX6_judge_116) (k := ?_)
          refine S_il6 qX6_judge_118 ?_
          refine S_imul qX6_judge_120 ?_
          refine S_il7 qX6_judge_121 ?_
          refine S_iadd qX6_judge_123 ?_
          refine S_iret hz qX6_judge_124 ?_
          rw [if_neg (by omega), if_neg (fun q => c113 (by rw [lg_eq, ew, ← t3]; exact q))] at hx
          subst hx
          exact hQ
      · refine S_bipush (d := qX6_judge_71) (k := ?_)
        refine S_il5 qX6_judge_73 ?_
        refine S_iadd qX6_judge_75 ?_
        refine S_iret hz qX6_judge_76 ?_
        rw [if_pos (by omega)] at hx
        subst hx
        exact hQ
theorem c_judge {g : GC} {V : MM} {Z : ZT} {t i : Int} (hZ : CA V Z) (rt : -2147483648 ≤ t ∧ t ≤ 2147483647) (ri : -2147483648 ≤ i ∧ i ≤ 2147483647) : Ct g mX6_judge 5 [vr 0, vi t, vi i] V (RZ V (oJudge Z t i) Z) := by
  refine Ct.of (ls := [some (vr 0), some (vi t), some (vi i), none, none, none, none, none]) (plainFor_of_name (by decide +kernel)) rfl (by exact Nat.le_of_ble_eq_true rfl) (fun X hz hD => ?_)
  obtain ⟨hF, es, e1, e2, hn, hb, hkv, hfo, hwa, hro, hH, hh, h0, eh, hw, hk, hwz⟩ := hZ.fl
  have ew : Z.2.1.1 = V (V 8 2).toNat 0 := by rw [eh]
  have hr := hZ.1.2.1
  refine S_il1 qX6_judge_0 ?_
  refine S_S1B hD qX6_judge_1 lX6_234 sX6_isTape (c_isTape (by omega)) (kt := fun j1 => ?_) (kf := fun j1 => ?_)
  · refine S_if_ne (d := qX6_judge_4) (kt := fun _ => ?_) (kf := fun c => absurd c (by decide))
    refine S_al0 qX6_judge_9 ?_
    refine S_getR qX6_judge_10 fX6_59 e0_10 ?_
    refine S_il1 qX6_judge_13 ?_
    refine S_aaldT qX6_judge_14 a2 (K := ?_)
    have ht := isT_at (i := t) (by omega)
    obtain ⟨t1, t2, t3, t4, t5, t6⟩ := hZ.2.2.2.2.2.2.at (t := t) (by omega)
    refine S_as3 qX6_judge_15 (K := ?_)
    refine S_al3 qX6_judge_16 ?_
    refine S_getI qX6_judge_17 fX6_237 (T_0 (isT_at (by omega))) ?_
    refine S_iconst qX6_judge_20 ?_
    refine S_icmp_eq (d := qX6_judge_21) (kt := fun c21 => ?_) (kf := fun c21 => ?_)
    · refine S_al0 qX6_judge_34 ?_
      refine S_getR qX6_judge_35 fX6_17 e0_0 ?_
      refine S_getI qX6_judge_38 fX6_72 (F_0 F8) ?_
      refine S_bipush (d := qX6_judge_41) (k := ?_)
      refine S_imul qX6_judge_43 ?_
      refine S_is4 qX6_judge_44 (K := ?_)
      refine S_iconst qX6_judge_46 ?_
      refine S_is5 qX6_judge_47 (K := ?_)
      refine judge_loop (al := V 8 0 * 8) hZ (by omega) (by omega) (by omega) hz hD (RZ.same hZ ?_) (8 * Z.1.1).toNat 0 (by omega) (by omega) rfl
      symm
      unfold oJudge
      rw [if_neg (by omega), if_neg (by omega)]
    · refine S_al3 qX6_judge_24 ?_
      refine S_getI qX6_judge_25 fX6_237 (T_0 (isT_at (by omega))) ?_
      refine S_if_eq (d := qX6_judge_28) (kt := fun c28 => ?_) (kf := fun c28 => ?_)
      · refine S_al0 qX6_judge_34 ?_
        refine S_getR qX6_judge_35 fX6_17 e0_0 ?_
        refine S_getI qX6_judge_38 fX6_72 (F_0 F8) ?_
        refine S_bipush (d := qX6_judge_41) (k := ?_)
        refine S_imul qX6_judge_43 ?_
        refine S_is4 qX6_judge_44 (K := ?_)
        refine S_iconst qX6_judge_46 ?_
        refine S_is5 qX6_judge_47 (K := ?_)
        refine judge_loop (al := V 8 0 * 8) hZ (by omega) (by omega) (by omega) hz hD (RZ.same hZ ?_) (8 * Z.1.1).toNat 0 (by omega) (by omega) rfl
        symm
        unfold oJudge
        rw [if_neg (by omega), if_neg (by omega)]
      · refine S_bipush (d := qX6_judge_31) (k := ?_)
        refine S_iret hz qX6_judge_33 ?_
        refine RZ.same hZ ?_
        unfold oJudge
        first | (rw [if_pos (by omega)]; done) | (rw [if_neg (by omega), if_pos (by omega)]; done)
  · refine S_if_ne (d := qX6_judge_4) (kt := fun c => absurd c (by decide)) (kf := fun _ => ?_)
    refine S_iconst qX6_judge_7 ?_
    refine S_iret hz qX6_judge_8 ?_
    refine RZ.same hZ ?_
    unfold oJudge
    first | (rw [if_pos (by omega)]; done) | (rw [if_neg (by omega), if_pos (by omega)]; done)

theorem tbe_0 (V : MM) (t : Nat) (s n z : Int) : upR (upR V t (ur (ur (V t) 0 s) 1 n)) (t + 1) (lz (V (t + 1)) 0 0 60) t 0 = s := by
  rw [upR_n _ (by omega), upR_s, ur_n _ (by omega), ur_s]
theorem tbe_1 (V : MM) (t : Nat) (s n z : Int) : upR (upR V t (ur (ur (V t) 0 s) 1 n)) (t + 1) (lz (V (t + 1)) 0 0 60) t 1 = n := by
  rw [upR_n _ (by omega), upR_s, ur_s]

theorem c_tape {g : GC} {V : MM} {Z : ZT} {t s n : Int} (hZ : CA V Z) (rt : -2147483648 ≤ t ∧ t ≤ 2147483647) (rs : -2147483648 ≤ s ∧ s ≤ 2147483647) (rn : -2147483648 ≤ n ∧ n ≤ 2147483647) : Ct g mX6_tape 5 [vr 0, vi t, vi s, vi n] V (RZ V (nTape Z t s n).1 (nTape Z t s n).2) := by
  refine Ct.of (ls := [some (vr 0), some (vi t), some (vi s), some (vi n)]) (plainFor_of_name (by decide +kernel)) rfl (by exact Nat.le_of_ble_eq_true rfl) (fun X hz hD => ?_)
  obtain ⟨hF, es, e1, e2, hn, hb, hkv, hfo, hwa, hro, hH, hh, h0, eh, hw, hk, hwz⟩ := hZ.fl
  have ew : Z.2.1.1 = V (V 8 2).toNat 0 := by rw [eh]
  have hr := hZ.1.2.1
  refine S_il1 qX6_tape_0 ?_
  refine S_S1B hD qX6_tape_1 lX6_234 sX6_isTape (c_isTape (by omega)) (kt := fun j1 => ?_) (kf := fun j1 => ?_)
  · refine S_if_ne (d := qX6_tape_4) (kt := fun _ => ?_) (kf := fun c => absurd c (by decide))
    refine S_il2 qX6_tape_9 ?_
    refine S_iconst qX6_tape_10 ?_
    refine S_icmp_ne (d := qX6_tape_11) (kt := fun c11 => ?_) (kf := fun c11 => ?_)
    · refine S_il2 qX6_tape_27 ?_
      refine S_if_lt (d := qX6_tape_28) (kt := fun c28 => ?_) (kf := fun c28 => ?_)
      · refine S_bipush (d := qX6_tape_42) (k := ?_)
        refine S_iret hz qX6_tape_44 ?_
        refine RZ.eq hZ ?_
        unfold nTape
        first | (rw [if_pos (by omega)]; done) | (rw [if_neg (by omega), if_pos (by omega)]; done) | (rw [if_neg (by omega), if_neg (by omega), if_pos (by omega)]; done) | (rw [if_neg (by omega), if_neg (by omega), if_neg (by omega), if_pos (by omega)]; done)
      · refine S_il2 qX6_tape_31 ?_
        refine S_iconst qX6_tape_32 ?_
        refine S_icmp_gt (d := qX6_tape_33) (kt := fun c33 => ?_) (kf := fun c33 => ?_)
        · refine S_bipush (d := qX6_tape_42) (k := ?_)
          refine S_iret hz qX6_tape_44 ?_
          refine RZ.eq hZ ?_
          unfold nTape
          first | (rw [if_pos (by omega)]; done) | (rw [if_neg (by omega), if_pos (by omega)]; done) | (rw [if_neg (by omega), if_neg (by omega), if_pos (by omega)]; done) | (rw [if_neg (by omega), if_neg (by omega), if_neg (by omega), if_pos (by omega)]; done)
        · refine S_il3 qX6_tape_36 ?_
          refine S_bipush (d := qX6_tape_37) (k := ?_)
          refine S_icmp_le (d := qX6_tape_39) (kt := fun c39 => ?_) (kf := fun c39 => ?_)
          · refine S_il3 qX6_tape_45 ?_
            refine S_if_ge (d := qX6_tape_46) (kt := fun c46 => ?_) (kf := fun c46 => ?_)
            · refine S_al0 qX6_tape_52 ?_
              refine S_getR qX6_tape_53 fX6_59 e0_10 ?_
              refine S_il1 qX6_tape_56 ?_
              refine S_aaldT qX6_tape_57 a2 (K := ?_)
              refine S_il2 qX6_tape_58 ?_
              refine S_il3 qX6_tape_59 ?_
              refine S_V2W hD qX6_tape_60 lX6_268 vX5_become (T_r (isT_at (by omega))) (c_tapeBecome (isT_at (by omega)) (by omega)) (K := ?_)
              refine S_iconst qX6_tape_63 ?_
              refine S_iret hz qX6_tape_64 ?_
              obtain ⟨t1, t2, t3, t4, t5, t6⟩ := hZ.2.2.2.2.2.2.at (t := t) (by omega)
              refine RZ.to (hZ.tp (t := t) (x := (s, n, lz (tpR Z t) 0 0 60)) (by omega) (fun k a b => by rw [upR_n _ b, upR_n _ a]) (tbe_0 _ _ _ _ 0) (tbe_1 _ _ _ _ 0) (by rw [upR_s, t3]) ⟨by show -1 ≤ (s : Int) ∧ (s : Int) ≤ 4; omega, by show 0 ≤ (n : Int) ∧ (n : Int) ≤ 60; omega, fun q => by first | rfl | (exfalso; replace q : (s : Int) = -1 := q; omega)⟩) (fun k hk => by rw [upR_n _ (by omega), upR_n _ (by omega)]) ?_
              unfold nTape
              rw [if_neg (by omega), if_neg (by omega), if_neg (by omega), if_neg (by omega)]
            · refine S_bipush (d := qX6_tape_49) (k := ?_)
              refine S_iret hz qX6_tape_51 ?_
              refine RZ.eq hZ ?_
              unfold nTape
              first | (rw [if_pos (by omega)]; done) | (rw [if_neg (by omega), if_pos (by omega)]; done) | (rw [if_neg (by omega), if_neg (by omega), if_pos (by omega)]; done) | (rw [if_neg (by omega), if_neg (by omega), if_neg (by omega), if_pos (by omega)]; done)
          · refine S_bipush (d := qX6_tape_42) (k := ?_)
            refine S_iret hz qX6_tape_44 ?_
            refine RZ.eq hZ ?_
            unfold nTape
            first | (rw [if_pos (by omega)]; done) | (rw [if_neg (by omega), if_pos (by omega)]; done) | (rw [if_neg (by omega), if_neg (by omega), if_pos (by omega)]; done) | (rw [if_neg (by omega), if_neg (by omega), if_neg (by omega), if_pos (by omega)]; done)
    · refine S_al0 qX6_tape_14 ?_
      refine S_getR qX6_tape_15 fX6_59 e0_10 ?_
      refine S_il1 qX6_tape_18 ?_
      refine S_aaldT qX6_tape_19 a2 (K := ?_)
      refine S_iconst qX6_tape_20 ?_
      refine S_iconst qX6_tape_21 ?_
      refine S_V2W hD qX6_tape_22 lX6_268 vX5_become (T_r (isT_at (by omega))) (c_tapeBecome (isT_at (by omega)) (by omega)) (K := ?_)
      refine S_iconst qX6_tape_25 ?_
      refine S_iret hz qX6_tape_26 ?_
      obtain ⟨t1, t2, t3, t4, t5, t6⟩ := hZ.2.2.2.2.2.2.at (t := t) (by omega)
      refine RZ.to (hZ.tp (t := t) (x := (-1, 0, lz (tpR Z t) 0 0 60)) (by omega) (fun k a b => by rw [upR_n _ b, upR_n _ a]) (tbe_0 _ _ _ _ 0) (tbe_1 _ _ _ _ 0) (by rw [upR_s, t3]) ⟨by show -1 ≤ (-1 : Int) ∧ (-1 : Int) ≤ 4; omega, by show 0 ≤ (0 : Int) ∧ (0 : Int) ≤ 60; omega, fun q => by first | rfl | (exfalso; replace q : (-1 : Int) = -1 := q; omega)⟩) (fun k hk => by rw [upR_n _ (by omega), upR_n _ (by omega)]) ?_
      unfold nTape
      rw [if_neg (by omega), if_pos (by omega)]
  · refine S_if_ne (d := qX6_tape_4) (kt := fun c => absurd c (by decide)) (kf := fun _ => ?_)
    refine S_iconst qX6_tape_7 ?_
    refine S_iret hz qX6_tape_8 ?_
    refine RZ.eq hZ ?_
    unfold nTape
    first | (rw [if_pos (by omega)]; done) | (rw [if_neg (by omega), if_pos (by omega)]; done) | (rw [if_neg (by omega), if_neg (by omega), if_pos (by omega)]; done) | (rw [if_neg (by omega), if_neg (by omega), if_neg (by omega), if_pos (by omega)]; done)

theorem c_item {g : GC} {V : MM} {Z : ZT} {t i z : Int} (hZ : CA V Z) (rt : -2147483648 ≤ t ∧ t ≤ 2147483647) (ri : -2147483648 ≤ i ∧ i ≤ 2147483647) : Ct g mX6_item 5 [vr 0, vi t, vi i, vl z] V (RZ V (nItem Z t i z).1 (nItem Z t i z).2) := by
  refine Ct.of (ls := [some (vr 0), some (vi t), some (vi i), some (vl z), none, none]) (plainFor_of_name (by decide +kernel)) rfl (by exact Nat.le_of_ble_eq_true rfl) (fun X hz hD => ?_)
  obtain ⟨hF, es, e1, e2, hn, hb, hkv, hfo, hwa, hro, hH, hh, h0, eh, hw, hk, hwz⟩ := hZ.fl
  have ew : Z.2.1.1 = V (V 8 2).toNat 0 := by rw [eh]
  have hr := hZ.1.2.1
  refine S_il1 qX6_item_0 ?_
  refine S_S1B hD qX6_item_1 lX6_234 sX6_isTape (c_isTape (by omega)) (kt := fun j1 => ?_) (kf := fun j1 => ?_)
  · refine S_if_ne (d := qX6_item_4) (kt := fun _ => ?_) (kf := fun c => absurd c (by decide))
    refine S_al0 qX6_item_9 ?_
    refine S_getR qX6_item_10 fX6_59 e0_10 ?_
    refine S_il1 qX6_item_13 ?_
    refine S_aaldT qX6_item_14 a2 (K := ?_)
    refine S_as5 qX6_item_15 (K := ?_)
    have ht := isT_at (i := t) (by omega)
    obtain ⟨t1, t2, t3, t4, t5, t6⟩ := hZ.2.2.2.2.2.2.at (t := t) (by omega)
    refine S_al5 qX6_item_17 ?_
    refine S_getI qX6_item_19 fX6_237 (T_0 (isT_at (by omega))) ?_
    refine S_iconst qX6_item_22 ?_
    refine S_icmp_ne (d := qX6_item_23) (kt := fun c23 => ?_) (kf := fun c23 => ?_)
    · refine S_il2 qX6_item_29 ?_
      refine S_if_lt (d := qX6_item_30) (kt := fun c30 => ?_) (kf := fun c30 => ?_)
      · refine S_bipush (d := qX6_item_42) (k := ?_)
        refine S_iret hz qX6_item_44 ?_
        refine RZ.eq hZ ?_
        unfold nItem
        first | (rw [if_pos (by omega)]; done) | (rw [if_neg (by omega), if_pos (by omega)]; done) | (rw [if_neg (by omega), if_neg (by omega), if_pos (by omega)]; done) | (rw [if_neg (by omega), if_neg (by omega), if_neg (by omega), if_pos (by omega)]; done)
      · refine S_il2 qX6_item_33 ?_
        refine S_al5 qX6_item_34 ?_
        refine S_getI qX6_item_36 fX6_240 (T_1 (isT_at (by omega))) ?_
        refine S_icmp_lt (d := qX6_item_39) (kt := fun c39 => ?_) (kf := fun c39 => ?_)
        · refine S_al5 qX6_item_45 ?_
          refine S_getR qX6_item_47 fX6_241 (T_2 (isT_at (by omega))) ?_
          refine S_il2 qX6_item_50 ?_
          refine S_al5 qX6_item_51 ?_
          refine S_ll3 qX6_item_53 ?_
          refine S_V1EL hD qX6_item_54 lX6_270 vX5_fitted (T_r (isT_at (by omega))) (c_fitted ht (by omega)) (K := ?_)
          refine S_last qX6_item_57 (Ta_1 (isT_at (by omega))) (K := ?_)
          refine S_iconst qX6_item_58 ?_
          refine S_iret hz qX6_item_59 ?_
          refine RZ.to (hZ.tp (t := t) (x := (tpS Z t, tpN Z t, ur (tpR Z t) i (fitS (tpS Z t) z))) (by omega) (fun k a b => upR_n _ b) (by rw [upR_n _ (by omega), t1]) (by rw [upR_n _ (by omega), t2]) (by rw [upR_s, t3, t1]) ⟨by show -1 ≤ tpS Z t ∧ tpS Z t ≤ 4; omega, by show 0 ≤ tpN Z t ∧ tpN Z t ≤ 60; omega, fun q => by replace q : tpS Z t = -1 := q; show tpN Z t = 0; omega⟩) (fun k hk => upR_n _ (by omega)) ?_
          unfold nItem
          rw [if_neg (by omega), if_neg (by omega), if_neg (by omega)]
        · refine S_bipush (d := qX6_item_42) (k := ?_)
          refine S_iret hz qX6_item_44 ?_
          refine RZ.eq hZ ?_
          unfold nItem
          first | (rw [if_pos (by omega)]; done) | (rw [if_neg (by omega), if_pos (by omega)]; done) | (rw [if_neg (by omega), if_neg (by omega), if_pos (by omega)]; done) | (rw [if_neg (by omega), if_neg (by omega), if_neg (by omega), if_pos (by omega)]; done)
    · refine S_bipush (d := qX6_item_26) (k := ?_)
      refine S_iret hz qX6_item_28 ?_
      refine RZ.eq hZ ?_
      unfold nItem
      first | (rw [if_pos (by omega)]; done) | (rw [if_neg (by omega), if_pos (by omega)]; done) | (rw [if_neg (by omega), if_neg (by omega), if_pos (by omega)]; done) | (rw [if_neg (by omega), if_neg (by omega), if_neg (by omega), if_pos (by omega)]; done)
  · refine S_if_ne (d := qX6_item_4) (kt := fun c => absurd c (by decide)) (kf := fun _ => ?_)
    refine S_iconst qX6_item_7 ?_
    refine S_iret hz qX6_item_8 ?_
    refine RZ.eq hZ ?_
    unfold nItem
    first | (rw [if_pos (by omega)]; done) | (rw [if_neg (by omega), if_pos (by omega)]; done) | (rw [if_neg (by omega), if_neg (by omega), if_pos (by omega)]; done) | (rw [if_neg (by omega), if_neg (by omega), if_neg (by omega), if_pos (by omega)]; done)

theorem c_read {g : GC} {V : MM} {Z : ZT} {t i : Int} (hZ : CA V Z) (rt : -2147483648 ≤ t ∧ t ≤ 2147483647) (ri : -2147483648 ≤ i ∧ i ≤ 2147483647) : Ct g mX6_read 5 [vr 0, vi t, vi i] V (RZL V (oRead Z t i) Z) := by
  refine Ct.of (ls := [some (vr 0), some (vi t), some (vi i), none]) (plainFor_of_name (by decide +kernel)) rfl (by exact Nat.le_of_ble_eq_true rfl) (fun X hz hD => ?_)
  obtain ⟨hF, es, e1, e2, hn, hb, hkv, hfo, hwa, hro, hH, hh, h0, eh, hw, hk, hwz⟩ := hZ.fl
  have ew : Z.2.1.1 = V (V 8 2).toNat 0 := by rw [eh]
  have hr := hZ.1.2.1
  refine S_il1 qX6_read_0 ?_
  refine S_S1B hD qX6_read_1 lX6_234 sX6_isTape (c_isTape (by omega)) (kt := fun j1 => ?_) (kf := fun j1 => ?_)
  · refine S_if_ne (d := qX6_read_4) (kt := fun _ => ?_) (kf := fun c => absurd c (by decide))
    refine S_al0 qX6_read_11 ?_
    refine S_getR qX6_read_12 fX6_59 e0_10 ?_
    refine S_il1 qX6_read_15 ?_
    refine S_aaldT qX6_read_16 a2 (K := ?_)
    have ht := isT_at (i := t) (by omega)
    obtain ⟨t1, t2, t3, t4, t5, t6⟩ := hZ.2.2.2.2.2.2.at (t := t) (by omega)
    refine S_as3 qX6_read_17 (K := ?_)
    refine S_al3 qX6_read_18 ?_
    refine S_getI qX6_read_19 fX6_237 (T_0 (isT_at (by omega))) ?_
    refine S_iconst qX6_read_22 ?_
    refine S_icmp_eq (d := qX6_read_23) (kt := fun c23 => ?_) (kf := fun c23 => ?_)
    · refine S_ldc2 qX6_read_38 kX6_210 ?_
      refine S_lret hz qX6_read_41 ?_
      refine RZL.same hZ ?_
      unfold oRead NOl
      first
        | (rw [if_pos (by omega)]; done)
        | (rw [if_neg (by omega), t3]; done)
    · refine S_il2 qX6_read_26 ?_
      refine S_if_lt (d := qX6_read_27) (kt := fun c27 => ?_) (kf := fun c27 => ?_)
      · refine S_ldc2 qX6_read_38 kX6_210 ?_
        refine S_lret hz qX6_read_41 ?_
        refine RZL.same hZ ?_
        unfold oRead NOl
        first
          | (rw [if_pos (by omega)]; done)
          | (rw [if_neg (by omega), t3]; done)
      · refine S_il2 qX6_read_30 ?_
        refine S_al3 qX6_read_31 ?_
        refine S_getI qX6_read_32 fX6_240 (T_1 (isT_at (by omega))) ?_
        refine S_icmp_lt (d := qX6_read_35) (kt := fun c35 => ?_) (kf := fun c35 => ?_)
        · refine S_al3 qX6_read_42 ?_
          refine S_getR qX6_read_43 fX6_241 (T_2 (isT_at (by omega))) ?_
          refine S_il2 qX6_read_46 ?_
          refine S_lald qX6_read_47 (Ta_1 (isT_at (by omega))) (K := ?_)
          refine S_lret hz qX6_read_48 ?_
          refine RZL.same hZ ?_
          unfold oRead NOl
          first
            | (rw [if_pos (by omega)]; done)
            | (rw [if_neg (by omega), t3]; done)
        · refine S_ldc2 qX6_read_38 kX6_210 ?_
          refine S_lret hz qX6_read_41 ?_
          refine RZL.same hZ ?_
          unfold oRead NOl
          first
            | (rw [if_pos (by omega)]; done)
            | (rw [if_neg (by omega), t3]; done)
  · refine S_if_ne (d := qX6_read_4) (kt := fun c => absurd c (by decide)) (kf := fun _ => ?_)
    refine S_ldc2 qX6_read_7 kX6_210 ?_
    refine S_lret hz qX6_read_10 ?_
    refine RZL.same hZ ?_
    unfold oRead NOl
    first
      | (rw [if_pos (by omega)]; done)
      | (rw [if_neg (by omega), t3]; done)

theorem c_shift {g : GC} {V : MM} {Z : ZT} {t i o j n : Int} (hZ : CA V Z) (rt : -2147483648 ≤ t ∧ t ≤ 2147483647) (ri : -2147483648 ≤ i ∧ i ≤ 2147483647) (ro : -2147483648 ≤ o ∧ o ≤ 2147483647) (rj : -2147483648 ≤ j ∧ j ≤ 2147483647) (rn : -2147483648 ≤ n ∧ n ≤ 2147483647) : Ct g mX6_shift 5 [vr 0, vi t, vi i, vi o, vi j, vi n] V (RZ V (nShift Z t i o j n).1 (nShift Z t i o j n).2) := by
  refine Ct.of (ls := [some (vr 0), some (vi t), some (vi i), some (vi o), some (vi j), some (vi n), none, none]) (plainFor_of_name (by decide +kernel)) rfl (by exact Nat.le_of_ble_eq_true rfl) (fun X hz hD => ?_)
  obtain ⟨hF, es, e1, e2, hn, hb, hkv, hfo, hwa, hro, hH, hh, h0, eh, hw, hk, hwz⟩ := hZ.fl
  have ew : Z.2.1.1 = V (V 8 2).toNat 0 := by rw [eh]
  have hr := hZ.1.2.1
  refine S_il1 qX6_shift_0 ?_
  refine S_S1B hD qX6_shift_1 lX6_234 sX6_isTape (c_isTape (by omega)) (kt := fun j1 => ?_) (kf := fun j1 => ?_)
  · refine S_if_eq (d := qX6_shift_4) (kt := fun c => absurd c (by decide)) (kf := fun _ => ?_)
    refine S_il3 qX6_shift_7 ?_
    refine S_S1B hD qX6_shift_8 lX6_234 sX6_isTape (c_isTape (by omega)) (kt := fun j8 => ?_) (kf := fun j8 => ?_)
    · refine S_if_ne (d := qX6_shift_11) (kt := fun _ => ?_) (kf := fun c => absurd c (by decide))
      refine S_al0 qX6_shift_16 ?_
      refine S_getR qX6_shift_17 fX6_59 e0_10 ?_
      refine S_il1 qX6_shift_20 ?_
      refine S_aaldT qX6_shift_21 a2 (K := ?_)
      have ht := isT_at (i := t) (by omega)
      obtain ⟨t1, t2, t3, t4, t5, t6⟩ := hZ.2.2.2.2.2.2.at (t := t) (by omega)
      refine S_as6 qX6_shift_22 (K := ?_)
      refine S_al0 qX6_shift_24 ?_
      refine S_getR qX6_shift_25 fX6_59 e0_10 ?_
      refine S_il3 qX6_shift_28 ?_
      refine S_aaldT qX6_shift_29 a2 (K := ?_)
      have ho := isT_at (i := o) (by omega)
      obtain ⟨u1, u2, u3, u4, u5, u6⟩ := hZ.2.2.2.2.2.2.at (t := o) (by omega)
      refine S_as7 qX6_shift_30 (K := ?_)
      refine S_al6 qX6_shift_32 ?_
      refine S_getI qX6_shift_34 fX6_237 (T_0 (isT_at (by omega))) ?_
      refine S_iconst qX6_shift_37 ?_
      refine S_icmp_eq (d := qX6_shift_38) (kt := fun c38 => ?_) (kf := fun c38 => ?_)
      · refine S_bipush (d := qX6_shift_50) (k := ?_)
        refine S_iret hz qX6_shift_52 ?_
        refine RZ.eq hZ ?_
        unfold nShift
        first | (rw [if_pos (by omega)]; done) | (rw [if_neg (by omega), if_pos (by omega)]; done) | (rw [if_neg (by omega), if_neg (by omega), if_pos (by omega)]; done) | (rw [if_neg (by omega), if_neg (by omega), if_neg (by omega), if_pos (by omega)]; done)
      · refine S_al7 qX6_shift_41 ?_
        refine S_getI qX6_shift_43 fX6_237 (T_0 (isT_at (by omega))) ?_
        refine S_iconst qX6_shift_46 ?_
        refine S_icmp_ne (d := qX6_shift_47) (kt := fun c47 => ?_) (kf := fun c47 => ?_)
        · refine S_al6 qX6_shift_53 ?_
          refine S_getI qX6_shift_55 fX6_237 (T_0 (isT_at (by omega))) ?_
          refine S_al7 qX6_shift_58 ?_
          refine S_getI qX6_shift_60 fX6_237 (T_0 (isT_at (by omega))) ?_
          refine S_icmp_eq (d := qX6_shift_63) (kt := fun c63 => ?_) (kf := fun c63 => ?_)
          · refine S_al6 qX6_shift_69 ?_
            refine S_il2 qX6_shift_71 ?_
            refine S_il5 qX6_shift_72 ?_
            refine S_V2B hD qX6_shift_74 lX6_274 vX5_hasStretch (T_r (isT_at (by omega))) (c_hasStretch (isT_at (by omega)) (by omega) (by omega) (by omega)) (kt := fun j74 => ?_) (kf := fun j74 => ?_)
            · refine S_if_eq (d := qX6_shift_77) (kt := fun c => absurd c (by decide)) (kf := fun _ => ?_)
              refine S_al7 qX6_shift_80 ?_
              refine S_il4 qX6_shift_82 ?_
              refine S_il5 qX6_shift_84 ?_
              refine S_V2B hD qX6_shift_86 lX6_274 vX5_hasStretch (T_r (isT_at (by omega))) (c_hasStretch (isT_at (by omega)) (by omega) (by omega) (by omega)) (kt := fun j86 => ?_) (kf := fun j86 => ?_)
              · refine S_if_ne (d := qX6_shift_89) (kt := fun _ => ?_) (kf := fun c => absurd c (by decide))
                refine S_al6 qX6_shift_95 ?_
                refine S_getR qX6_shift_97 fX6_241 (T_2 (isT_at (by omega))) ?_
                refine S_il2 qX6_shift_100 ?_
                refine S_al7 qX6_shift_101 ?_
                refine S_getR qX6_shift_103 fX6_241 (T_2 (isT_at (by omega))) ?_
                refine S_il4 qX6_shift_106 ?_
                refine S_il5 qX6_shift_108 ?_
                refine S_copyL hD qX6_shift_110 cp_X6_278 (Ta_1 (isT_at (by omega))) (Ta_1 (isT_at (by omega))) (K := ?_)
                refine S_il5 qX6_shift_113 ?_
                refine S_iret hz qX6_shift_115 ?_
                refine RZ.to (hZ.tp (t := o) (x := (tpS Z o, tpN Z o, cpS (tpR Z t) (tpR Z o) i j n)) (by omega) (fun k a b => upR_n _ b) (by rw [upR_n _ (by omega), u1]) (by rw [upR_n _ (by omega), u2]) (by rw [upR_s, t3, u3]) ⟨by show -1 ≤ tpS Z o ∧ tpS Z o ≤ 4; omega, by show 0 ≤ tpN Z o ∧ tpN Z o ≤ 60; omega, fun q => by replace q : tpS Z o = -1 := q; show tpN Z o = 0; omega⟩) (fun k hk => upR_n _ (by omega)) ?_
                unfold nShift
                rw [if_neg (by omega), if_neg (by omega), if_neg (by omega), if_neg (by omega)]
              · refine S_if_ne (d := qX6_shift_89) (kt := fun c => absurd c (by decide)) (kf := fun _ => ?_)
                refine S_bipush (d := qX6_shift_92) (k := ?_)
                refine S_iret hz qX6_shift_94 ?_
                refine RZ.eq hZ ?_
                unfold nShift
                first | (rw [if_pos (by omega)]; done) | (rw [if_neg (by omega), if_pos (by omega)]; done) | (rw [if_neg (by omega), if_neg (by omega), if_pos (by omega)]; done) | (rw [if_neg (by omega), if_neg (by omega), if_neg (by omega), if_pos (by omega)]; done)
            · refine S_if_eq (d := qX6_shift_77) (kt := fun _ => ?_) (kf := fun c => absurd c (by decide))
              refine S_bipush (d := qX6_shift_92) (k := ?_)
              refine S_iret hz qX6_shift_94 ?_
              refine RZ.eq hZ ?_
              unfold nShift
              first | (rw [if_pos (by omega)]; done) | (rw [if_neg (by omega), if_pos (by omega)]; done) | (rw [if_neg (by omega), if_neg (by omega), if_pos (by omega)]; done) | (rw [if_neg (by omega), if_neg (by omega), if_neg (by omega), if_pos (by omega)]; done)
          · refine S_bipush (d := qX6_shift_66) (k := ?_)
            refine S_iret hz qX6_shift_68 ?_
            refine RZ.eq hZ ?_
            unfold nShift
            first | (rw [if_pos (by omega)]; done) | (rw [if_neg (by omega), if_pos (by omega)]; done) | (rw [if_neg (by omega), if_neg (by omega), if_pos (by omega)]; done) | (rw [if_neg (by omega), if_neg (by omega), if_neg (by omega), if_pos (by omega)]; done)
        · refine S_bipush (d := qX6_shift_50) (k := ?_)
          refine S_iret hz qX6_shift_52 ?_
          refine RZ.eq hZ ?_
          unfold nShift
          first | (rw [if_pos (by omega)]; done) | (rw [if_neg (by omega), if_pos (by omega)]; done) | (rw [if_neg (by omega), if_neg (by omega), if_pos (by omega)]; done) | (rw [if_neg (by omega), if_neg (by omega), if_neg (by omega), if_pos (by omega)]; done)
    · refine S_if_ne (d := qX6_shift_11) (kt := fun c => absurd c (by decide)) (kf := fun _ => ?_)
      refine S_iconst qX6_shift_14 ?_
      refine S_iret hz qX6_shift_15 ?_
      refine RZ.eq hZ ?_
      unfold nShift
      first | (rw [if_pos (by omega)]; done) | (rw [if_neg (by omega), if_pos (by omega)]; done) | (rw [if_neg (by omega), if_neg (by omega), if_pos (by omega)]; done) | (rw [if_neg (by omega), if_neg (by omega), if_neg (by omega), if_pos (by omega)]; done)
  · refine S_if_eq (d := qX6_shift_4) (kt := fun _ => ?_) (kf := fun c => absurd c (by decide))
    refine S_iconst qX6_shift_14 ?_
    refine S_iret hz qX6_shift_15 ?_
    refine RZ.eq hZ ?_
    unfold nShift
    first | (rw [if_pos (by omega)]; done) | (rw [if_neg (by omega), if_pos (by omega)]; done) | (rw [if_neg (by omega), if_neg (by omega), if_pos (by omega)]; done) | (rw [if_neg (by omega), if_neg (by omega), if_neg (by omega), if_pos (by omega)]; done)
