def nxM (T : Int → Int) (L p : Int) : Int := if p < L then T p else -1
/-- the text, and where its reading stands -/
def TX (V : MM) (T : Int → Int) (L p : Int) : Prop := V 83 9 = L ∧ V 89 = T ∧ V 83 10 = p ∧ (0 ≤ p ∧ p ≤ 100) ∧ (0 ≤ L ∧ L ≤ 100) ∧ ∀ i, 0 ≤ i ∧ i < 100 → 0 ≤ T i ∧ T i ≤ 127
theorem nxm_rg {V : MM} {T : Int → Int} {L p : Int} (h : TX V T L p) : -1 ≤ nxM T L p ∧ nxM T L p ≤ 127 := by
  obtain ⟨h1, h2, h3, h4, h5, h6⟩ := h
  unfold nxM
  split
  · have := h6 p (by omega); omega
  · omega
theorem nx_ah {T : Int → Int} {L p c : Int} (hL : L ≤ 100) (hc : 0 ≤ c ∧ c ≤ 127) : nxM T L p = c ↔ ahS T L p = c := by
  unfold nxM ahS
  by_cases a : p < L
  · rw [if_pos a, if_pos (by omega)]
  · rw [if_neg a, if_neg (by omega)]
    omega
theorem nx_lt {T : Int → Int} {L p : Int} (h : 0 ≤ nxM T L p) : p < L := by
  unfold nxM at h
  split at h <;> omega
theorem nx_dg {T : Int → Int} {L p : Int} (hL : L ≤ 100) : (48 ≤ nxM T L p ∧ nxM T L p ≤ 57) ↔ dgS T L p := by
  unfold nxM
  by_cases a : p < L
  · rw [if_pos a]
    exact ⟨fun h => ⟨a, by omega, h⟩, fun h => h.2.2⟩
  · rw [if_neg a]
    exact ⟨fun h => by omega, fun h => absurd h.1 a⟩
/-- only the reading's place and the number read have changed -/
def At (V V' : MM) : Prop := (∀ k : Nat, k ≠ 83 → V' k = V k) ∧ ∀ j : Int, j ≠ 10 → j ≠ 11 → V' 83 j = V 83 j
theorem At.rf (V : MM) : At V V := ⟨fun _ _ => rfl, fun _ _ _ => rfl⟩
theorem At.tr {V V1 V2 : MM} (h : At V V1) (h2 : At V1 V2) : At V V2 := ⟨fun k a => (h2.1 k a).trans (h.1 k a), fun j a b => (h2.2 j a b).trans (h.2 j a b)⟩
theorem At.up (V : MM) (p : Int) : At V (upR V 83 (ur (V 83) 10 p)) := ⟨fun k a => upR_n _ a, fun j a b => by rw [upR_s, ur_n _ a]⟩
theorem At.dg (V : MM) (p : Int) : At V (upR V 83 (ur (V 83) 11 p)) := ⟨fun k a => upR_n _ a, fun j a b => by rw [upR_s, ur_n _ b]⟩
theorem TX.at {V V' : MM} {T : Int → Int} {L p p' : Int} (h : TX V T L p) (ha : At V V') (hp : V' 83 10 = p') (rp : 0 ≤ p' ∧ p' ≤ 100) : TX V' T L p' := by
  obtain ⟨h1, h2, h3, h4, h5, h6⟩ := h
  exact ⟨by rw [ha.2 9 (by omega) (by omega)]; exact h1, by rw [ha.1 89 (by omega)]; exact h2, hp, rp, h5, h6⟩

theorem m_next {g : GC} {V : MM} {T : Int → Int} {L p : Int} (h : TX V T L p) : Ct g mX7_next 1 [vr 83] V (RE V (nxM T L p)) := by
  refine Ct.of (ls := [some (vr 83)]) (plainFor_of_name (by decide +kernel)) rfl (by exact Nat.le_of_ble_eq_true rfl) (fun X hz hD => ?_)
  obtain ⟨h1, h2, h3, h4, h5, h6⟩ := h
  refine S_al0 qX7_next_0 ?_
  refine S_getI qX7_next_1 fX7_41 e83_10 ?_
  rw [h3]
  refine S_al0 qX7_next_4 ?_
  refine S_getI qX7_next_5 fX7_38 e83_9 ?_
  rw [h1]
  refine S_icmp_ge (d := qX7_next_8) (kt := fun c8 => ?_) (kf := fun c8 => ?_)
  · refine S_iconst qX7_next_23 ?_
    refine S_iret hz qX7_next_24 ?_
    refine RE.mk ?_
    unfold nxM
    first | (rw [if_pos (by omega)]; done) | (rw [if_neg (by omega)]; done)
  · refine S_al0 qX7_next_11 ?_
    refine S_getR qX7_next_12 fX7_47 e83_12 ?_
    refine S_al0 qX7_next_15 ?_
    refine S_getI qX7_next_16 fX7_41 e83_10 ?_
    rw [h3]
    refine S_iald qX7_next_19 a89 (K := ?_)
    rw [h2]
    refine S_goto qX7_next_20 ?_
    refine S_iret hz qX7_next_24 ?_
    refine RE.mk ?_
    unfold nxM
    first | (rw [if_pos (by omega)]; done) | (rw [if_neg (by omega)]; done)

theorem m_takes {g : GC} {V : MM} {T : Int → Int} {L p c : Int} (hX : TX V T L p) (hc : 0 ≤ c ∧ c ≤ 127) : Ct g mX7_takes 2 [vr 83, vi c] V (RI (fun z V' => (z = 1 ∧ nxM T L p = c ∧ p < 100 ∧ At V V' ∧ TX V' T L (p + 1)) ∨ (z = 0 ∧ nxM T L p ≠ c ∧ V' = V))) := by
  refine Ct.of (ls := [some (vr 83), some (vi c)]) (plainFor_of_name (by decide +kernel)) rfl (by exact Nat.le_of_ble_eq_true rfl) (fun X hz hD => ?_)
  have hr := nxm_rg hX
  obtain ⟨h1, h2, h3, h4, h5, h6⟩ := id hX
  have hl := nx_lt (T := T) (L := L) (p := p)
  refine S_al0 qX7_takes_0 ?_
  refine S_V0E hD qX7_takes_1 lX7_222 vX7_next r83 (m_next hX) (K := ?_)
  refine S_il1 qX7_takes_4 ?_
  refine S_icmp_eq (d := qX7_takes_5) (kt := fun c5 => ?_) (kf := fun c5 => ?_)
  · refine S_al0 qX7_takes_10 ?_
    refine S_dup (d := qX7_takes_11) (k := ?_)
    refine S_getI qX7_takes_12 fX7_41 e83_10 ?_
    rw [h3]
    refine S_iconst qX7_takes_15 ?_
    refine S_iadd qX7_takes_16 ?_
    refine S_putI qX7_takes_17 fX7_41 e83_10 tX7_10 ?_
    refine S_iconst qX7_takes_20 ?_
    refine S_zret hz qX7_takes_21 (by omega) ?_
    exact ⟨_, rfl, Or.inl ⟨rfl, c5, by omega, At.up _ _, hX.at (At.up _ _) (by rw [upR_s, ur_s]) (by omega)⟩⟩
  · refine S_iconst qX7_takes_8 ?_
    refine S_zret hz qX7_takes_9 (by omega) ?_
    exact ⟨_, rfl, Or.inr ⟨rfl, c5, rfl⟩⟩

theorem m_isDigit {g : GC} {V : MM} {T : Int → Int} {L p : Int} (hX : TX V T L p) : Ct g mX7_isDigit 2 [vr 83] V (RB V (dgS T L p)) := by
  refine Ct.of (ls := [some (vr 83)]) (plainFor_of_name (by decide +kernel)) rfl (by exact Nat.le_of_ble_eq_true rfl) (fun X hz hD => ?_)
  have hr := nxm_rg hX
  have hd := nx_dg (T := T) (L := L) (p := p) hX.2.2.2.2.1.2
  refine S_al0 qX7_isDigit_0 ?_
  refine S_al0 qX7_isDigit_1 ?_
  refine S_V0E hD qX7_isDigit_2 lX7_222 vX7_next r83 (m_next hX) (K := ?_)
  refine S_bipush (d := qX7_isDigit_5) (k := ?_)
  refine S_bipush (d := qX7_isDigit_7) (k := ?_)
  refine S_V3B hD qX7_isDigit_9 lX7_206 vX7_in r83 (m_in (by omega) (by omega) (by omega)) (kt := fun j9 => ?_) (kf := fun j9 => ?_)
  · refine S_zret hz qX7_isDigit_12 (by omega) ?_
    refine RB.mk ?_
    first | exact Or.inl ⟨rfl, hd.mp j9⟩ | exact Or.inr ⟨rfl, fun q => j9 (hd.mpr q)⟩
  · refine S_zret hz qX7_isDigit_12 (by omega) ?_
    refine RB.mk ?_
    first | exact Or.inl ⟨rfl, hd.mp j9⟩ | exact Or.inr ⟨rfl, fun q => j9 (hd.mpr q)⟩

theorem nu_no {T : Int → Int} {L p : Int} (h : ¬ dgS T L p) : nuS T L p = (-1, p) := if_neg h
theorem nu_1 {T : Int → Int} {L p : Int} (h : dgS T L p) (h2 : ¬ dgS T L (p + 1)) : nuS T L p = (T p - 48, p + 1) := by unfold nuS; rw [if_pos h, if_neg h2]
theorem nu_2 {T : Int → Int} {L p : Int} (h : dgS T L p) (h2 : dgS T L (p + 1)) : nuS T L p = ((T p - 48) * 10 + (T (p + 1) - 48), p + 2) := by unfold nuS; rw [if_pos h, if_pos h2]
theorem dg_nx {T : Int → Int} {L p : Int} (h : dgS T L p) : nxM T L p = T p := if_pos h.1

theorem m_takesNumber {g : GC} {V : MM} {T : Int → Int} {L p : Int} (hX : TX V T L p) : Ct g mX7_takesNumber 3 [vr 83] V (RI (fun z V' => (z = 1 ∧ 0 ≤ (nuS T L p).1 ∧ At V V' ∧ TX V' T L (nuS T L p).2 ∧ V' 83 11 = (nuS T L p).1) ∨ (z = 0 ∧ (nuS T L p).1 < 0 ∧ (nuS T L p).2 = p ∧ V' = V))) := by
  refine Ct.of (ls := [some (vr 83), none]) (plainFor_of_name (by decide +kernel)) rfl (by exact Nat.le_of_ble_eq_true rfl) (fun X hz hD => ?_)
  have hr := nxm_rg hX
  obtain ⟨h1, h2, h3, h4, h5, h6⟩ := id hX
  have nr := nu_rg T L p
  refine S_al0 qX7_takesNumber_0 ?_
  refine S_V0B hD qX7_takesNumber_1 lX7_228 vX7_isDigit r83 (m_isDigit hX) (kt := fun j1 => ?_) (kf := fun j1 => ?_)
  · refine S_if_ne (d := qX7_takesNumber_4) (kt := fun _ => ?_) (kf := fun c => absurd c (by decide))
    refine S_al0 qX7_takesNumber_9 ?_
    refine S_iconst qX7_takesNumber_10 ?_
    refine S_putI qX7_takesNumber_11 fX7_44 e83_11 tX7_11 ?_
    refine S_iconst qX7_takesNumber_14 ?_
    refine S_is1 qX7_takesNumber_15 (K := ?_)
    generalize hW : upR V 83 (ur (V 83) 11 0) = W
    have w11 : W 83 11 = 0 := by rw [← hW, upR_s, ur_s]
    have hA : At V W := by rw [← hW]; exact At.dg _ _
    have w10 : W 83 10 = p := by rw [← hW, upR_s, ur_n _ (by omega)]; exact h3
    have hX1 := hX.at hA w10 h4
    have hq := dg_nx j1
    have hr1 := h6 p (by omega)
    refine S_il1 qX7_takesNumber_16 ?_
    refine S_iconst qX7_takesNumber_17 ?_
    refine S_icmp_ge (d := qX7_takesNumber_18) (kt := fun c => absurd c (by decide)) (kf := fun _ => ?_)
    refine S_al0 qX7_takesNumber_21 ?_
    refine S_V0B hD qX7_takesNumber_22 lX7_228 vX7_isDigit r83 (m_isDigit hX1) (kt := fun j22 => ?_) (kf := fun j22 => ?_)
    · refine S_if_eq (d := qX7_takesNumber_25) (kt := fun c => absurd c (by decide)) (kf := fun _ => ?_)
      refine S_al0 qX7_takesNumber_28 ?_
      refine S_bipush (d := qX7_takesNumber_29) (k := ?_)
      refine S_al0 qX7_takesNumber_31 ?_
      refine S_getI qX7_takesNumber_32 fX7_44 e83_11 ?_
      rw [w11]
      refine S_imul qX7_takesNumber_35 ?_
      refine S_al0 qX7_takesNumber_36 ?_
      refine S_V0E hD qX7_takesNumber_37 lX7_222 vX7_next r83 (m_next hX1) (K := ?_)
      refine S_iadd qX7_takesNumber_40 ?_
      refine S_bipush (d := qX7_takesNumber_41) (k := ?_)
      refine S_isub qX7_takesNumber_43 ?_
      refine S_putI qX7_takesNumber_44 fX7_44 e83_11 tX7_11 ?_
      refine S_al0 qX7_takesNumber_47 ?_
      refine S_dup (d := qX7_takesNumber_48) (k := ?_)
      refine S_getI qX7_takesNumber_49 fX7_41 e83_10 ?_
      rw [upR_s, ur_n _ (show (10 : Int) ≠ 11 by omega), w10]
      refine S_iconst qX7_takesNumber_52 ?_
      refine S_iadd qX7_takesNumber_53 ?_
      refine S_putI qX7_takesNumber_54 fX7_41 e83_10 tX7_10 ?_
      refine S_inc1 qX7_takesNumber_57 (K := ?_)
      refine S_goto qX7_takesNumber_60 ?_
      generalize hU : upR (upR W 83 (ur (W 83) 11 (10 * 0 + nxM T L p - 48))) 83 (ur (upR W 83 (ur (W 83) 11 (10 * 0 + nxM T L p - 48)) 83) 10 (p + 1)) = U
      have u11 : U 83 11 = T p - 48 := by rw [← hU, upR_s, ur_n _ (by omega), upR_s, ur_s, hq]; omega
      have hA2 : At W U := by rw [← hU]; exact (At.dg _ _).tr (At.up _ _)
      have u10 : U 83 10 = p + 1 := by rw [← hU, upR_s, ur_s]
      have hX2 := hX1.at hA2 u10 (by omega)
      refine S_il1 qX7_takesNumber_16 ?_
      refine S_iconst qX7_takesNumber_17 ?_
      refine S_icmp_ge (d := qX7_takesNumber_18) (kt := fun c => absurd c (by decide)) (kf := fun _ => ?_)
      refine S_al0 qX7_takesNumber_21 ?_
      refine S_V0B hD qX7_takesNumber_22 lX7_228 vX7_isDigit r83 (m_isDigit hX2) (kt := fun j22 => ?_) (kf := fun j22 => ?_)
      · refine S_if_eq (d := qX7_takesNumber_25) (kt := fun c => absurd c (by decide)) (kf := fun _ => ?_)
        have hq2 := dg_nx j22
        have hr2 := h6 (p + 1) (by omega)
        refine S_al0 qX7_takesNumber_28 ?_
        refine S_bipush (d := qX7_takesNumber_29) (k := ?_)
        refine S_al0 qX7_takesNumber_31 ?_
        refine S_getI qX7_takesNumber_32 fX7_44 e83_11 ?_
        rw [u11]
        refine S_imul qX7_takesNumber_35 ?_
        refine S_al0 qX7_takesNumber_36 ?_
        refine S_V0E hD qX7_takesNumber_37 lX7_222 vX7_next r83 (m_next hX2) (K := ?_)
        refine S_iadd qX7_takesNumber_40 ?_
        refine S_bipush (d := qX7_takesNumber_41) (k := ?_)
        refine S_isub qX7_takesNumber_43 ?_
        refine S_putI qX7_takesNumber_44 fX7_44 e83_11 tX7_11 ?_
        refine S_al0 qX7_takesNumber_47 ?_
        refine S_dup (d := qX7_takesNumber_48) (k := ?_)
        refine S_getI qX7_takesNumber_49 fX7_41 e83_10 ?_
        rw [upR_s, ur_n _ (show (10 : Int) ≠ 11 by omega), u10]
        refine S_iconst qX7_takesNumber_52 ?_
        refine S_iadd qX7_takesNumber_53 ?_
        refine S_putI qX7_takesNumber_54 fX7_41 e83_10 tX7_10 ?_
        refine S_inc1 qX7_takesNumber_57 (K := ?_)
        refine S_goto qX7_takesNumber_60 ?_
        generalize hY : upR (upR U 83 (ur (U 83) 11 (10 * (T p - 48) + nxM T L (p + 1) - 48))) 83 (ur (upR U 83 (ur (U 83) 11 (10 * (T p - 48) + nxM T L (p + 1) - 48)) 83) 10 (p + 1 + 1)) = Y
        have y11 : Y 83 11 = (T p - 48) * 10 + (T (p + 1) - 48) := by rw [← hY, upR_s, ur_n _ (by omega), upR_s, ur_s, hq2]; omega
        have hA3 : At U Y := by rw [← hY]; exact (At.dg _ _).tr (At.up _ _)
        have y10 : Y 83 10 = p + 1 + 1 := by rw [← hY, upR_s, ur_s]
        have hX3 := hX2.at hA3 y10 (by omega)
        refine S_il1 qX7_takesNumber_16 ?_
        refine S_iconst qX7_takesNumber_17 ?_
        refine S_icmp_ge (d := qX7_takesNumber_18) (kt := fun _ => ?_) (kf := fun c => absurd c (by decide))
        refine S_iconst qX7_takesNumber_63 ?_
        refine S_zret hz qX7_takesNumber_64 (by omega) ?_
        rw [nu_2 j1 j22] at nr ⊢
        rw [show p + 1 + 1 = p + 2 by omega] at hX3
        exact ⟨_, rfl, Or.inl ⟨rfl, by show 0 ≤ (T p - 48) * 10 + (T (p + 1) - 48); omega, (hA.tr hA2).tr hA3, hX3, y11⟩⟩
      · refine S_if_eq (d := qX7_takesNumber_25) (kt := fun _ => ?_) (kf := fun c => absurd c (by decide))
        refine S_iconst qX7_takesNumber_63 ?_
        refine S_zret hz qX7_takesNumber_64 (by omega) ?_
        rw [nu_1 j1 j22] at nr ⊢
        exact ⟨_, rfl, Or.inl ⟨rfl, by show 0 ≤ T p - 48; omega, hA.tr hA2, hX2, u11⟩⟩
    · refine S_if_eq (d := qX7_takesNumber_25) (kt := fun _ => ?_) (kf := fun c => absurd c (by decide))
      refine S_iconst qX7_takesNumber_63 ?_
      refine S_zret hz qX7_takesNumber_64 (by omega) ?_
      exact absurd j1 (by assumption)
  · refine S_if_ne (d := qX7_takesNumber_4) (kt := fun c => absurd c (by decide)) (kf := fun _ => ?_)
    refine S_iconst qX7_takesNumber_7 ?_
    refine S_zret hz qX7_takesNumber_8 (by omega) ?_
    rw [nu_no j1]
    exact ⟨_, rfl, Or.inr ⟨rfl, by show (-1 : Int) < 0; omega, rfl, rfl⟩⟩

/-- n signs of the letters from j on -/
def twM (T : Int → Int) (L : Int) : Nat → Int → Int → Bool × Int
  | 0, _, p => if nxM T L p = 32 then (true, p + 1) else (false, p)
  | n + 1, j, p => if nxM T L p = letL.getD j.toNat 0 then twM T L n (j + 1) (p + 1) else (false, p)

theorem let_rg {j : Int} (h : 0 ≤ j ∧ j < 17) : 0 ≤ letL.getD j.toNat 0 ∧ letL.getD j.toNat 0 ≤ 127 := by
  have h2 : ∀ n : Fin 17, 0 ≤ letL.getD n.1 0 ∧ letL.getD n.1 0 ≤ 127 := by decide
  exact h2 ⟨j.toNat, by omega⟩
theorem tw_loop {g : GC} {X : CX} {Q : Option AV → MM → Prop} {V : MM} {T : Int → Int} {L a m : Int} {xf : Bool × Int} (hl : MAl V) (ha : 0 ≤ a ∧ 0 ≤ m ∧ a + m ≤ 17) (hz : Fi g X (some .boolean) Q) (hD : Dp X 3) (hQ : ∀ V', At V V' → TX V' T L xf.2 → Q (some (vi (b2i xf.1))) V') : ∀ (n : Nat) (k p : Int) (V1 : MM), 0 ≤ k → k + n = m → At V V1 → TX V1 T L p → twM T L n (a + k) p = xf → SW g X RX7 cX7_takesWord 2 [some (vr 83), some (vi a), some (vi m), some (vi k)] [] V1 := by
  intro n
  induction n with
  | zero =>
    intro k p V1 h0 h1 hA hX hx
    unfold twM at hx
    refine S_il3 qX7_takesWord_2 ?_
    refine S_il2 qX7_takesWord_3 ?_
    refine S_icmp_ge (d := qX7_takesWord_4) (kt := fun c4 => ?_) (kf := fun c4 => ?_)
    rotate_left
    · omega
    refine S_al0 qX7_takesWord_30 ?_
    refine S_bipush (d := qX7_takesWord_31) (k := ?_)
    refine S_V1I hD qX7_takesWord_33 lX7_225 vX7_takes r83 (m_takes hX (by omega)) (kk := fun z33 V33 h33 => ?_)
    rcases h33 with ⟨rfl, t33, tp33, hA33, hX33⟩ | ⟨rfl, t33, rfl⟩
    · refine S_zret hz qX7_takesWord_36 (by omega) ?_
      first
        | (rw [if_pos t33] at hx; subst hx; exact hQ _ (hA.tr hA33) hX33)
        | (rw [if_neg t33] at hx; subst hx; exact hQ _ hA hX)
    · refine S_zret hz qX7_takesWord_36 (by omega) ?_
      first
        | (rw [if_pos t33] at hx; subst hx; exact hQ _ (hA.tr hA33) hX33)
        | (rw [if_neg t33] at hx; subst hx; exact hQ _ hA hX)
  | succ n ih =>
    intro k p V1 h0 h1 hA hX hx
    have hle : V1 97 (a + k) = letL.getD (a + k).toNat 0 := by rw [hA.1 97 (by omega)]; exact hl (a + k) (by omega)
    have hlr := let_rg (j := a + k) (by omega)
    unfold twM at hx
    refine S_il3 qX7_takesWord_2 ?_
    refine S_il2 qX7_takesWord_3 ?_
    refine S_icmp_ge (d := qX7_takesWord_4) (kt := fun c4 => ?_) (kf := fun c4 => ?_)
    · omega
    refine S_al0 qX7_takesWord_7 ?_
    refine S_al0 qX7_takesWord_8 ?_
    refine S_getR qX7_takesWord_9 fX7_80 e83_23 ?_
    refine S_il1 qX7_takesWord_12 ?_
    refine S_il3 qX7_takesWord_13 ?_
    refine S_iadd qX7_takesWord_14 ?_
    refine S_iald qX7_takesWord_15 a97 (K := ?_)
    rw [hle]
    refine S_V1I hD qX7_takesWord_16 lX7_225 vX7_takes r83 (m_takes hX (by omega)) (kk := fun z16 V16 h16 => ?_)
    rcases h16 with ⟨rfl, t16, tp16, hA16, hX16⟩ | ⟨rfl, t16, rfl⟩
    · refine S_if_ne (d := qX7_takesWord_19) (kt := fun _ => ?_) (kf := fun c => absurd c (by decide))
      refine S_inc3 qX7_takesWord_24 (K := ?_)
      refine S_goto qX7_takesWord_27 ?_
      rw [if_pos t16, Int.add_assoc] at hx
      exact ih (k + 1) _ _ (by omega) (by omega) (hA.tr hA16) hX16 hx
    · refine S_if_ne (d := qX7_takesWord_19) (kt := fun c => absurd c (by decide)) (kf := fun _ => ?_)
      refine S_iconst qX7_takesWord_22 ?_
      refine S_zret hz qX7_takesWord_23 (by omega) ?_
      rw [if_neg t16] at hx
      subst hx
      exact hQ _ hA hX
theorem m_takesWord {g : GC} {V : MM} {T : Int → Int} {L p a m : Int} (hl : MAl V) (hX : TX V T L p) (ha : 0 ≤ a ∧ 0 ≤ m ∧ a + m ≤ 17) : Ct g mX7_takesWord 3 [vr 83, vi a, vi m] V (RI (fun z V' => z = b2i (twM T L m.toNat a p).1 ∧ At V V' ∧ TX V' T L (twM T L m.toNat a p).2)) := by
  refine Ct.of (ls := [some (vr 83), some (vi a), some (vi m), none]) (plainFor_of_name (by decide +kernel)) rfl (by exact Nat.le_of_ble_eq_true rfl) (fun X hz hD => ?_)
  refine S_iconst qX7_takesWord_0 ?_
  refine S_is3 qX7_takesWord_1 (K := ?_)
  refine tw_loop (xf := twM T L m.toNat a p) hl ha hz hD (fun V' q1 q2 => ⟨_, rfl, rfl, q1, q2⟩) m.toNat 0 p V (by omega) (by omega) (At.rf V) hX ?_
  rw [Int.add_zero]
