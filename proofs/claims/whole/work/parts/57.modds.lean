theorem dv_gcd {a b d : Int} (ha : 0 ≤ a) (hb : 0 < b) (hd : 0 < d) : (a % d = 0 ∧ b % d = 0) ↔ d ∣ (Int.gcd a b : Int) := by
  constructor
  · rintro ⟨h1, h2⟩
    exact Int.dvd_coe_gcd (Int.dvd_of_emod_eq_zero h1) (Int.dvd_of_emod_eq_zero h2)
  · intro h
    exact ⟨Int.emod_eq_zero_of_dvd (Int.dvd_trans h (Int.gcd_dvd_left ..)), Int.emod_eq_zero_of_dvd (Int.dvd_trans h (Int.gcd_dvd_right ..))⟩
theorem gcd_rg {a b : Int} (hb : 0 < b) : 0 < (Int.gcd a b : Int) ∧ (Int.gcd a b : Int) ≤ b := by
  have h1 : 0 < Int.gcd a b := Int.gcd_pos_of_ne_zero_right a (by omega)
  have h2 : (Int.gcd a b : Int) ∣ b := Int.gcd_dvd_right ..
  have h3 := Int.le_of_dvd hb h2
  omega
theorem frL_gcd {a b part : Int} (ha : 0 ≤ a) (hb : 0 < b) : ∀ (n : Nat) (d : Int), d = n → (Int.gcd a b : Int) ≤ d → frL a b part n d = (if part = 0 then a else b) / (Int.gcd a b : Int) := by
  have hg := gcd_rg (a := a) hb
  intro n
  induction n with
  | zero => intro d h0 h1; omega
  | succ n ih =>
    intro d h0 h1
    unfold frL
    by_cases e : d = (Int.gcd a b : Int)
    · have h2 := (dv_gcd (d := d) ha hb (by omega)).mpr (by rw [e]; exact Int.dvd_refl _)
      rw [if_pos h2, ← e]
    · rw [if_neg (fun q => ?_), ih (d - 1) (by omega) (by omega)]
      have h3 := (dv_gcd (d := d) ha hb (by omega)).mp q
      have h4 := Int.le_of_dvd hg.1 h3
      omega
theorem frS_gcd {a b part : Int} (ha : 0 ≤ a) (hb : 0 < b) (hp : 0 ≤ part ∧ part ≤ 1) : frS a b part = (if part = 0 then a else b) / (Int.gcd a b : Int) := by
  unfold frS
  rw [if_neg (by omega)]
  exact frL_gcd ha hb _ _ (by omega) (gcd_rg hb).2
theorem gcd_st {p q : Int} (hp : 0 ≤ p) (hq : 0 < q) : Int.gcd q (p % q) = Int.gcd p q := by
  obtain ⟨P, rfl⟩ := Int.eq_ofNat_of_zero_le hp
  obtain ⟨R, rfl⟩ := Int.eq_ofNat_of_zero_le (Int.le_of_lt hq)
  show Nat.gcd R (P % R) = Nat.gcd P R
  rw [Nat.gcd_comm P R, Nat.gcd_rec R P, Nat.gcd_comm]

theorem div_loop {g : GC} {X : CX} {Q : Option AV → MM → Prop} {V : MM} {a b : Int} {gx : Nat} (hz : Fi g X (some .int) Q) (hQ : Q (some (vi (gx : Int))) V) : ∀ (n : Nat) (p q : Int), 0 ≤ p ∧ p ≤ 1000000 → 0 ≤ q ∧ q ≤ 1000000 → q ≤ n → Int.gcd p q = gx → (0 < p ∨ 0 < q) → SW g X RX7 cX7_divisor 5 [some (vr 83), some (vi a), some (vi b), some (vi p), some (vi q), none] [] V := by
  intro n
  induction n with
  | zero =>
    intro p q h0 h1 h2 h3 h4
    have e : q = 0 := by omega
    subst e
    refine S_il4 qX7_divisor_5 ?_
    refine S_if_eq (d := qX7_divisor_7) (kt := fun c7 => ?_) (kf := fun c7 => ?_)
    rotate_left
    · omega
    refine S_il3 qX7_divisor_26 ?_
    refine S_iret hz qX7_divisor_27 ?_
    rw [Int.gcd_zero_right] at h3
    have e : p = (gx : Int) := by rw [← h3]; omega
    rw [e]
    exact hQ
  | succ n ih =>
    intro p q h0 h1 h2 h3 h4
    by_cases e : q = 0
    · subst e
      refine S_il4 qX7_divisor_5 ?_
      refine S_if_eq (d := qX7_divisor_7) (kt := fun c7 => ?_) (kf := fun c7 => ?_)
      rotate_left
      · omega
      refine S_il3 qX7_divisor_26 ?_
      refine S_iret hz qX7_divisor_27 ?_
      rw [Int.gcd_zero_right] at h3
      have e : p = (gx : Int) := by rw [← h3]; omega
      rw [e]
      exact hQ
    · have z1 := Int.emod_nonneg p (show q ≠ 0 by omega)
      have z2 := Int.emod_lt_of_pos p (show 0 < q by omega)
      refine S_il4 qX7_divisor_5 ?_
      refine S_if_eq (d := qX7_divisor_7) (kt := fun c7 => ?_) (kf := fun c7 => ?_)
      · omega
      refine S_il3 qX7_divisor_10 ?_
      refine S_il4 qX7_divisor_11 ?_
      refine S_irem (d := qX7_divisor_13) (k := ?_)
      refine S_is5 qX7_divisor_14 (K := ?_)
      refine S_il4 qX7_divisor_16 ?_
      refine S_is3 qX7_divisor_18 (K := ?_)
      refine S_il5 qX7_divisor_19 ?_
      refine S_is4 qX7_divisor_21 (K := ?_)
      refine S_goto qX7_divisor_23 ?_
      refine SW.forget 5 (ih q (p % q) (by omega) (by omega) (by omega) ?_ (by omega))
      rw [gcd_st (by omega) (by omega)]
      exact h3
theorem m_divisor {g : GC} {V : MM} {a b : Int} (ha : 0 ≤ a ∧ a ≤ 1000000) (hb : 0 < b ∧ b ≤ 1000000) : Ct g mX7_divisor 1 [vr 83, vi a, vi b] V (RE V ((Int.gcd a b : Int))) := by
  refine Ct.of (ls := [some (vr 83), some (vi a), some (vi b), none, none, none]) (plainFor_of_name (by decide +kernel)) rfl (by exact Nat.le_of_ble_eq_true rfl) (fun X hz hD => ?_)
  refine S_il1 qX7_divisor_0 ?_
  refine S_is3 qX7_divisor_1 (K := ?_)
  refine S_il2 qX7_divisor_2 ?_
  refine S_is4 qX7_divisor_3 (K := ?_)
  exact div_loop (gx := Int.gcd a b) hz ⟨rfl, rfl⟩ b.toNat a b (by omega) (by omega) (by omega) rfl (by omega)

theorem m_lowest {g : GC} {V : MM} {a b part : Int} (ha : 0 ≤ a ∧ a ≤ 1000000) (hb : 0 < b ∧ b ≤ 1000000) (hp : 0 ≤ part ∧ part ≤ 1) : Ct g mX7_lowest 2 [vr 83, vi a, vi b, vi part] V (REL V (frS a b part)) := by
  refine Ct.of (ls := [some (vr 83), some (vi a), some (vi b), some (vi part), none]) (plainFor_of_name (by decide +kernel)) rfl (by exact Nat.le_of_ble_eq_true rfl) (fun X hz hD => ?_)
  have hg := gcd_rg (a := a) hb.1
  have d1 := dv_rg (a := a) (d := (Int.gcd a b : Int)) ha hg.1
  have d2 := dv_rg (a := b) (d := (Int.gcd a b : Int)) (by omega) hg.1
  refine S_al0 qX7_lowest_0 ?_
  refine S_il1 qX7_lowest_1 ?_
  refine S_il2 qX7_lowest_2 ?_
  refine S_V2E hD qX7_lowest_3 lX7_339 vX7_divisor r83 (m_divisor (by omega) (by omega)) (K := ?_)
  refine S_is4 qX7_lowest_6 (K := ?_)
  refine S_il3 qX7_lowest_8 ?_
  refine S_if_ne (d := qX7_lowest_9) (kt := fun c9 => ?_) (kf := fun c9 => ?_)
  · refine S_il2 qX7_lowest_20 ?_
    refine S_il4 qX7_lowest_21 ?_
    refine S_idiv (d := qX7_lowest_23) (k := ?_)
    refine S_i2l (d := qX7_lowest_24) (k := ?_)
    refine S_lret hz qX7_lowest_25 ?_
    refine REL.mk ?_
    rw [frS_gcd ha.1 hb.1 hp]
    first | (rw [if_pos (by omega)]; done) | (rw [if_neg (by omega)]; done)
  · refine S_il1 qX7_lowest_12 ?_
    refine S_il4 qX7_lowest_13 ?_
    refine S_idiv (d := qX7_lowest_15) (k := ?_)
    refine S_i2l (d := qX7_lowest_16) (k := ?_)
    refine S_goto qX7_lowest_17 ?_
    refine S_lret hz qX7_lowest_25 ?_
    refine REL.mk ?_
    rw [frS_gcd ha.1 hb.1 hp]
    first | (rw [if_pos (by omega)]; done) | (rw [if_neg (by omega)]; done)

theorem modd_loop {g : GC} {X : CX} {Q : Option AV → MM → Prop} {V : MM} {Z : ZT} {xf m part : Int} (hZ : MA V Z) (rm : 0 ≤ m ∧ m ≤ 30) (rp : 0 ≤ part ∧ part ≤ 1) (hn0 : 0 < Z.1.1) (hz : Fi g X (some .long) Q) (hD : Dp X 9) (hQ : ∀ V', Tm V V' → FM V' Z.2.1 Z.1 → Q (some (vl (frS xf Z.1.1 part))) V') : ∀ (n : Nat) (d c : Int) (V1 : MM), 0 ≤ d → d + n = Z.1.1 → Tm V V1 → FM V1 Z.2.1 Z.1 → (0 ≤ c ∧ c ≤ d) → oddS Z.2.1 Z.1 m n d c = xf → SW g X RX7 cX7_odds 37 [some (vr 83), some (vi m), some (vi part), some (vi c), some (vi d), none] [] V1 := by
  obtain ⟨-, hI0, hn6, hbb, hwz, hkz⟩ := hZ.pf
  intro n
  induction n with
  | zero =>
    intro d c V1 h0 h1 hT M hc hx
    unfold oddS at hx
    subst hx
    refine S_il4 qX7_odds_37 ?_
    refine S_al0 qX7_odds_39 ?_
    refine S_getI qX7_odds_40 fX7_7 e83_0 ?_
    rw [M.n]
    refine S_icmp_ge (d := qX7_odds_43) (kt := fun c43 => ?_) (kf := fun c43 => ?_)
    rotate_left
    · omega
    refine S_al0 qX7_odds_101 ?_
    refine S_il3 qX7_odds_102 ?_
    refine S_al0 qX7_odds_103 ?_
    refine S_getI qX7_odds_104 fX7_7 e83_0 ?_
    rw [M.n]
    refine S_il2 qX7_odds_107 ?_
    refine S_V3EL hD qX7_odds_108 lX7_344 vX7_lowest r83 (m_lowest (by omega) (by omega) (by omega)) (K := ?_)
    refine S_lret hz qX7_odds_111 ?_
    exact hQ _ hT M
  | succ n ih =>
    intro d c V1 h0 h1 hT M hc hx
    have M0 := M
    have hfo := hI0.2.2.2.1 d (by omega)
    have hcut := ti_cut Z.2.1 (folS Z.1 d d) (-5) (m := m) (by omega)
    have hneg := ti_neg Z.2.1 (folS Z.1 d d) (a := -1) (b := -5) (by omega) (by omega) 60
    have hrg := ti_rg Z.2.1 (folS Z.1 d d) (-1) (m := 60) (by omega)
    rw [← hneg] at hcut
    unfold oddS at hx
    rw [hcut] at hx
    refine S_il4 qX7_odds_37 ?_
    refine S_al0 qX7_odds_39 ?_
    refine S_getI qX7_odds_40 fX7_7 e83_0 ?_
    rw [M.n]
    refine S_icmp_ge (d := qX7_odds_43) (kt := fun c43 => ?_) (kf := fun c43 => ?_)
    · omega
    refine S_al0 qX7_odds_46 ?_
    refine S_getR qX7_odds_47 fX7_23 e83_4 ?_
    refine S_il4 qX7_odds_50 ?_
    refine S_iald qX7_odds_52 a86 (K := ?_)
    rw [M.w86]
    refine S_is5 qX7_odds_53 (K := ?_)
    refine S_al0 qX7_odds_55 ?_
    refine S_getR qX7_odds_56 fX7_23 e83_4 ?_
    refine S_il4 qX7_odds_59 ?_
    refine S_il4 qX7_odds_61 ?_
    refine S_iast qX7_odds_63 a86 (K := ?_)
    have q86 := fol_ft (d := d) (o := d) M (by omega) (by omega)
    have M := q86.1
    have hT := hT.tr q86.2
    have hb2 : (folS Z.1 d d).2.1 = Z.1.2.1 := rfl
    have w86 : V1 86 = Z.1.2.2.2.2.1 := M0.w86
    refine S_il3 qX7_odds_64 ?_
    refine S_al0 qX7_odds_65 ?_
    refine S_al0 qX7_odds_66 ?_
    refine S_iconst qX7_odds_67 ?_
    refine S_V1I hD qX7_odds_68 lX7_318 vX7_togetherBy r83 (m_tby M (by omega) (by omega)) (kk := fun z68 V68 h68 => ?_)
    obtain ⟨rfl, M, hT68⟩ := h68
    have hT := hT.tr hT68
    refine S_iconst qX7_odds_71 ?_
    refine S_il1 qX7_odds_72 ?_
    refine S_V3B hD qX7_odds_73 lX7_206 vX7_in r83 (m_in (by omega) (by omega) (by omega)) (kt := fun j73 => ?_) (kf := fun j73 => ?_)
    · refine S_if_eq (d := qX7_odds_76) (kt := fun c => absurd c (by decide)) (kf := fun _ => ?_)
      refine S_iconst qX7_odds_79 ?_
      refine S_goto qX7_odds_80 ?_
      refine S_iadd qX7_odds_84 ?_
      refine S_is3 qX7_odds_85 (K := ?_)
      refine S_al0 qX7_odds_86 ?_
      refine S_getR qX7_odds_87 fX7_23 e83_4 ?_
      refine S_il4 qX7_odds_90 ?_
      refine S_il5 qX7_odds_92 ?_
      refine S_iast qX7_odds_94 a86 (K := ?_)
      refine S_inc4 qX7_odds_95 (K := ?_)
      refine S_goto qX7_odds_98 ?_
      have hs1 : (folS Z.1 d d).1 = Z.1.1 := rfl
      have q87 := fol_ft (d := d) (o := Z.1.2.2.2.2.1 d) M (by omega) (by omega)
      have M := q87.1
      rw [fol_2, fol_id] at M
      have hT := hT.tr q87.2
      refine SW.forget 5 ?_
      first
        | (rw [if_neg (by split <;> omega)] at hx
           exact ih (d + 1) _ _ (by omega) (by omega) hT M (by omega) hx)
        | (rw [if_pos (by split <;> omega)] at hx
           try rw [Int.add_zero]
           exact ih (d + 1) _ _ (by omega) (by omega) hT M (by omega) hx)
    · refine S_if_eq (d := qX7_odds_76) (kt := fun _ => ?_) (kf := fun c => absurd c (by decide))
      refine S_iconst qX7_odds_83 ?_
      refine S_iadd qX7_odds_84 ?_
      refine S_is3 qX7_odds_85 (K := ?_)
      refine S_al0 qX7_odds_86 ?_
      refine S_getR qX7_odds_87 fX7_23 e83_4 ?_
      refine S_il4 qX7_odds_90 ?_
      refine S_il5 qX7_odds_92 ?_
      refine S_iast qX7_odds_94 a86 (K := ?_)
      refine S_inc4 qX7_odds_95 (K := ?_)
      refine S_goto qX7_odds_98 ?_
      have hs1 : (folS Z.1 d d).1 = Z.1.1 := rfl
      have q87 := fol_ft (d := d) (o := Z.1.2.2.2.2.1 d) M (by omega) (by omega)
      have M := q87.1
      rw [fol_2, fol_id] at M
      have hT := hT.tr q87.2
      refine SW.forget 5 ?_
      first
        | (rw [if_neg (by split <;> omega)] at hx
           exact ih (d + 1) _ _ (by omega) (by omega) hT M (by omega) hx)
        | (rw [if_pos (by split <;> omega)] at hx
           try rw [Int.add_zero]
           exact ih (d + 1) _ _ (by omega) (by omega) hT M (by omega) hx)
theorem m_odds {g : GC} {V : MM} {Z : ZT} {m part : Int} (hZ : MA V Z) (rm : -2147483648 ≤ m ∧ m ≤ 2147483647) (rpart : -2147483648 ≤ part ∧ part ≤ 2147483647) : Ct g mX7_odds 9 [vr 83, vi m, vi part] V (RML V (oOdds Z m part) Z) := by
  refine Ct.of (ls := [some (vr 83), some (vi m), some (vi part), none, none, none]) (plainFor_of_name (by decide +kernel)) rfl (by exact Nat.le_of_ble_eq_true rfl) (fun X hz hD => ?_)
  obtain ⟨M, hI0, hn6, hbb, hwz, hkz⟩ := hZ.pf
  have hT := Tm.rf V
  refine S_al0 qX7_odds_0 ?_
  refine S_il1 qX7_odds_1 ?_
  refine S_iconst qX7_odds_2 ?_
  refine S_bipush (d := qX7_odds_3) (k := ?_)
  refine S_V3B hD qX7_odds_5 lX7_206 vX7_in r83 (m_in (by omega) (by omega) (by omega)) (kt := fun j5 => ?_) (kf := fun j5 => ?_)
  · refine S_if_eq (d := qX7_odds_8) (kt := fun c => absurd c (by decide)) (kf := fun _ => ?_)
    refine S_al0 qX7_odds_11 ?_
    refine S_il2 qX7_odds_12 ?_
    refine S_iconst qX7_odds_13 ?_
    refine S_iconst qX7_odds_14 ?_
    refine S_V3B hD qX7_odds_15 lX7_206 vX7_in r83 (m_in (by omega) (by omega) (by omega)) (kt := fun j15 => ?_) (kf := fun j15 => ?_)
    · refine S_if_eq (d := qX7_odds_18) (kt := fun c => absurd c (by decide)) (kf := fun _ => ?_)
      refine S_al0 qX7_odds_21 ?_
      refine S_getI qX7_odds_22 fX7_7 e83_0 ?_
      rw [M.n]
      refine S_if_ne (d := qX7_odds_25) (kt := fun c25 => ?_) (kf := fun c25 => ?_)
      · refine S_iconst qX7_odds_32 ?_
        refine S_is3 qX7_odds_33 (K := ?_)
        refine S_iconst qX7_odds_34 ?_
        refine S_is4 qX7_odds_35 (K := ?_)
        refine modd_loop hZ (by omega) (by omega) (by omega) hz hD (fun V' p q => RML.tm hZ p q ?_) Z.1.1.toNat 0 0 _ (by omega) (by omega) hT M (by omega) rfl
        symm
        unfold oOdds
        rw [if_neg (by omega)]
      · refine S_ldc2 qX7_odds_28 kX7_342 ?_
        refine S_lret hz qX7_odds_31 ?_
        refine RML.same hZ ?_
        unfold oOdds NOl
        by_cases c : m < 0 ∨ 30 < m ∨ Z.1.1 = 0
        · rw [if_pos c]
        · rw [if_neg c]
          unfold frS
          rw [if_pos (by omega)]
    · refine S_if_eq (d := qX7_odds_18) (kt := fun _ => ?_) (kf := fun c => absurd c (by decide))
      refine S_ldc2 qX7_odds_28 kX7_342 ?_
      refine S_lret hz qX7_odds_31 ?_
      refine RML.same hZ ?_
      unfold oOdds NOl
      by_cases c : m < 0 ∨ 30 < m ∨ Z.1.1 = 0
      · rw [if_pos c]
      · rw [if_neg c]
        unfold frS
        rw [if_pos (by omega)]
  · refine S_if_eq (d := qX7_odds_8) (kt := fun _ => ?_) (kf := fun c => absurd c (by decide))
    refine S_ldc2 qX7_odds_28 kX7_342 ?_
    refine S_lret hz qX7_odds_31 ?_
    refine RML.same hZ ?_
    unfold oOdds NOl
    by_cases c : m < 0 ∨ 30 < m ∨ Z.1.1 = 0
    · rw [if_pos c]
    · rw [if_neg c]
      unfold frS
      rw [if_pos (by omega)]
