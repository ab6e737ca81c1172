theorem mme_in {g : GC} {X : CX} {hs : HS} {s : FS} {m part a : Int} {V1 : MM} {xf : Int × Int} (M : FM V1 hs s) (ra : 0 ≤ a ∧ a < s.1) (hD : Dp X 8) (hk : SW g X RX7 cX7_mean 97 [some (vr 83), some (vi m), some (vi part), some (vi xf.1), some (vi a), none] [] V1) : ∀ (n : Nat) (b x y : Int), a < b → b + n = s.1 → mi1 hs s a n b (x, y) = xf → SW g X RX7 cX7_mean 71 [some (vr 83), some (vi m), some (vi part), some (vi x), some (vi a), some (vi b)] [] V1 := by
  have hn6 := M.2.2.2.1
  intro n
  induction n with
  | zero =>
    intro b x y h0 h1 hx
    unfold mi1 at hx
    subst hx
    refine S_il5 qX7_mean_71 ?_
    refine S_al0 qX7_mean_73 ?_
    refine S_getI qX7_mean_74 fX7_7 e83_0 ?_
    rw [M.n]
    refine S_icmp_ge (d := qX7_mean_77) (kt := fun c77 => ?_) (kf := fun c77 => ?_)
    rotate_left
    · omega
    exact SW.forget 5 hk
  | succ n ih =>
    intro b x y h0 h1 hx
    unfold mi1 at hx
    refine S_il5 qX7_mean_71 ?_
    refine S_al0 qX7_mean_73 ?_
    refine S_getI qX7_mean_74 fX7_7 e83_0 ?_
    rw [M.n]
    refine S_icmp_ge (d := qX7_mean_77) (kt := fun c77 => ?_) (kf := fun c77 => ?_)
    · omega
    refine S_il3 qX7_mean_80 ?_
    refine S_al0 qX7_mean_81 ?_
    refine S_il4 qX7_mean_82 ?_
    refine S_il5 qX7_mean_84 ?_
    refine S_V2E hD qX7_mean_86 lX7_324 vX7_apart r83 (m_apart M (by omega) (by omega)) (K := ?_)
    refine S_iadd qX7_mean_89 ?_
    refine S_is3 qX7_mean_90 (K := ?_)
    refine S_inc5 qX7_mean_91 (K := ?_)
    refine S_goto qX7_mean_94 ?_
    exact ih (b + 1) _ _ (by omega) (by omega) hx
theorem mme_out {g : GC} {X : CX} {Q : Option AV → MM → Prop} {V : MM} {Z : ZT} {m part : Int} {s1 : FS} {V1 : MM} {xf : Int × Int} (hZ : MA V Z) (h2 : 2 ≤ Z.1.1) (rp : 0 ≤ part ∧ part ≤ 1) (hT : Tm V V1) (M : FM V1 Z.2.1 s1) (K : KM V1 Z.1) (S : Sk Z.1 s1) (hxf : 0 ≤ xf.1 ∧ xf.1 ≤ 1000000) (hxy : xf.2 = Z.1.1 * (Z.1.1 - 1) / 2) (hz : Fi g X (some .long) Q) (hD : Dp X 8) (hQ : ∀ V', Tm V V' → FM V' Z.2.1 Z.1 → Q (some (vl (frS xf.1 xf.2 part))) V') : ∀ (n : Nat) (a x y : Int), 0 ≤ a → a + n = s1.1 → mi2 Z.2.1 s1 n a (x, y) = xf → SW g X RX7 cX7_mean 56 [some (vr 83), some (vi m), some (vi part), some (vi x), some (vi a), none] [] V1 := by
  obtain ⟨-, hI0, hn6, hbb, hwz, hkz⟩ := hZ.pf
  have hS1 := S.1
  have hn : Z.1.1 = 2 ∨ Z.1.1 = 3 ∨ Z.1.1 = 4 ∨ Z.1.1 = 5 ∨ Z.1.1 = 6 := by omega
  have hq : 1 ≤ Z.1.1 * (Z.1.1 - 1) / 2 ∧ Z.1.1 * (Z.1.1 - 1) / 2 ≤ 15 ∧ 0 ≤ Z.1.1 * (Z.1.1 - 1) ∧ Z.1.1 * (Z.1.1 - 1) ≤ 30 := by
    rcases hn with h | h | h | h | h <;> rw [h] <;> decide
  intro n
  induction n with
  | zero =>
    intro a x y h0 h1 hx
    unfold mi2 at hx
    subst hx
    replace hxf : 0 ≤ x ∧ x ≤ 1000000 := hxf
    replace hxy : y = Z.1.1 * (Z.1.1 - 1) / 2 := hxy
    replace hQ : ∀ V', Tm V V' → FM V' Z.2.1 Z.1 → Q (some (vl (frS x y part))) V' := hQ
    refine S_il4 qX7_mean_56 ?_
    refine S_al0 qX7_mean_58 ?_
    refine S_getI qX7_mean_59 fX7_7 e83_0 ?_
    rw [M.n]
    refine S_icmp_ge (d := qX7_mean_62) (kt := fun c62 => ?_) (kf := fun c62 => ?_)
    rotate_left
    · omega
    refine S_al0 qX7_mean_103 ?_
    refine S_V0V hD qX7_mean_104 lX7_312 vX7_putBack r83 (m_putBack M K S hI0) (kk := fun V104 h104 => ?_)
    obtain ⟨M, hT104⟩ := h104
    have hT := hT.tr hT104
    refine S_al0 qX7_mean_107 ?_
    refine S_il3 qX7_mean_108 ?_
    refine S_al0 qX7_mean_109 ?_
    refine S_getI qX7_mean_110 fX7_7 e83_0 ?_
    rw [M.n]
    refine S_al0 qX7_mean_113 ?_
    refine S_getI qX7_mean_114 fX7_7 e83_0 ?_
    rw [M.n]
    refine S_iconst qX7_mean_117 ?_
    refine S_isub qX7_mean_118 ?_
    refine S_imul qX7_mean_119 ?_
    refine S_iconst qX7_mean_120 ?_
    refine S_idiv (d := qX7_mean_121) (k := ?_)
    refine S_il2 qX7_mean_122 ?_
    refine S_V3EL hD qX7_mean_123 lX7_344 vX7_lowest r83 (m_lowest (by omega) (by omega) (by omega)) (K := ?_)
    refine S_lret hz qX7_mean_126 ?_
    have h5 := hQ _ hT M
    rw [hxy] at h5
    exact h5
  | succ n ih =>
    intro a x y h0 h1 hx
    unfold mi2 at hx
    refine S_il4 qX7_mean_56 ?_
    refine S_al0 qX7_mean_58 ?_
    refine S_getI qX7_mean_59 fX7_7 e83_0 ?_
    rw [M.n]
    refine S_icmp_ge (d := qX7_mean_62) (kt := fun c62 => ?_) (kf := fun c62 => ?_)
    · omega
    refine S_il4 qX7_mean_65 ?_
    refine S_iconst qX7_mean_67 ?_
    refine S_iadd qX7_mean_68 ?_
    refine S_is5 qX7_mean_69 (K := ?_)
    refine mme_in (xf := mi1 Z.2.1 s1 a (s1.1 - (a + 1)).toNat (a + 1) (x, y)) M (by omega) hD ?_ (s1.1 - (a + 1)).toNat (a + 1) x y (by omega) (by omega) rfl
    refine S_inc4 qX7_mean_97 (K := ?_)
    refine S_goto qX7_mean_100 ?_
    exact ih (a + 1) _ (mi1 Z.2.1 s1 a (s1.1 - (a + 1)).toNat (a + 1) (x, y)).2 (by omega) (by omega) hx
theorem mi2_rg {hs : HS} {s : FS} (hw : 1 ≤ hs.1 ∧ hs.1 ≤ 99) (hn : s.1 ≤ 6) : ∀ (n : Nat) (a : Int) (x : Int × Int), 0 ≤ a → a + n = s.1 → 0 ≤ x.1 → 0 ≤ x.2 → 0 ≤ (mi2 hs s n a x).1 ∧ (mi2 hs s n a x).1 ≤ x.1 + 600 * n := by
  intro n
  induction n with
  | zero => intro a x h0 h1 h2 h3; show 0 ≤ x.1 ∧ x.1 ≤ x.1 + 600 * (0 : Nat); omega
  | succ n ih =>
    intro a x h0 h1 h2 h3
    unfold mi2
    have h4 := mi1_rg (hs := hs) (s := s) (a := a) hw (s.1 - (a + 1)).toNat (a + 1) x h2 h3
    have h5 := ih (a + 1) (mi1 hs s a (s.1 - (a + 1)).toNat (a + 1) x) (by omega) (by omega) h4.1.1 h4.2.1
    omega
theorem mme_go {g : GC} {X : CX} {Q : Option AV → MM → Prop} {V : MM} {Z : ZT} {m part : Int} (hD : Dp X 8) (rm : 0 ≤ m ∧ m ≤ 60) (sf : FS) (hk : ∀ V2, Tm V V2 → FM V2 Z.2.1 sf → KM V2 Z.1 → Sk Z.1 sf → SW g X RX7 cX7_mean 51 [some (vr 83), some (vi m), some (vi part), none, none, none] [] V2) : ∀ (n : Nat) (i : Int) (V1 : MM) (s1 : FS), 0 ≤ i → i + n = m → Tm V V1 → FM V1 Z.2.1 s1 → KM V1 Z.1 → Sk Z.1 s1 → goN Z.2.1 n s1 = sf → s1.2.1 + n ≤ 20000 → SW g X RX7 cX7_mean 36 [some (vr 83), some (vi m), some (vi part), some (vi i), none, none] [] V1 := by
  intro n
  induction n with
  | zero =>
    intro i V1 s1 h0 h1 hT M K S hx hb
    unfold goN at hx
    subst hx
    refine S_il3 qX7_mean_36 ?_
    refine S_il1 qX7_mean_37 ?_
    refine S_icmp_ge (d := qX7_mean_38) (kt := fun c38 => ?_) (kf := fun c38 => ?_)
    rotate_left
    · omega
    exact SW.forget 3 (hk _ hT M K S)
  | succ n ih =>
    intro i V1 s1 h0 h1 hT M K S hx hb
    unfold goN at hx
    refine S_il3 qX7_mean_36 ?_
    refine S_il1 qX7_mean_37 ?_
    refine S_icmp_ge (d := qX7_mean_38) (kt := fun c38 => ?_) (kf := fun c38 => ?_)
    · omega
    refine S_al0 qX7_mean_41 ?_
    refine S_V0V hD qX7_mean_42 lX7_306 vX7_go r83 (m_go M (by omega)) (kk := fun V42 h42 => ?_)
    obtain ⟨M, hT42, hK42⟩ := h42
    have hT := hT.tr hT42
    have K := K.ke hK42
    refine S_inc3 qX7_mean_45 (K := ?_)
    refine S_goto qX7_mean_48 ?_
    exact ih (i + 1) _ _ (by omega) (by omega) hT M K (S.go Z.2.1 false) hx (by show s1.2.1 + 1 + (n : Int) ≤ 20000; omega)
theorem m_mean {g : GC} {V : MM} {Z : ZT} {m part : Int} (hZ : MA V Z) (rm : -2147483648 ≤ m ∧ m ≤ 2147483647) (rpart : -2147483648 ≤ part ∧ part ≤ 2147483647) : Ct g mX7_mean 8 [vr 83, vi m, vi part] V (RML V (oMean Z m part) Z) := by
  refine Ct.of (ls := [some (vr 83), some (vi m), some (vi part), none, none, none]) (plainFor_of_name (by decide +kernel)) rfl (by exact Nat.le_of_ble_eq_true rfl) (fun X hz hD => ?_)
  obtain ⟨M, hI0, hn6, hbb, hwz, hkz⟩ := hZ.pf
  have hT := Tm.rf V
  refine S_al0 qX7_mean_0 ?_
  refine S_il1 qX7_mean_1 ?_
  refine S_V1B hD qX7_mean_2 lX7_303 vX7_isBeats r83 (m_isBeats (by omega)) (kt := fun j2 => ?_) (kf := fun j2 => ?_)
  · refine S_if_eq (d := qX7_mean_5) (kt := fun c => absurd c (by decide)) (kf := fun _ => ?_)
    refine S_al0 qX7_mean_8 ?_
    refine S_il2 qX7_mean_9 ?_
    refine S_iconst qX7_mean_10 ?_
    refine S_iconst qX7_mean_11 ?_
    refine S_V3B hD qX7_mean_12 lX7_206 vX7_in r83 (m_in (by omega) (by omega) (by omega)) (kt := fun j12 => ?_) (kf := fun j12 => ?_)
    · refine S_if_eq (d := qX7_mean_15) (kt := fun c => absurd c (by decide)) (kf := fun _ => ?_)
      refine S_al0 qX7_mean_18 ?_
      refine S_getI qX7_mean_19 fX7_7 e83_0 ?_
      rw [M.n]
      refine S_iconst qX7_mean_22 ?_
      refine S_icmp_ge (d := qX7_mean_23) (kt := fun c23 => ?_) (kf := fun c23 => ?_)
      · refine S_al0 qX7_mean_30 ?_
        refine S_V0V hD qX7_mean_31 lX7_309 vX7_save r83 (m_save M) (kk := fun V31 h31 => ?_)
        obtain ⟨M, hT31, K⟩ := h31
        have hT := hT.tr hT31
        refine S_iconst qX7_mean_34 ?_
        refine S_is3 qX7_mean_35 (K := ?_)
        refine mme_go (Q := fun _ _ => True) hD (by omega) (goN Z.2.1 m.toNat Z.1) (fun V2 hT M K S => ?_) m.toNat 0 _ _ (by omega) (by omega) hT M K (Sk.rf _) rfl (by omega)
        have hS1 := S.1
        have hm2 := mi2_rg (s := goN Z.2.1 m.toNat Z.1) hwz (by omega) Z.1.1.toNat 0 (0, 0) (by omega) (by omega) (Int.le_refl _) (Int.le_refl _)
        replace hm2 : 0 ≤ (mi2 Z.2.1 (goN Z.2.1 m.toNat Z.1) Z.1.1.toNat 0 (0, 0)).1 ∧ (mi2 Z.2.1 (goN Z.2.1 m.toNat Z.1) Z.1.1.toNat 0 (0, 0)).1 ≤ 0 + 600 * (Z.1.1.toNat : Int) := hm2
        have htr := tri_n Z.1.1.toNat (by omega) Z.2.1 (goN Z.2.1 m.toNat Z.1) (by omega)
        rw [show ((Z.1.1.toNat : Nat) : Int) = Z.1.1 by omega] at htr
        refine S_iconst qX7_mean_51 ?_
        refine S_is3 qX7_mean_52 (K := ?_)
        refine S_iconst qX7_mean_53 ?_
        refine S_is4 qX7_mean_54 (K := ?_)
        refine mme_out (xf := mi2 Z.2.1 (goN Z.2.1 m.toNat Z.1) Z.1.1.toNat 0 (0, 0)) hZ (by omega) (by omega) hT M K S (by omega) htr hz hD (fun V' p q => RML.tm hZ p q ?_) Z.1.1.toNat 0 0 0 (by omega) (by omega) rfl
        symm
        unfold oMean
        rw [if_neg (by omega)]
      · refine S_ldc2 qX7_mean_26 kX7_342 ?_
        refine S_lret hz qX7_mean_29 ?_
        refine RML.same hZ ?_
        unfold oMean NOl
        by_cases c : m < 0 ∨ 60 < m ∨ Z.1.1 < 2
        · rw [if_pos c]
        · rw [if_neg c]
          unfold frS
          rw [if_pos (by omega)]
    · refine S_if_eq (d := qX7_mean_15) (kt := fun _ => ?_) (kf := fun c => absurd c (by decide))
      refine S_ldc2 qX7_mean_26 kX7_342 ?_
      refine S_lret hz qX7_mean_29 ?_
      refine RML.same hZ ?_
      unfold oMean NOl
      by_cases c : m < 0 ∨ 60 < m ∨ Z.1.1 < 2
      · rw [if_pos c]
      · rw [if_neg c]
        unfold frS
        rw [if_pos (by omega)]
  · refine S_if_eq (d := qX7_mean_5) (kt := fun _ => ?_) (kf := fun c => absurd c (by decide))
    refine S_ldc2 qX7_mean_26 kX7_342 ?_
    refine S_lret hz qX7_mean_29 ?_
    refine RML.same hZ ?_
    unfold oMean NOl
    by_cases c : m < 0 ∨ 60 < m ∨ Z.1.1 < 2
    · rw [if_pos c]
    · rw [if_neg c]
      unfold frS
      rw [if_pos (by omega)]

theorem rouL_m {n d : Int} (hd : 0 ≤ d ∧ d < n) : (d + 1) % n = if d + 1 < n then d + 1 else 0 := by
  by_cases h : d + 1 < n
  · rw [if_pos h, Int.emod_eq_of_lt (by omega) h]
  · rw [if_neg h, show d + 1 = n by omega, Int.emod_self]
theorem rou_ft {V : MM} {hs : HS} {s : FS} (M : FM V hs s) : FM (upR V 86 (rouL s.1 s.2.2.2.2.1 s.1)) hs (rouS s) := by
  refine M.mk2 (fol_tm V _) ?_ (rou_inv M.2.2.2)
  have e := M.1
  show rouS s = (upR V 86 (rouL s.1 s.2.2.2.2.1 s.1) 83 0, upR V 86 (rouL s.1 s.2.2.2.2.1 s.1) 83 1, upR V 86 (rouL s.1 s.2.2.2.2.1 s.1) 84, upR V 86 (rouL s.1 s.2.2.2.2.1 s.1) 85, upR V 86 (rouL s.1 s.2.2.2.2.1 s.1) 86, upR V 86 (rouL s.1 s.2.2.2.2.1 s.1) 88, upR V 86 (rouL s.1 s.2.2.2.2.1 s.1) 87)
  rw [upR_s, upR_n _ (by omega), upR_n _ (by omega), upR_n _ (by omega), upR_n _ (by omega), upR_n _ (by omega), e]
  rfl
theorem mro_loop {g : GC} {X : CX} {V : MM} {hs : HS} {s : FS} {w i : Int} (M0 : FM V hs s) (ri : 0 ≤ i ∧ i < 10) (h2 : V 107 i = 2) (hk : SW g X RX7 cX7_danced 105 [some (vr 83), some (vi w), some (vi i), none] [] (upR V 86 (rouL s.1 s.2.2.2.2.1 s.1))) : ∀ (n : Nat) (d : Int), 0 ≤ d → d + n = s.1 → SW g X RX7 cX7_danced 67 [some (vr 83), some (vi w), some (vi i), some (vi d)] [] (upR V 86 (rouL s.1 s.2.2.2.2.1 d)) := by
  have hn6 := M0.2.2.2.1
  have en := M0.n
  intro n
  induction n with
  | zero =>
    intro d h0 h1
    have e83 : upR V 86 (rouL s.1 s.2.2.2.2.1 d) 83 = V 83 := upR_n _ (by omega)
    have hd : d = s.1 := by omega
    refine S_il3 qX7_danced_67 ?_
    refine S_al0 qX7_danced_68 ?_
    refine S_getI qX7_danced_69 fX7_7 e83_0 ?_
    rw [e83, en]
    refine S_icmp_ge (d := qX7_danced_72) (kt := fun c72 => ?_) (kf := fun c72 => ?_)
    rotate_left
    · omega
    rw [hd]
    exact SW.forget 3 hk
  | succ n ih =>
    intro d h0 h1
    have e83 : upR V 86 (rouL s.1 s.2.2.2.2.1 d) 83 = V 83 := upR_n _ (by omega)
    have e107 : upR V 86 (rouL s.1 s.2.2.2.2.1 d) 107 = V 107 := upR_n _ (by omega)
    refine S_il3 qX7_danced_67 ?_
    refine S_al0 qX7_danced_68 ?_
    refine S_getI qX7_danced_69 fX7_7 e83_0 ?_
    rw [e83, en]
    refine S_icmp_ge (d := qX7_danced_72) (kt := fun c72 => ?_) (kf := fun c72 => ?_)
    · omega
    refine S_al0 qX7_danced_75 ?_
    refine S_getR qX7_danced_76 fX7_123 e83_37 ?_
    refine S_il2 qX7_danced_79 ?_
    refine S_iald qX7_danced_80 a107 (K := ?_)
    rw [e107, h2]
    refine S_iconst qX7_danced_81 ?_
    refine S_icmp_ne (d := qX7_danced_82) (kt := fun c82 => ?_) (kf := fun c82 => ?_)
    · omega
    refine S_al0 qX7_danced_85 ?_
    refine S_getR qX7_danced_86 fX7_23 e83_4 ?_
    refine S_il3 qX7_danced_89 ?_
    refine S_il3 qX7_danced_90 ?_
    refine S_iconst qX7_danced_91 ?_
    refine S_iadd qX7_danced_92 ?_
    refine S_al0 qX7_danced_93 ?_
    refine S_getI qX7_danced_94 fX7_7 e83_0 ?_
    rw [e83, en]
    refine S_irem (d := qX7_danced_97) (k := ?_)
    refine S_iast qX7_danced_98 a86 (K := ?_)
    refine S_inc3 qX7_danced_99 (K := ?_)
    refine S_goto qX7_danced_102 ?_
    rw [upR_s, upR_u, rouL_1 _ _ h0 (rouL_m (by omega))]
    exact ih (d + 1) (by omega) (by omega)
theorem mda_loop {g : GC} {X : CX} {Q : Option AV → MM → Prop} {V : MM} {Z : ZT} {w : Int} {sf : FS} (hZ : MA V Z) (rw1 : -2147483648 ≤ w ∧ w ≤ 2147483647) (hw : w = 0 ∨ 10 ≤ w ∧ w - 10 < Z.1.1) (hz : Fi g X (some .int) Q) (hD : Dp X 8) (hQ : ∀ V', Tm V V' → FM V' Z.2.1 Z.1 → Q (some (vi (plaS sf w))) V') : ∀ (n : Nat) (i : Int) (V1 : MM) (s1 : FS), 0 ≤ i → i + n = Z.2.2.2.2.1.2.2.2.2.1 → Tm V V1 → FM V1 Z.2.1 s1 → KM V1 Z.1 → Sk Z.1 s1 → danS Z.2.1 Z.2.2.2.2.1.2.2.2.2.2.1 n i s1 = sf → s1.2.1 + n ≤ 20000 → SW g X RX7 cX7_danced 29 [some (vr 83), some (vi w), some (vi i), none] [] V1 := by
  obtain ⟨-, hI0, hn6, hbb, hwz, hkz⟩ := hZ.pf
  obtain ⟨hN, hNI⟩ := hZ.2.2.2.1
  have e35 : V 83 35 = Z.2.2.2.2.1.2.2.2.2.1 := by rw [← hN]
  have e107 : V 107 = Z.2.2.2.2.1.2.2.2.2.2.1 := by rw [← hN]
  obtain ⟨-, -, n3, n4, -, -⟩ := hNI
  intro n
  induction n with
  | zero =>
    intro i V1 s1 h0 h1 hT M K S hx hb
    have f35 : V1 83 35 = Z.2.2.2.2.1.2.2.2.2.1 := by rw [hT.2 35 (by omega) (by omega), e35]
    have hS1 := S.1
    have hI1 := M.2.2.2
    unfold danS at hx
    subst hx
    refine S_il2 qX7_danced_29 ?_
    refine S_al0 qX7_danced_30 ?_
    refine S_getI qX7_danced_31 fX7_117 e83_35 ?_
    refine S_icmp_ge (d := qX7_danced_34) (kt := fun c34 => ?_) (kf := fun c34 => ?_)
    rotate_left
    · omega
    refine S_il1 qX7_danced_111 ?_
    refine S_if_ne (d := qX7_danced_112) (kt := fun c112 => ?_) (kf := fun c112 => ?_)
    · refine S_al0 qX7_danced_122 ?_
      refine S_getR qX7_danced_123 fX7_29 e83_6 ?_
      refine S_bipush (d := qX7_danced_126) (k := ?_)
      refine S_il1 qX7_danced_128 ?_
      refine S_bipush (d := qX7_danced_129) (k := ?_)
      refine S_isub qX7_danced_131 ?_
      refine S_imul qX7_danced_132 ?_
      refine S_iald qX7_danced_133 a88 (K := ?_)
      first | (rw [M.w88]) | skip
      refine S_is2 qX7_danced_134 (K := ?_)
      refine S_al0 qX7_danced_135 ?_
      refine S_V0V hD qX7_danced_136 lX7_312 vX7_putBack r83 (m_putBack M K S hI0) (kk := fun V136 h136 => ?_)
      obtain ⟨M, hT136⟩ := h136
      have hT := hT.tr hT136
      refine S_il2 qX7_danced_139 ?_
      refine S_iret hz qX7_danced_140 ?_
      have h5 := hQ _ hT M
      unfold plaS at h5
      first
        | (rw [if_pos (by omega)] at h5; exact h5)
        | (rw [if_neg (by omega)] at h5; exact h5)
    · refine S_al0 qX7_danced_115 ?_
      refine S_V0I hD qX7_danced_116 lX7_296 vX7_many r83 (m_many M) (kk := fun z116 V116 h116 => ?_)
      obtain ⟨rfl, hO116⟩ := h116
      have M := M.om hO116
      have hT := hT.tr hO116.og.tm
      have K := K.ke hO116.ke
      refine S_goto qX7_danced_119 ?_
      first | (rw [M.w88]) | skip
      refine S_is2 qX7_danced_134 (K := ?_)
      refine S_al0 qX7_danced_135 ?_
      refine S_V0V hD qX7_danced_136 lX7_312 vX7_putBack r83 (m_putBack M K S hI0) (kk := fun V136 h136 => ?_)
      obtain ⟨M, hT136⟩ := h136
      have hT := hT.tr hT136
      refine S_il2 qX7_danced_139 ?_
      refine S_iret hz qX7_danced_140 ?_
      have h5 := hQ _ hT M
      unfold plaS at h5
      first
        | (rw [if_pos (by omega)] at h5; exact h5)
        | (rw [if_neg (by omega)] at h5; exact h5)
  | succ n ih =>
    intro i V1 s1 h0 h1 hT M K S hx hb
    have f35 : V1 83 35 = Z.2.2.2.2.1.2.2.2.2.1 := by rw [hT.2 35 (by omega) (by omega), e35]
    have n5 := n4 i (by omega)
    have F107 : ∀ V2, Tm V V2 → V2 107 i = Z.2.2.2.2.1.2.2.2.2.2.1 i := fun V2 h => by rw [h.1 107 (by omega) (by omega) (by omega) (by omega), e107]
    have f107 := F107 V1 hT
    unfold danS at hx
    have h3 : Z.2.2.2.2.1.2.2.2.2.2.1 i = 0 ∨ Z.2.2.2.2.1.2.2.2.2.2.1 i = 1 ∨ Z.2.2.2.2.1.2.2.2.2.2.1 i = 2 := by omega
    rcases h3 with h3 | h3 | h3
    · rw [if_neg (by omega), h3, decide_eq_false (by omega)] at hx
      refine S_il2 qX7_danced_29 ?_
      refine S_al0 qX7_danced_30 ?_
      refine S_getI qX7_danced_31 fX7_117 e83_35 ?_
      refine S_icmp_ge (d := qX7_danced_34) (kt := fun c34 => ?_) (kf := fun c34 => ?_)
      · omega
      refine S_al0 qX7_danced_37 ?_
      refine S_getR qX7_danced_38 fX7_123 e83_37 ?_
      refine S_il2 qX7_danced_41 ?_
      refine S_iald qX7_danced_42 a107 (K := ?_)
      refine S_if_ne (d := qX7_danced_43) (kt := fun c43 => ?_) (kf := fun c43 => ?_)
      · omega
      refine S_al0 qX7_danced_46 ?_
      refine S_V0V hD qX7_danced_47 lX7_306 vX7_go r83 (m_go M (by omega)) (kk := fun V47 h47 => ?_)
      obtain ⟨M, hT47, hK47⟩ := h47
      have hT := hT.tr hT47
      have K := K.ke hK47
      have f107 := F107 _ hT
      have hI2 := M.2.2.2.1
      refine S_al0 qX7_danced_50 ?_
      refine S_getR qX7_danced_51 fX7_123 e83_37 ?_
      refine S_il2 qX7_danced_54 ?_
      refine S_iald qX7_danced_55 a107 (K := ?_)
      refine S_iconst qX7_danced_56 ?_
      refine S_icmp_ne (d := qX7_danced_57) (kt := fun c57 => ?_) (kf := fun c57 => ?_)
      rotate_left
      · omega
      refine S_iconst qX7_danced_65 ?_
      refine S_is3 qX7_danced_66 (K := ?_)
      refine S_il3 qX7_danced_67 ?_
      refine S_al0 qX7_danced_68 ?_
      refine S_getI qX7_danced_69 fX7_7 e83_0 ?_
      rw [M.n]
      refine S_icmp_ge (d := qX7_danced_72) (kt := fun c72 => ?_) (kf := fun c72 => ?_)
      · refine SW.forget 3 ?_
        refine S_inc2 qX7_danced_105 (K := ?_)
        refine S_goto qX7_danced_108 ?_
        exact ih (i + 1) _ _ (by omega) (by omega) hT M K (S.go Z.2.1 false) hx (by show s1.2.1 + 1 + (n : Int) ≤ 20000; omega)
      · refine S_al0 qX7_danced_75 ?_
        refine S_getR qX7_danced_76 fX7_123 e83_37 ?_
        refine S_il2 qX7_danced_79 ?_
        refine S_iald qX7_danced_80 a107 (K := ?_)
        refine S_iconst qX7_danced_81 ?_
        refine S_icmp_ne (d := qX7_danced_82) (kt := fun c82 => ?_) (kf := fun c82 => ?_)
        rotate_left
        · omega
        refine SW.forget 3 ?_
        refine S_inc2 qX7_danced_105 (K := ?_)
        refine S_goto qX7_danced_108 ?_
        exact ih (i + 1) _ _ (by omega) (by omega) hT M K (S.go Z.2.1 false) hx (by show s1.2.1 + 1 + (n : Int) ≤ 20000; omega)
    · rw [if_neg (by omega), h3, decide_eq_true (by omega)] at hx
      refine S_il2 qX7_danced_29 ?_
      refine S_al0 qX7_danced_30 ?_
      refine S_getI qX7_danced_31 fX7_117 e83_35 ?_
      refine S_icmp_ge (d := qX7_danced_34) (kt := fun c34 => ?_) (kf := fun c34 => ?_)
      · omega
      refine S_al0 qX7_danced_37 ?_
      refine S_getR qX7_danced_38 fX7_123 e83_37 ?_
      refine S_il2 qX7_danced_41 ?_
      refine S_iald qX7_danced_42 a107 (K := ?_)
      refine S_if_ne (d := qX7_danced_43) (kt := fun c43 => ?_) (kf := fun c43 => ?_)
      rotate_left
      · omega
      refine S_al0 qX7_danced_50 ?_
      refine S_getR qX7_danced_51 fX7_123 e83_37 ?_
      refine S_il2 qX7_danced_54 ?_
      refine S_iald qX7_danced_55 a107 (K := ?_)
      refine S_iconst qX7_danced_56 ?_
      refine S_icmp_ne (d := qX7_danced_57) (kt := fun c57 => ?_) (kf := fun c57 => ?_)
      · omega
      refine S_al0 qX7_danced_60 ?_
      refine S_iconst qX7_danced_61 ?_
      refine S_V1V hD qX7_danced_62 lX7_299 vX7_goBeat r83 (m_beat1 M (by omega)) (kk := fun V62 h62 => ?_)
      obtain ⟨M, hT62, hK62⟩ := h62
      have hT := hT.tr hT62
      have K := K.ke hK62
      have f107 := F107 _ hT
      have hI2 := M.2.2.2.1
      refine S_iconst qX7_danced_65 ?_
      refine S_is3 qX7_danced_66 (K := ?_)
      refine S_il3 qX7_danced_67 ?_
      refine S_al0 qX7_danced_68 ?_
      refine S_getI qX7_danced_69 fX7_7 e83_0 ?_
      rw [M.n]
      refine S_icmp_ge (d := qX7_danced_72) (kt := fun c72 => ?_) (kf := fun c72 => ?_)
      · refine SW.forget 3 ?_
        refine S_inc2 qX7_danced_105 (K := ?_)
        refine S_goto qX7_danced_108 ?_
        exact ih (i + 1) _ _ (by omega) (by omega) hT M K (S.go Z.2.1 true) hx (by show s1.2.1 + 1 + (n : Int) ≤ 20000; omega)
      · refine S_al0 qX7_danced_75 ?_
        refine S_getR qX7_danced_76 fX7_123 e83_37 ?_
        refine S_il2 qX7_danced_79 ?_
        refine S_iald qX7_danced_80 a107 (K := ?_)
        refine S_iconst qX7_danced_81 ?_
        refine S_icmp_ne (d := qX7_danced_82) (kt := fun c82 => ?_) (kf := fun c82 => ?_)
        rotate_left
        · omega
        refine SW.forget 3 ?_
        refine S_inc2 qX7_danced_105 (K := ?_)
        refine S_goto qX7_danced_108 ?_
        exact ih (i + 1) _ _ (by omega) (by omega) hT M K (S.go Z.2.1 true) hx (by show s1.2.1 + 1 + (n : Int) ≤ 20000; omega)
    · rw [if_pos h3] at hx
      have er : rouL s1.1 s1.2.2.2.2.1 0 = V1 86 := by
        rw [M.w86]
        funext j
        unfold rouL
        rw [if_neg (by omega)]
      refine S_il2 qX7_danced_29 ?_
      refine S_al0 qX7_danced_30 ?_
      refine S_getI qX7_danced_31 fX7_117 e83_35 ?_
      refine S_icmp_ge (d := qX7_danced_34) (kt := fun c34 => ?_) (kf := fun c34 => ?_)
      · omega
      refine S_al0 qX7_danced_37 ?_
      refine S_getR qX7_danced_38 fX7_123 e83_37 ?_
      refine S_il2 qX7_danced_41 ?_
      refine S_iald qX7_danced_42 a107 (K := ?_)
      refine S_if_ne (d := qX7_danced_43) (kt := fun c43 => ?_) (kf := fun c43 => ?_)
      rotate_left
      · omega
      refine S_al0 qX7_danced_50 ?_
      refine S_getR qX7_danced_51 fX7_123 e83_37 ?_
      refine S_il2 qX7_danced_54 ?_
      refine S_iald qX7_danced_55 a107 (K := ?_)
      refine S_iconst qX7_danced_56 ?_
      refine S_icmp_ne (d := qX7_danced_57) (kt := fun c57 => ?_) (kf := fun c57 => ?_)
      rotate_left
      · omega
      refine S_iconst qX7_danced_65 ?_
      refine S_is3 qX7_danced_66 (K := ?_)
      rw [← upR_id V1 86, ← er]
      refine mro_loop M (by omega) (by omega) ?_ s1.1.toNat 0 (by omega) (by have := M.2.2.2.1; omega)
      have M := rou_ft M
      have hT := hT.tr (fol_tm V1 (rouL s1.1 s1.2.2.2.2.1 s1.1))
      have K : KM (upR V1 86 (rouL s1.1 s1.2.2.2.2.1 s1.1)) Z.1 := K.ke ⟨by rw [upR_n _ (by omega)], upR_n _ (by omega), upR_n _ (by omega)⟩
      refine S_inc2 qX7_danced_105 (K := ?_)
      refine S_goto qX7_danced_108 ?_
      exact ih (i + 1) _ _ (by omega) (by omega) hT M K S hx (by show s1.2.1 + (n : Int) ≤ 20000; omega)
theorem m_danced {g : GC} {V : MM} {Z : ZT} {w : Int} (hZ : MA V Z) (rw1 : -2147483648 ≤ w ∧ w ≤ 2147483647) : Ct g mX7_danced 8 [vr 83, vi w] V (RM V (oDanced Z w) Z) := by
  refine Ct.of (ls := [some (vr 83), some (vi w), none, none]) (plainFor_of_name (by decide +kernel)) rfl (by exact Nat.le_of_ble_eq_true rfl) (fun X hz hD => ?_)
  obtain ⟨M, hI0, hn6, hbb, hwz, hkz⟩ := hZ.pf
  have hT := Tm.rf V
  have n3 := hZ.2.2.2.1.2.2.2.1
  refine S_il1 qX7_danced_0 ?_
  refine S_if_eq (d := qX7_danced_1) (kt := fun c1 => ?_) (kf := fun c1 => ?_)
  · refine S_al0 qX7_danced_23 ?_
    refine S_V0V hD qX7_danced_24 lX7_309 vX7_save r83 (m_save M) (kk := fun V24 h24 => ?_)
    obtain ⟨M, hT24, K⟩ := h24
    have hT := hT.tr hT24
    refine S_iconst qX7_danced_27 ?_
    refine S_is2 qX7_danced_28 (K := ?_)
    refine mda_loop (sf := danS Z.2.1 Z.2.2.2.2.1.2.2.2.2.2.1 Z.2.2.2.2.1.2.2.2.2.1.toNat 0 Z.1) hZ rw1 (by omega) hz hD (fun V' a b => RM.tm hZ a b ?_) Z.2.2.2.2.1.2.2.2.2.1.toNat 0 _ _ (by omega) (by omega) hT M K (Sk.rf _) rfl (by omega)
    symm
    unfold oDanced
    rw [if_neg (by omega)]
  · refine S_al0 qX7_danced_4 ?_
    refine S_il1 qX7_danced_5 ?_
    refine S_bipush (d := qX7_danced_6) (k := ?_)
    refine S_bipush (d := qX7_danced_8) (k := ?_)
    refine S_al0 qX7_danced_10 ?_
    refine S_getI qX7_danced_11 fX7_7 e83_0 ?_
    rw [M.n]
    refine S_iadd qX7_danced_14 ?_
    refine S_V3B hD qX7_danced_15 lX7_206 vX7_in r83 (m_in (by omega) (by omega) (by omega)) (kt := fun j15 => ?_) (kf := fun j15 => ?_)
    · refine S_if_ne (d := qX7_danced_18) (kt := fun _ => ?_) (kf := fun c => absurd c (by decide))
      refine S_al0 qX7_danced_23 ?_
      refine S_V0V hD qX7_danced_24 lX7_309 vX7_save r83 (m_save M) (kk := fun V24 h24 => ?_)
      obtain ⟨M, hT24, K⟩ := h24
      have hT := hT.tr hT24
      refine S_iconst qX7_danced_27 ?_
      refine S_is2 qX7_danced_28 (K := ?_)
      refine mda_loop (sf := danS Z.2.1 Z.2.2.2.2.1.2.2.2.2.2.1 Z.2.2.2.2.1.2.2.2.2.1.toNat 0 Z.1) hZ rw1 (by omega) hz hD (fun V' a b => RM.tm hZ a b ?_) Z.2.2.2.2.1.2.2.2.2.1.toNat 0 _ _ (by omega) (by omega) hT M K (Sk.rf _) rfl (by omega)
      symm
      unfold oDanced
      rw [if_neg (by omega)]
    · refine S_if_ne (d := qX7_danced_18) (kt := fun c => absurd c (by decide)) (kf := fun _ => ?_)
      refine S_iconst qX7_danced_21 ?_
      refine S_iret hz qX7_danced_22 ?_
      refine RM.same hZ ?_
      unfold oDanced
      first | (rw [if_pos (by omega)]; done) | (rw [if_neg (by omega), if_pos (by omega)]; done) | (rw [if_neg (by omega), if_neg (by omega), if_pos (by omega)]; done)
