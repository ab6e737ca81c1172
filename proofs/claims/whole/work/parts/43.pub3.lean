def whoS (hs : HS) (s : FS) (d : Int) : Nat → Int → Int → Int → Int
  | 0, _, _, b => b
  | n + 1, o, l, b => if tiS hs (folS s d o) (-5) (l - 1) = -5 then whoS hs s d n (o + 1) l b else whoS hs s d n (o + 1) (tiS hs (folS s d o) (-5) (l - 1)) o
def oWhom (Z : ZT) (d : Int) : Int := if d < 0 ∨ Z.1.1 ≤ d then -1 else whoS Z.2.1 Z.1 d Z.1.1.toNat 0 61 (-5)
def aloS (hs : HS) (s : FS) (d m : Int) : Nat → Int → Int → Int → Int × Int
  | 0, _, l, b => (b, l)
  | n + 1, o, l, b => if l < alnS hs d m.toNat (folS s d o) 0 then aloS hs s d m n (o + 1) (alnS hs d m.toNat (folS s d o) 0) o else aloS hs s d m n (o + 1) l b
def oAlone (Z : ZT) (d m w : Int) : Int := if d < 0 ∨ Z.1.1 ≤ d ∨ w < 0 ∨ 1 < w then -1 else if m < 1 ∨ 30 < m then -2 else if w = 0 then (aloS Z.2.1 Z.1 d m Z.1.1.toNat 0 (-1) 0).1 else (aloS Z.2.1 Z.1 d m Z.1.1.toNat 0 (-1) 0).2
def stpS (hs : HS) (s : FS) : Nat → Int → Int → Int → Int
  | 0, _, _, b => b
  | n + 1, k, l, b => if tiS hs s k (l - 1) = -5 then stpS hs s n (k + 1) l b else stpS hs s n (k + 1) (tiS hs s k (l - 1)) k
def oStop (Z : ZT) : Int := stpS Z.2.1 Z.1 11 0 (if tiS Z.2.1 Z.1 (-5) 60 = -5 then 61 else tiS Z.2.1 Z.1 (-5) 60) (-5)
def begS (hs : HS) (s : FS) (d m : Int) : Nat → Int → Int → Int → Int × Int
  | 0, _, c, l => (c, l)
  | n + 1, p, c, l => if tiS hs (layF s d p) (-5) m = -5 then begS hs s d m n (p + 1) c l else begS hs s d m n (p + 1) (c + 1) (if l = -5 then p else l)
def oBegins (Z : ZT) (d m w : Int) : Int := if d < 0 ∨ Z.1.1 ≤ d ∨ w < 0 ∨ 1 < w then -1 else if m < 0 ∨ 12 < m then -2 else if w = 0 then (begS Z.2.1 Z.1 d m Z.2.1.1.toNat 0 0 (-5)).1 else (begS Z.2.1 Z.1 d m Z.2.1.1.toNat 0 0 (-5)).2
theorem aln_rg (hs : HS) (d : Int) : ∀ (n : Nat) (s : FS) (c : Int), c ≤ alnS hs d n s c ∧ alnS hs d n s c ≤ c + n := by
  intro n
  induction n with
  | zero => intro s c; unfold alnS; omega
  | succ n ih =>
    intro s c
    unfold alnS
    by_cases h : aloB (goS hs false s) d = true
    · rw [if_pos h]
      have := ih (goS hs false s) (c + 1)
      omega
    · rw [if_neg h]
      have := ih (goS hs false s) c
      omega

theorem whom_loop {g : GC} {X : CX} {Q : Option AV → MM → Prop} {V : MM} {Z : ZT} {xf d : Int} (hZ : CA V Z) (rd : 0 ≤ d ∧ d < Z.1.1) (hz : Fi g X (some .int) Q) (hD : Dp X 8) (hQ : ∀ V', Tl V V' → Q (some (vi xf)) V') : ∀ (n : Nat) (o l b : Int) (V1 : MM), 0 ≤ o → o + n = Z.1.1 → Tl V V1 → (0 ≤ l ∧ l ≤ 61) → whoS Z.2.1 Z.1 d n o l b = xf → SW g X RX6 cX6_whom 22 [some (vr 0), some (vi d), some (vi b), some (vi l), some (vi o), none] [] V1 := by
  intro n
  induction n with
  | zero =>
    intro o l b V1 h0 h1 hTl hl hx
    unfold whoS at hx
    subst hx
    have hZ1 := hTl.ca hZ
    obtain ⟨hF, es, e1, e2, hn, hb, hkv, hfo, hwa, hro, hH, hh, h0, eh, hw, hk, hwz⟩ := hZ1.fl
    have hr := hZ1.1.2.1
    refine S_il4 qX6_whom_22 ?_
    refine S_al0 qX6_whom_24 ?_
    refine S_getR qX6_whom_25 fX6_17 e0_0 ?_
    refine S_getI qX6_whom_28 fX6_72 (F_0 F8) ?_
    refine S_icmp_ge (d := qX6_whom_31) (kt := fun c31 => ?_) (kf := fun c31 => ?_)
    rotate_left
    · omega
    refine S_il2 qX6_whom_88 ?_
    refine S_iret hz qX6_whom_89 ?_
    exact hQ V1 hTl
  | succ n ih =>
    intro o l b V1 h0 h1 hTl hl hx
    unfold whoS tiS at hx
    have hfr := fst_rg Z.2.1 togB (-5) (l - 1 + 1).toNat 0 (folS Z.1 d o)
    have hZ1 := hTl.ca hZ
    obtain ⟨hF, es, e1, e2, hn, hb, hkv, hfo, hwa, hro, hH, hh, h0, eh, hw, hk, hwz⟩ := hZ1.fl
    have hr := hZ1.1.2.1
    refine S_il4 qX6_whom_22 ?_
    refine S_al0 qX6_whom_24 ?_
    refine S_getR qX6_whom_25 fX6_17 e0_0 ?_
    refine S_getI qX6_whom_28 fX6_72 (F_0 F8) ?_
    refine S_icmp_ge (d := qX6_whom_31) (kt := fun c31 => ?_) (kf := fun c31 => ?_)
    · omega
    refine S_al0 qX6_whom_34 ?_
    refine S_getR qX6_whom_35 fX6_23 e0_1 ?_
    refine S_al0 qX6_whom_38 ?_
    refine S_getR qX6_whom_39 fX6_17 e0_0 ?_
    refine S_V1V hD qX6_whom_42 lX6_158 vX2_become (F_r F15) (c_become F15 (by decide) hF) (kk := fun V42 h42 => ?_)
    obtain ⟨hG, hM42, -⟩ := h42
    have hTl := hTl.tr (Tl.of hM42 (by omega))
    have hg6 := hG.n6
    refine S_al0 qX6_whom_45 ?_
    refine S_getR qX6_whom_46 fX6_23 e0_1 ?_
    refine S_il1 qX6_whom_49 ?_
    refine S_il4 qX6_whom_50 ?_
    refine S_V2V hD qX6_whom_52 lX6_108 vX2_follow (F_r F15) (c_followF hG (by omega) (by omega)) (kk := fun V52 h52 => ?_)
    obtain ⟨hG, hM52, -⟩ := h52
    have hTl := hTl.tr (Tl.of hM52 (by omega))
    have hg6 := hG.n6
    have hb2 : (folS Z.1 d o).2.1 = Z.1.2.1 := rfl
    have hn2 : (folS Z.1 d o).1 = Z.1.1 := rfl
    refine S_al0 qX6_whom_55 ?_
    refine S_getR qX6_whom_56 fX6_23 e0_1 ?_
    refine S_il3 qX6_whom_59 ?_
    refine S_iconst qX6_whom_60 ?_
    refine S_isub qX6_whom_61 ?_
    refine S_bipush (d := qX6_whom_62) (k := ?_)
    refine S_V2I hD qX6_whom_64 lX6_173 vX2_beatsTillTogether (F_r F15) (c_till hG (by omega) (by omega) (by omega)) (kk := fun z64 V64 h64 => ?_)
    obtain ⟨rfl, hM64⟩ := h64
    have hTl := hTl.tr (Tl.of hM64 (by omega))
    refine S_is5 qX6_whom_67 (K := ?_)
    refine S_il5 qX6_whom_69 ?_
    refine S_bipush (d := qX6_whom_71) (k := ?_)
    refine S_icmp_eq (d := qX6_whom_73) (kt := fun c73 => ?_) (kf := fun c73 => ?_)
    · refine S_inc4 qX6_whom_82 (K := ?_)
      refine S_goto qX6_whom_85 ?_
      first
        | (rw [if_pos c73] at hx
           exact SW.forget 5 (ih (o + 1) _ _ _ (by omega) (by omega) hTl (by omega) hx))
        | (rw [if_neg c73] at hx
           exact SW.forget 5 (ih (o + 1) _ _ _ (by omega) (by omega) hTl (by omega) hx))
    · refine S_il5 qX6_whom_76 ?_
      refine S_is3 qX6_whom_78 (K := ?_)
      refine S_il4 qX6_whom_79 ?_
      refine S_is2 qX6_whom_81 (K := ?_)
      refine S_inc4 qX6_whom_82 (K := ?_)
      refine S_goto qX6_whom_85 ?_
      first
        | (rw [if_pos c73] at hx
           exact SW.forget 5 (ih (o + 1) _ _ _ (by omega) (by omega) hTl (by omega) hx))
        | (rw [if_neg c73] at hx
           exact SW.forget 5 (ih (o + 1) _ _ _ (by omega) (by omega) hTl (by omega) hx))
theorem c_whom {g : GC} {V : MM} {Z : ZT} {d : Int} (hZ : CA V Z) (rd : -2147483648 ≤ d ∧ d ≤ 2147483647) : Ct g mX6_whom 8 [vr 0, vi d] V (RZ V (oWhom Z d) Z) := by
  refine Ct.of (ls := [some (vr 0), some (vi d), none, none, none, none]) (plainFor_of_name (by decide +kernel)) rfl (by exact Nat.le_of_ble_eq_true rfl) (fun X hz hD => ?_)
  obtain ⟨hF, es, e1, e2, hn, hb, hkv, hfo, hwa, hro, hH, hh, h0, eh, hw, hk, hwz⟩ := hZ.fl
  have hTl := Tl.rf V
  have hr := hZ.1.2.1
  refine S_al0 qX6_whom_0 ?_
  refine S_getR qX6_whom_1 fX6_17 e0_0 ?_
  refine S_il1 qX6_whom_4 ?_
  refine S_V1B hD qX6_whom_5 lX6_80 vX2_has (F_r F8) (c_has F8 (by omega) (by omega)) (kt := fun j5 => ?_) (kf := fun j5 => ?_)
  · refine S_if_ne (d := qX6_whom_8) (kt := fun _ => ?_) (kf := fun c => absurd c (by decide))
    refine S_bipush (d := qX6_whom_13) (k := ?_)
    refine S_is2 qX6_whom_15 (K := ?_)
    refine S_bipush (d := qX6_whom_16) (k := ?_)
    refine S_is3 qX6_whom_18 (K := ?_)
    refine S_iconst qX6_whom_19 ?_
    refine S_is4 qX6_whom_20 (K := ?_)
    refine whom_loop hZ (by omega) hz hD (fun V' h => RZ.tl hZ h ?_) Z.1.1.toNat 0 _ _ _ (by omega) (by omega) hTl (by omega) rfl
    unfold oWhom
    rw [if_neg (by omega)]
  · refine S_if_ne (d := qX6_whom_8) (kt := fun c => absurd c (by decide)) (kf := fun _ => ?_)
    refine S_iconst qX6_whom_11 ?_
    refine S_iret hz qX6_whom_12 ?_
    refine RZ.tl hZ hTl ?_
    unfold oWhom
    rw [if_pos (by omega)]

theorem alo2_loop {g : GC} {X : CX} {Q : Option AV → MM → Prop} {V : MM} {Z : ZT} {d m w : Int} {xf : Int × Int} (hZ : CA V Z) (rd : 0 ≤ d ∧ d < Z.1.1) (rm : 1 ≤ m ∧ m ≤ 30) (hz : Fi g X (some .int) Q) (hD : Dp X 8) (hQ : ∀ V', Tl V V' → Q (some (vi (if w = 0 then xf.1 else xf.2))) V') (rw_ : -2147483648 ≤ w ∧ w ≤ 2147483647) : ∀ (n : Nat) (o l b : Int) (V1 : MM), 0 ≤ o → o + n = Z.1.1 → Tl V V1 → (-1 ≤ l ∧ l ≤ 30) → aloS Z.2.1 Z.1 d m n o l b = xf → SW g X RX6 cX6_alone 45 [some (vr 0), some (vi d), some (vi m), some (vi w), some (vi b), some (vi l), some (vi o), none] [] V1 := by
  intro n
  induction n with
  | zero =>
    intro o l b V1 h0 h1 hTl hl hx
    unfold aloS at hx
    subst hx
    have hZ1 := hTl.ca hZ
    obtain ⟨hF, es, e1, e2, hn, hb, hkv, hfo, hwa, hro, hH, hh, h0, eh, hw, hk, hwz⟩ := hZ1.fl
    have hr := hZ1.1.2.1
    refine S_il6 qX6_alone_45 ?_
    refine S_al0 qX6_alone_47 ?_
    refine S_getR qX6_alone_48 fX6_17 e0_0 ?_
    refine S_getI qX6_alone_51 fX6_72 (F_0 F8) ?_
    refine S_icmp_ge (d := qX6_alone_54) (kt := fun c54 => ?_) (kf := fun c54 => ?_)
    rotate_left
    · omega
    refine S_il3 qX6_alone_110 ?_
    refine S_if_ne (d := qX6_alone_111) (kt := fun c111 => ?_) (kf := fun c111 => ?_)
    · refine S_il5 qX6_alone_119 ?_
      refine S_iret hz qX6_alone_121 ?_
      have h5 := hQ V1 hTl
      first | (rw [if_pos c111] at h5; exact h5) | (rw [if_neg c111] at h5; exact h5)
    · refine S_il4 qX6_alone_114 ?_
      refine S_goto qX6_alone_116 ?_
      refine S_iret hz qX6_alone_121 ?_
      have h5 := hQ V1 hTl
      first | (rw [if_pos c111] at h5; exact h5) | (rw [if_neg c111] at h5; exact h5)
  | succ n ih =>
    intro o l b V1 h0 h1 hTl hl hx
    unfold aloS at hx
    have hfr := aln_rg Z.2.1 d m.toNat (folS Z.1 d o) 0
    have hZ1 := hTl.ca hZ
    obtain ⟨hF, es, e1, e2, hn, hb, hkv, hfo, hwa, hro, hH, hh, h0, eh, hw, hk, hwz⟩ := hZ1.fl
    have hr := hZ1.1.2.1
    refine S_il6 qX6_alone_45 ?_
    refine S_al0 qX6_alone_47 ?_
    refine S_getR qX6_alone_48 fX6_17 e0_0 ?_
    refine S_getI qX6_alone_51 fX6_72 (F_0 F8) ?_
    refine S_icmp_ge (d := qX6_alone_54) (kt := fun c54 => ?_) (kf := fun c54 => ?_)
    · omega
    refine S_al0 qX6_alone_57 ?_
    refine S_getR qX6_alone_58 fX6_23 e0_1 ?_
    refine S_al0 qX6_alone_61 ?_
    refine S_getR qX6_alone_62 fX6_17 e0_0 ?_
    refine S_V1V hD qX6_alone_65 lX6_158 vX2_become (F_r F15) (c_become F15 (by decide) hF) (kk := fun V65 h65 => ?_)
    obtain ⟨hG, hM65, -⟩ := h65
    have hTl := hTl.tr (Tl.of hM65 (by omega))
    have hg6 := hG.n6
    refine S_al0 qX6_alone_68 ?_
    refine S_getR qX6_alone_69 fX6_23 e0_1 ?_
    refine S_il1 qX6_alone_72 ?_
    refine S_il6 qX6_alone_73 ?_
    refine S_V2V hD qX6_alone_75 lX6_108 vX2_follow (F_r F15) (c_followF hG (by omega) (by omega)) (kk := fun V75 h75 => ?_)
    obtain ⟨hG, hM75, -⟩ := h75
    have hTl := hTl.tr (Tl.of hM75 (by omega))
    have hg6 := hG.n6
    have hb2 : (folS Z.1 d o).2.1 = Z.1.2.1 := rfl
    have hn2 : (folS Z.1 d o).1 = Z.1.1 := rfl
    refine S_al0 qX6_alone_78 ?_
    refine S_getR qX6_alone_79 fX6_23 e0_1 ?_
    refine S_il1 qX6_alone_82 ?_
    refine S_il2 qX6_alone_83 ?_
    refine S_V2I hD qX6_alone_84 lX6_188 vX2_beatsAlone (F_r F15) (c_beatsAlone hG (by omega) (by omega) (by omega)) (kk := fun z84 V84 h84 => ?_)
    obtain ⟨rfl, hM84⟩ := h84
    have hTl := hTl.tr (Tl.of hM84 (by omega))
    refine S_is7 qX6_alone_87 (K := ?_)
    refine S_il7 qX6_alone_89 ?_
    refine S_il5 qX6_alone_91 ?_
    refine S_icmp_le (d := qX6_alone_93) (kt := fun c93 => ?_) (kf := fun c93 => ?_)
    · refine S_inc6 qX6_alone_104 (K := ?_)
      refine S_goto qX6_alone_107 ?_
      first
        | (rw [if_pos (by omega)] at hx
           exact SW.forget 7 (ih (o + 1) _ _ _ (by omega) (by omega) hTl (by omega) hx))
        | (rw [if_neg (by omega)] at hx
           exact SW.forget 7 (ih (o + 1) _ _ _ (by omega) (by omega) hTl (by omega) hx))
    · refine S_il7 qX6_alone_96 ?_
      refine S_is5 qX6_alone_98 (K := ?_)
      refine S_il6 qX6_alone_100 ?_
      refine S_is4 qX6_alone_102 (K := ?_)
      refine S_inc6 qX6_alone_104 (K := ?_)
      refine S_goto qX6_alone_107 ?_
      first
        | (rw [if_pos (by omega)] at hx
           exact SW.forget 7 (ih (o + 1) _ _ _ (by omega) (by omega) hTl (by omega) hx))
        | (rw [if_neg (by omega)] at hx
           exact SW.forget 7 (ih (o + 1) _ _ _ (by omega) (by omega) hTl (by omega) hx))
theorem c_alone {g : GC} {V : MM} {Z : ZT} {d m w : Int} (hZ : CA V Z) (rd : -2147483648 ≤ d ∧ d ≤ 2147483647) (rm : -2147483648 ≤ m ∧ m ≤ 2147483647) (rw_ : -2147483648 ≤ w ∧ w ≤ 2147483647) : Ct g mX6_alone 8 [vr 0, vi d, vi m, vi w] V (RZ V (oAlone Z d m w) Z) := by
  refine Ct.of (ls := [some (vr 0), some (vi d), some (vi m), some (vi w), none, none, none, none]) (plainFor_of_name (by decide +kernel)) rfl (by exact Nat.le_of_ble_eq_true rfl) (fun X hz hD => ?_)
  obtain ⟨hF, es, e1, e2, hn, hb, hkv, hfo, hwa, hro, hH, hh, h0, eh, hw, hk, hwz⟩ := hZ.fl
  have hTl := Tl.rf V
  have hr := hZ.1.2.1
  refine S_al0 qX6_alone_0 ?_
  refine S_getR qX6_alone_1 fX6_17 e0_0 ?_
  refine S_il1 qX6_alone_4 ?_
  refine S_V1B hD qX6_alone_5 lX6_80 vX2_has (F_r F8) (c_has F8 (by omega) (by omega)) (kt := fun j5 => ?_) (kf := fun j5 => ?_)
  · refine S_if_eq (d := qX6_alone_8) (kt := fun c => absurd c (by decide)) (kf := fun _ => ?_)
    refine S_il3 qX6_alone_11 ?_
    refine S_if_lt (d := qX6_alone_12) (kt := fun c12 => ?_) (kf := fun c12 => ?_)
    · refine S_iconst qX6_alone_20 ?_
      refine S_iret hz qX6_alone_21 ?_
      refine RZ.tl hZ hTl ?_
      unfold oAlone
      first | (rw [if_pos (by omega)]; done) | (rw [if_neg (by omega), if_pos (by omega)]; done)
    · refine S_il3 qX6_alone_15 ?_
      refine S_iconst qX6_alone_16 ?_
      refine S_icmp_le (d := qX6_alone_17) (kt := fun c17 => ?_) (kf := fun c17 => ?_)
      · refine S_il2 qX6_alone_22 ?_
        refine S_iconst qX6_alone_23 ?_
        refine S_icmp_lt (d := qX6_alone_24) (kt := fun c24 => ?_) (kf := fun c24 => ?_)
        · refine S_bipush (d := qX6_alone_33) (k := ?_)
          refine S_iret hz qX6_alone_35 ?_
          refine RZ.tl hZ hTl ?_
          unfold oAlone
          first | (rw [if_pos (by omega)]; done) | (rw [if_neg (by omega), if_pos (by omega)]; done)
        · refine S_il2 qX6_alone_27 ?_
          refine S_bipush (d := qX6_alone_28) (k := ?_)
          refine S_icmp_le (d := qX6_alone_30) (kt := fun c30 => ?_) (kf := fun c30 => ?_)
          · refine S_iconst qX6_alone_36 ?_
            refine S_is4 qX6_alone_37 (K := ?_)
            refine S_iconst qX6_alone_39 ?_
            refine S_is5 qX6_alone_40 (K := ?_)
            refine S_iconst qX6_alone_42 ?_
            refine S_is6 qX6_alone_43 (K := ?_)
            refine alo2_loop hZ (by omega) (by omega) hz hD (fun V' h => RZ.tl hZ h ?_) rw_ Z.1.1.toNat 0 _ _ _ (by omega) (by omega) hTl (by omega) rfl
            symm
            unfold oAlone
            rw [if_neg (by omega), if_neg (by omega)]
          · refine S_bipush (d := qX6_alone_33) (k := ?_)
            refine S_iret hz qX6_alone_35 ?_
            refine RZ.tl hZ hTl ?_
            unfold oAlone
            first | (rw [if_pos (by omega)]; done) | (rw [if_neg (by omega), if_pos (by omega)]; done)
      · refine S_iconst qX6_alone_20 ?_
        refine S_iret hz qX6_alone_21 ?_
        refine RZ.tl hZ hTl ?_
        unfold oAlone
        first | (rw [if_pos (by omega)]; done) | (rw [if_neg (by omega), if_pos (by omega)]; done)
  · refine S_if_eq (d := qX6_alone_8) (kt := fun _ => ?_) (kf := fun c => absurd c (by decide))
    refine S_iconst qX6_alone_20 ?_
    refine S_iret hz qX6_alone_21 ?_
    refine RZ.tl hZ hTl ?_
    unfold oAlone
    first | (rw [if_pos (by omega)]; done) | (rw [if_neg (by omega), if_pos (by omega)]; done)

theorem stop_loop {g : GC} {X : CX} {Q : Option AV → MM → Prop} {V : MM} {Z : ZT} {u : Int} {xf : Int} (hZ : CA V Z) (hz : Fi g X (some .int) Q) (hD : Dp X 8) (hQ : ∀ V', Tl V V' → Q (some (vi xf)) V') : ∀ (n : Nat) (k l b : Int) (V1 : MM), 0 ≤ k → k + n = 11 → Tl V V1 → (0 ≤ l ∧ l ≤ 61) → stpS Z.2.1 Z.1 n k l b = xf → SW g X RX6 cX6_stop 42 [some (vr 0), some (vi u), some (vi l), some (vi b), some (vi k), none] [] V1 := by
  intro n
  induction n with
  | zero =>
    intro k l b V1 h0 h1 hTl hl hx
    unfold stpS at hx
    subst hx
    have hZ1 := hTl.ca hZ
    obtain ⟨hF, es, e1, e2, hn, hb, hkv, hfo, hwa, hro, hH, hh, h0, eh, hw, hk, hwz⟩ := hZ1.fl
    have hr := hZ1.1.2.1
    refine S_il4 qX6_stop_42 ?_
    refine S_bipush (d := qX6_stop_44) (k := ?_)
    refine S_icmp_gt (d := qX6_stop_46) (kt := fun c46 => ?_) (kf := fun c46 => ?_)
    rotate_left
    · omega
    refine S_il3 qX6_stop_93 ?_
    refine S_iret hz qX6_stop_94 ?_
    exact hQ V1 hTl
  | succ n ih =>
    intro k l b V1 h0 h1 hTl hl hx
    unfold stpS tiS at hx
    have hfr := fst_rg Z.2.1 togB k (l - 1 + 1).toNat 0 Z.1
    have hZ1 := hTl.ca hZ
    obtain ⟨hF, es, e1, e2, hn, hb, hkv, hfo, hwa, hro, hH, hh, h0, eh, hw, hk, hwz⟩ := hZ1.fl
    have hr := hZ1.1.2.1
    refine S_il4 qX6_stop_42 ?_
    refine S_bipush (d := qX6_stop_44) (k := ?_)
    refine S_icmp_gt (d := qX6_stop_46) (kt := fun c46 => ?_) (kf := fun c46 => ?_)
    · omega
    refine S_al0 qX6_stop_49 ?_
    refine S_getR qX6_stop_50 fX6_23 e0_1 ?_
    refine S_al0 qX6_stop_53 ?_
    refine S_getR qX6_stop_54 fX6_17 e0_0 ?_
    refine S_V1V hD qX6_stop_57 lX6_158 vX2_become (F_r F15) (c_become F15 (by decide) hF) (kk := fun V57 h57 => ?_)
    obtain ⟨hG, hM57, -⟩ := h57
    have hTl := hTl.tr (Tl.of hM57 (by omega))
    have hg6 := hG.n6
    refine S_al0 qX6_stop_60 ?_
    refine S_getR qX6_stop_61 fX6_23 e0_1 ?_
    refine S_il2 qX6_stop_64 ?_
    refine S_iconst qX6_stop_65 ?_
    refine S_isub qX6_stop_66 ?_
    refine S_il4 qX6_stop_67 ?_
    refine S_V2I hD qX6_stop_69 lX6_173 vX2_beatsTillTogether (F_r F15) (c_till hG (by omega) (by omega) (by omega)) (kk := fun z69 V69 h69 => ?_)
    obtain ⟨rfl, hM69⟩ := h69
    have hTl := hTl.tr (Tl.of hM69 (by omega))
    refine S_is5 qX6_stop_72 (K := ?_)
    refine S_il5 qX6_stop_74 ?_
    refine S_bipush (d := qX6_stop_76) (k := ?_)
    refine S_icmp_eq (d := qX6_stop_78) (kt := fun c78 => ?_) (kf := fun c78 => ?_)
    · refine S_inc4 qX6_stop_87 (K := ?_)
      refine S_goto qX6_stop_90 ?_
      first
        | (rw [if_pos c78] at hx
           exact SW.forget 5 (ih (k + 1) _ _ _ (by omega) (by omega) hTl (by omega) hx))
        | (rw [if_neg c78] at hx
           exact SW.forget 5 (ih (k + 1) _ _ _ (by omega) (by omega) hTl (by omega) hx))
    · refine S_il5 qX6_stop_81 ?_
      refine S_is2 qX6_stop_83 (K := ?_)
      refine S_il4 qX6_stop_84 ?_
      refine S_is3 qX6_stop_86 (K := ?_)
      refine S_inc4 qX6_stop_87 (K := ?_)
      refine S_goto qX6_stop_90 ?_
      first
        | (rw [if_pos c78] at hx
           exact SW.forget 5 (ih (k + 1) _ _ _ (by omega) (by omega) hTl (by omega) hx))
        | (rw [if_neg c78] at hx
           exact SW.forget 5 (ih (k + 1) _ _ _ (by omega) (by omega) hTl (by omega) hx))
theorem c_stop {g : GC} {V : MM} {Z : ZT} (hZ : CA V Z) : Ct g mX6_stop 8 [vr 0] V (RZ V (oStop Z) Z) := by
  refine Ct.of (ls := [some (vr 0), none, none, none, none, none]) (plainFor_of_name (by decide +kernel)) rfl (by exact Nat.le_of_ble_eq_true rfl) (fun X hz hD => ?_)
  obtain ⟨hF, es, e1, e2, hn, hb, hkv, hfo, hwa, hro, hH, hh, h0, eh, hw, hk, hwz⟩ := hZ.fl
  have hTl := Tl.rf V
  have hr := hZ.1.2.1
  have hfr := fst_rg Z.2.1 togB (-5) (60 + 1 : Int).toNat 0 Z.1
  refine S_al0 qX6_stop_0 ?_
  refine S_getR qX6_stop_1 fX6_23 e0_1 ?_
  refine S_al0 qX6_stop_4 ?_
  refine S_getR qX6_stop_5 fX6_17 e0_0 ?_
  refine S_V1V hD qX6_stop_8 lX6_158 vX2_become (F_r F15) (c_become F15 (by decide) hF) (kk := fun V8 h8 => ?_)
  obtain ⟨hG, hM8, -⟩ := h8
  have hTl := hTl.tr (Tl.of hM8 (by omega))
  have hg6 := hG.n6
  refine S_al0 qX6_stop_11 ?_
  refine S_getR qX6_stop_12 fX6_23 e0_1 ?_
  refine S_bipush (d := qX6_stop_15) (k := ?_)
  refine S_bipush (d := qX6_stop_17) (k := ?_)
  refine S_V2I hD qX6_stop_19 lX6_173 vX2_beatsTillTogether (F_r F15) (c_till hG (by omega) (by omega) (by omega)) (kk := fun z19 V19 h19 => ?_)
  obtain ⟨rfl, hM19⟩ := h19
  have hTl := hTl.tr (Tl.of hM19 (by omega))
  refine S_is1 qX6_stop_22 (K := ?_)
  refine S_il1 qX6_stop_23 ?_
  refine S_bipush (d := qX6_stop_24) (k := ?_)
  refine S_icmp_ne (d := qX6_stop_26) (kt := fun c26 => ?_) (kf := fun c26 => ?_)
  · refine S_il1 qX6_stop_34 ?_
    refine S_is2 qX6_stop_35 (K := ?_)
    refine S_bipush (d := qX6_stop_36) (k := ?_)
    refine S_is3 qX6_stop_38 (K := ?_)
    refine S_iconst qX6_stop_39 ?_
    refine S_is4 qX6_stop_40 (K := ?_)
    refine stop_loop hZ hz hD (fun V' h => RZ.tl hZ h ?_) 11 0 _ _ _ (by omega) (by omega) hTl (by omega) rfl
    unfold oStop tiS
    first | rw [if_pos (by omega)] | rw [if_neg (by omega)]
  · refine S_bipush (d := qX6_stop_29) (k := ?_)
    refine S_goto qX6_stop_31 ?_
    refine S_is2 qX6_stop_35 (K := ?_)
    refine S_bipush (d := qX6_stop_36) (k := ?_)
    refine S_is3 qX6_stop_38 (K := ?_)
    refine S_iconst qX6_stop_39 ?_
    refine S_is4 qX6_stop_40 (K := ?_)
    refine stop_loop hZ hz hD (fun V' h => RZ.tl hZ h ?_) 11 0 _ _ _ (by omega) (by omega) hTl (by omega) rfl
    unfold oStop tiS
    first | rw [if_pos (by omega)] | rw [if_neg (by omega)]

theorem beg_loop {g : GC} {X : CX} {Q : Option AV → MM → Prop} {V : MM} {Z : ZT} {d m w : Int} {xf : Int × Int} (hZ : CA V Z) (rd : 0 ≤ d ∧ d < Z.1.1) (rm : 0 ≤ m ∧ m ≤ 12) (hz : Fi g X (some .int) Q) (hD : Dp X 8) (hQ : ∀ V', Tl V V' → Q (some (vi (if w = 0 then xf.1 else xf.2))) V') (rw_ : -2147483648 ≤ w ∧ w ≤ 2147483647) : ∀ (n : Nat) (p c l : Int) (V1 : MM), 0 ≤ p → p + n = Z.2.1.1 → Tl V V1 → (-5 ≤ l ∧ l ≤ 99) → begS Z.2.1 Z.1 d m n p c l = xf → SW g X RX6 cX6_begins 45 [some (vr 0), some (vi d), some (vi m), some (vi w), some (vi c), some (vi l), some (vi p)] [] V1 := by
  intro n
  induction n with
  | zero =>
    intro p c l V1 h0 h1 hTl hl hx
    unfold begS at hx
    subst hx
    have hZ1 := hTl.ca hZ
    obtain ⟨hF, es, e1, e2, hn, hb, hkv, hfo, hwa, hro, hH, hh, h0, eh, hw, hk, hwz⟩ := hZ1.fl
    have hr := hZ1.1.2.1
    have ew : Z.2.1.1 = V1 (V1 8 2).toNat 0 := by rw [eh]
    refine S_il6 qX6_begins_45 ?_
    refine S_al0 qX6_begins_47 ?_
    refine S_getR qX6_begins_48 fX6_17 e0_0 ?_
    refine S_getH qX6_begins_51 fX6_92 (F_2 F8) ?_
    refine S_getI qX6_begins_54 fX6_141 (H_0 hh) ?_
    refine S_icmp_ge (d := qX6_begins_57) (kt := fun c57 => ?_) (kf := fun c57 => ?_)
    rotate_left
    · omega
    refine S_il3 qX6_begins_116 ?_
    refine S_if_ne (d := qX6_begins_117) (kt := fun c117 => ?_) (kf := fun c117 => ?_)
    · refine S_il5 qX6_begins_125 ?_
      refine S_iret hz qX6_begins_127 ?_
      have h5 := hQ V1 hTl
      first | (rw [if_pos c117] at h5; exact h5) | (rw [if_neg c117] at h5; exact h5)
    · refine S_il4 qX6_begins_120 ?_
      refine S_goto qX6_begins_122 ?_
      refine S_iret hz qX6_begins_127 ?_
      have h5 := hQ V1 hTl
      first | (rw [if_pos c117] at h5; exact h5) | (rw [if_neg c117] at h5; exact h5)
  | succ n ih =>
    intro p c l V1 h0 h1 hTl hl hx
    unfold begS tiS at hx
    have hfr := fst_rg Z.2.1 togB (-5) (m + 1).toNat 0 (layF Z.1 d p)
    have hZ1 := hTl.ca hZ
    obtain ⟨hF, es, e1, e2, hn, hb, hkv, hfo, hwa, hro, hH, hh, h0, eh, hw, hk, hwz⟩ := hZ1.fl
    have hr := hZ1.1.2.1
    have ew : Z.2.1.1 = V1 (V1 8 2).toNat 0 := by rw [eh]
    refine S_il6 qX6_begins_45 ?_
    refine S_al0 qX6_begins_47 ?_
    refine S_getR qX6_begins_48 fX6_17 e0_0 ?_
    refine S_getH qX6_begins_51 fX6_92 (F_2 F8) ?_
    refine S_getI qX6_begins_54 fX6_141 (H_0 hh) ?_
    refine S_icmp_ge (d := qX6_begins_57) (kt := fun c57 => ?_) (kf := fun c57 => ?_)
    · omega
    refine S_al0 qX6_begins_60 ?_
    refine S_getR qX6_begins_61 fX6_23 e0_1 ?_
    refine S_al0 qX6_begins_64 ?_
    refine S_getR qX6_begins_65 fX6_17 e0_0 ?_
    refine S_V1V hD qX6_begins_68 lX6_158 vX2_become (F_r F15) (c_become F15 (by decide) hF) (kk := fun V68 h68 => ?_)
    obtain ⟨hG, hM68, -⟩ := h68
    have hTl := hTl.tr (Tl.of hM68 (by omega))
    have hg6 := hG.n6
    refine S_al0 qX6_begins_71 ?_
    refine S_getR qX6_begins_72 fX6_23 e0_1 ?_
    refine S_il1 qX6_begins_75 ?_
    refine S_il6 qX6_begins_76 ?_
    refine S_V2V hD qX6_begins_78 lX6_112 vX2_standAt (F_r F15) (c_standF hG (by omega) (by omega)) (kk := fun V78 h78 => ?_)
    obtain ⟨hG, hM78, -⟩ := h78
    have hTl := hTl.tr (Tl.of hM78 (by omega))
    have hg6 := hG.n6
    have hb2 : (layF Z.1 d p).2.1 = Z.1.2.1 := rfl
    have hn2 : (layF Z.1 d p).1 = Z.1.1 := rfl
    refine S_al0 qX6_begins_81 ?_
    refine S_getR qX6_begins_82 fX6_23 e0_1 ?_
    refine S_il2 qX6_begins_85 ?_
    refine S_bipush (d := qX6_begins_86) (k := ?_)
    refine S_V2I hD qX6_begins_88 lX6_173 vX2_beatsTillTogether (F_r F15) (c_till hG (by omega) (by omega) (by omega)) (kk := fun z88 V88 h88 => ?_)
    obtain ⟨rfl, hM88⟩ := h88
    have hTl := hTl.tr (Tl.of hM88 (by omega))
    refine S_bipush (d := qX6_begins_91) (k := ?_)
    refine S_icmp_eq (d := qX6_begins_93) (kt := fun c93 => ?_) (kf := fun c93 => ?_)
    · refine S_inc6 qX6_begins_110 (K := ?_)
      refine S_goto qX6_begins_113 ?_
      first
        | (rw [if_pos c93] at hx
           exact ih (p + 1) _ _ _ (by omega) (by omega) hTl (by omega) hx)
        | (rw [if_neg c93, if_pos (by omega)] at hx
           exact ih (p + 1) _ _ _ (by omega) (by omega) hTl (by omega) hx)
        | (rw [if_neg c93, if_neg (by omega)] at hx
           exact ih (p + 1) _ _ _ (by omega) (by omega) hTl (by omega) hx)
    · refine S_inc4 qX6_begins_96 (K := ?_)
      refine S_il5 qX6_begins_99 ?_
      refine S_bipush (d := qX6_begins_101) (k := ?_)
      refine S_icmp_ne (d := qX6_begins_103) (kt := fun c103 => ?_) (kf := fun c103 => ?_)
      · refine S_inc6 qX6_begins_110 (K := ?_)
        refine S_goto qX6_begins_113 ?_
        first
          | (rw [if_pos c93] at hx
             exact ih (p + 1) _ _ _ (by omega) (by omega) hTl (by omega) hx)
          | (rw [if_neg c93, if_pos (by omega)] at hx
             exact ih (p + 1) _ _ _ (by omega) (by omega) hTl (by omega) hx)
          | (rw [if_neg c93, if_neg (by omega)] at hx
             exact ih (p + 1) _ _ _ (by omega) (by omega) hTl (by omega) hx)
      · refine S_il6 qX6_begins_106 ?_
        refine S_is5 qX6_begins_108 (K := ?_)
        refine S_inc6 qX6_begins_110 (K := ?_)
        refine S_goto qX6_begins_113 ?_
        first
          | (rw [if_pos c93] at hx
             exact ih (p + 1) _ _ _ (by omega) (by omega) hTl (by omega) hx)
          | (rw [if_neg c93, if_pos (by omega)] at hx
             exact ih (p + 1) _ _ _ (by omega) (by omega) hTl (by omega) hx)
          | (rw [if_neg c93, if_neg (by omega)] at hx
             exact ih (p + 1) _ _ _ (by omega) (by omega) hTl (by omega) hx)
theorem c_begins {g : GC} {V : MM} {Z : ZT} {d m w : Int} (hZ : CA V Z) (rd : -2147483648 ≤ d ∧ d ≤ 2147483647) (rm : -2147483648 ≤ m ∧ m ≤ 2147483647) (rw_ : -2147483648 ≤ w ∧ w ≤ 2147483647) : Ct g mX6_begins 8 [vr 0, vi d, vi m, vi w] V (RZ V (oBegins Z d m w) Z) := by
  refine Ct.of (ls := [some (vr 0), some (vi d), some (vi m), some (vi w), none, none, none]) (plainFor_of_name (by decide +kernel)) rfl (by exact Nat.le_of_ble_eq_true rfl) (fun X hz hD => ?_)
  obtain ⟨hF, es, e1, e2, hn, hb, hkv, hfo, hwa, hro, hH, hh, h0, eh, hw, hk, hwz⟩ := hZ.fl
  have hTl := Tl.rf V
  have hr := hZ.1.2.1
  refine S_al0 qX6_begins_0 ?_
  refine S_getR qX6_begins_1 fX6_17 e0_0 ?_
  refine S_il1 qX6_begins_4 ?_
  refine S_V1B hD qX6_begins_5 lX6_80 vX2_has (F_r F8) (c_has F8 (by omega) (by omega)) (kt := fun j5 => ?_) (kf := fun j5 => ?_)
  · refine S_if_eq (d := qX6_begins_8) (kt := fun c => absurd c (by decide)) (kf := fun _ => ?_)
    refine S_il3 qX6_begins_11 ?_
    refine S_if_lt (d := qX6_begins_12) (kt := fun c12 => ?_) (kf := fun c12 => ?_)
    · refine S_iconst qX6_begins_20 ?_
      refine S_iret hz qX6_begins_21 ?_
      refine RZ.tl hZ hTl ?_
      unfold oBegins
      first | (rw [if_pos (by omega)]; done) | (rw [if_neg (by omega), if_pos (by omega)]; done)
    · refine S_il3 qX6_begins_15 ?_
      refine S_iconst qX6_begins_16 ?_
      refine S_icmp_le (d := qX6_begins_17) (kt := fun c17 => ?_) (kf := fun c17 => ?_)
      · refine S_il2 qX6_begins_22 ?_
        refine S_if_lt (d := qX6_begins_23) (kt := fun c23 => ?_) (kf := fun c23 => ?_)
        · refine S_bipush (d := qX6_begins_32) (k := ?_)
          refine S_iret hz qX6_begins_34 ?_
          refine RZ.tl hZ hTl ?_
          unfold oBegins
          first | (rw [if_pos (by omega)]; done) | (rw [if_neg (by omega), if_pos (by omega)]; done)
        · refine S_il2 qX6_begins_26 ?_
          refine S_bipush (d := qX6_begins_27) (k := ?_)
          refine S_icmp_le (d := qX6_begins_29) (kt := fun c29 => ?_) (kf := fun c29 => ?_)
          · refine S_iconst qX6_begins_35 ?_
            refine S_is4 qX6_begins_36 (K := ?_)
            refine S_bipush (d := qX6_begins_38) (k := ?_)
            refine S_is5 qX6_begins_40 (K := ?_)
            refine S_iconst qX6_begins_42 ?_
            refine S_is6 qX6_begins_43 (K := ?_)
            refine beg_loop hZ (by omega) (by omega) hz hD (fun V' h => RZ.tl hZ h ?_) rw_ Z.2.1.1.toNat 0 _ _ _ (by omega) (by omega) hTl (by omega) rfl
            symm
            unfold oBegins
            rw [if_neg (by omega), if_neg (by omega)]
          · refine S_bipush (d := qX6_begins_32) (k := ?_)
            refine S_iret hz qX6_begins_34 ?_
            refine RZ.tl hZ hTl ?_
            unfold oBegins
            first | (rw [if_pos (by omega)]; done) | (rw [if_neg (by omega), if_pos (by omega)]; done)
      · refine S_iconst qX6_begins_20 ?_
        refine S_iret hz qX6_begins_21 ?_
        refine RZ.tl hZ hTl ?_
        unfold oBegins
        first | (rw [if_pos (by omega)]; done) | (rw [if_neg (by omega), if_pos (by omega)]; done)
  · refine S_if_eq (d := qX6_begins_8) (kt := fun _ => ?_) (kf := fun c => absurd c (by decide))
    refine S_iconst qX6_begins_20 ?_
    refine S_iret hz qX6_begins_21 ?_
    refine RZ.tl hZ hTl ?_
    unfold oBegins
    first | (rw [if_pos (by omega)]; done) | (rw [if_neg (by omega), if_pos (by omega)]; done)
