def croS (hs : HS) : Nat → FS → (Int → Int) → Int → Int
  | 0, _, r => r
  | n + 1, s, r => croS hs n (goS hs false s) (cntS (goS hs false s).2.2.2.2.2.1 s.1.toNat 0 r)
def mxS (r : Int → Int) : Nat → Int → Int → Int
  | 0, _, m => m
  | n + 1, p, m => mxS r n (p + 1) (if r m < r p then p else m)
def oCrowd (Z : ZT) (n : Int) : Int := if n < 0 ∨ 40 < n then -2 else if Z.1.1 = 0 then -5 else mxS (croS Z.2.1 n.toNat Z.1 (cntS Z.1.2.2.2.2.2.1 Z.1.1.toNat 0 (fun _ => 0))) 98 1 0
theorem cnt_rg (wa : Int → Int) : ∀ (n : Nat) (d B : Int) (r : Int → Int), (∀ i, 0 ≤ r i ∧ r i ≤ B) → ∀ i, 0 ≤ cntS wa n d r i ∧ cntS wa n d r i ≤ B + n := by
  intro n
  induction n with
  | zero => intro d B r h i; have := h i; unfold cntS; omega
  | succ n ih =>
    intro d B r h i
    unfold cntS
    have := ih (d + 1) (B + 1) (ur r (wa (8 * d)) (r (wa (8 * d)) + 1)) (fun j => by
      have h1 := h j
      have h2 := h (wa (8 * d))
      unfold ur
      split <;> omega) i
    omega
def orS (x : Int) (o : Int) : Int := (Int32.ofInt x ||| Int32.ofInt (Int32.ofInt 1 <<< (Int32.ofInt o &&& 31)).toInt).toInt
def canS (hs : HS) (s : FS) (N : SN) (d : Int) : Nat → Int → Int → Int
  | 0, _, x => x
  | n + 1, o, x => canS hs s N d n (o + 1) (if seeS hs N 13 0 (folS s d o) = true then orS x o else x)
def oCan (Z : ZT) (d : Int) : Int := if d < 0 ∨ Z.1.1 ≤ d then -1 else canS Z.2.1 Z.1 Z.2.2.2.2.1 d Z.1.1.toNat 0 0
def oddS (hs : HS) (s : FS) (m : Int) : Nat → Int → Int → Int
  | 0, _, c => c
  | n + 1, d, c => oddS hs s m n (d + 1) (if tiS hs (folS s d d) (-5) m = -5 then c else c + 1)
def NOl : Int := -9223372036854775808
def oOdds (Z : ZT) (m part : Int) : Int := if m < 0 ∨ 30 < m ∨ Z.1.1 = 0 then NOl else frS (oddS Z.2.1 Z.1 m Z.1.1.toNat 0 0) Z.1.1 part
def mi1 (hs : HS) (s : FS) (a : Int) : Nat → Int → Int × Int → Int × Int
  | 0, _, x => x
  | n + 1, b, x => mi1 hs s a n (b + 1) (x.1 + apaS hs s a b, x.2 + 1)
def mi2 (hs : HS) (s : FS) : Nat → Int → Int × Int → Int × Int
  | 0, _, x => x
  | n + 1, a, x => mi2 hs s n (a + 1) (mi1 hs s a (s.1 - (a + 1)).toNat (a + 1) x)
def oMean (Z : ZT) (m part : Int) : Int := if m < 0 ∨ 60 < m ∨ Z.1.1 < 2 then NOl else frS (mi2 Z.2.1 (goN Z.2.1 m.toNat Z.1) Z.1.1.toNat 0 (0, 0)).1 (mi2 Z.2.1 (goN Z.2.1 m.toNat Z.1) Z.1.1.toNat 0 (0, 0)).2 part
def oDanced (Z : ZT) (w : Int) : Int := if ¬ (w = 0 ∨ 10 ≤ w ∧ w - 10 < Z.1.1) then -1 else plaS (danS Z.2.1 Z.2.2.2.2.1.2.2.2.2.2.1 Z.2.2.2.2.1.2.2.2.2.1.toNat 0 Z.1) w

/-- the memory with the counted places r -/
theorem tl3 {V V1 : MM} (h : Tl V V1) (r : Int → Int) : Tl V (upR V1 3 r) := fun k a b => (upR_n _ a).trans (h k a b)
theorem fl3 {V : MM} {hs : HS} {s : FS} (h : FlC V 15 hs s) (r : Int → Int) : FlC (upR V 3 r) 15 hs s := h.cong (fun k a b => upR_n _ (by omega)) (fun k a b => upR_n _ (by omega))
theorem zero3 {V : MM} : ∀ k i, inR k i → upR V 3 (lz (V 3) 0 0 99) k i = upR V 3 (fun _ => 0) k i := by
  intro k i h
  by_cases e : k = 3
  · subst e
    have h2 := inR_a a3 h
    rw [upR_s, upR_s]
    unfold lz
    rw [if_pos (by omega)]
  · rw [upR_n _ e, upR_n _ e]

theorem mx_loop {g : GC} {X : CX} {Q : Option AV → MM → Prop} {V : MM} {Z : ZT} {m xf : Int} {r : Int → Int} {V1 : MM} (hz : Fi g X (some .int) Q) (hD : Dp X 8) (hr : ∀ i, 0 ≤ r i ∧ r i ≤ 1000) (hV : V1 3 = r) (hQ : Q (some (vi xf)) V1) : ∀ (n : Nat) (p b : Int), 1 ≤ p → p + n = 99 → (0 ≤ b ∧ b < 99) → mxS r n p b = xf → SW g X RX6 cX6_crowd 92 [some (vr 0), some (vi m), some (vi b), some (vi p)] [] V1 := by
  subst hV
  intro n
  induction n with
  | zero =>
    intro p b h0 h1 hb hx
    unfold mxS at hx
    subst hx
    refine S_il3 qX6_crowd_92 ?_
    refine S_bipush (d := qX6_crowd_93) (k := ?_)
    refine S_icmp_ge (d := qX6_crowd_95) (kt := fun c95 => ?_) (kf := fun c95 => ?_)
    rotate_left
    · omega
    refine S_il2 qX6_crowd_121 ?_
    refine S_iret hz qX6_crowd_122 ?_
    exact hQ
  | succ n ih =>
    intro p b h0 h1 hb hx
    unfold mxS at hx
    have r1 := hr p
    have r2 := hr b
    refine S_il3 qX6_crowd_92 ?_
    refine S_bipush (d := qX6_crowd_93) (k := ?_)
    refine S_icmp_ge (d := qX6_crowd_95) (kt := fun c95 => ?_) (kf := fun c95 => ?_)
    · omega
    refine S_al0 qX6_crowd_98 ?_
    refine S_getR qX6_crowd_99 fX6_64 e0_11 ?_
    refine S_il3 qX6_crowd_102 ?_
    refine S_iald qX6_crowd_103 a3 (K := ?_)
    refine S_al0 qX6_crowd_104 ?_
    refine S_getR qX6_crowd_105 fX6_64 e0_11 ?_
    refine S_il2 qX6_crowd_108 ?_
    refine S_iald qX6_crowd_109 a3 (K := ?_)
    refine S_icmp_le (d := qX6_crowd_110) (kt := fun c110 => ?_) (kf := fun c110 => ?_)
    · refine S_inc3 qX6_crowd_115 (K := ?_)
      refine S_goto qX6_crowd_118 ?_
      first | (rw [if_pos (by omega)] at hx; exact ih (p + 1) _ (by omega) (by omega) (by omega) hx) | (rw [if_neg (by omega)] at hx; exact ih (p + 1) _ (by omega) (by omega) (by omega) hx)
    · refine S_il3 qX6_crowd_113 ?_
      refine S_is2 qX6_crowd_114 (K := ?_)
      refine S_inc3 qX6_crowd_115 (K := ?_)
      refine S_goto qX6_crowd_118 ?_
      first | (rw [if_pos (by omega)] at hx; exact ih (p + 1) _ (by omega) (by omega) (by omega) hx) | (rw [if_neg (by omega)] at hx; exact ih (p + 1) _ (by omega) (by omega) (by omega) hx)
theorem crowd_loop {g : GC} {X : CX} {Q : Option AV → MM → Prop} {V : MM} {Z : ZT} {m xf : Int} {rf : Int → Int} (hz : Fi g X (some .int) Q) (hD : Dp X 8) (rm : 0 ≤ m ∧ m ≤ 40) (hn : 0 ≤ Z.1.1 ∧ Z.1.1 ≤ 6) (hmx : mxS rf 98 1 0 = xf) (hQ : ∀ V', Tl V V' → Q (some (vi xf)) V') : ∀ (n : Nat) (i : Int) (r : Int → Int) (V1 : MM) (s1 : FS), 1 ≤ i → i + n = m + 1 → Tl V V1 → FlC V1 15 Z.2.1 s1 → s1.1 = Z.1.1 → V1 3 = r → (∀ j, 0 ≤ r j ∧ r j ≤ 6 * i) → croS Z.2.1 n s1 r = rf → s1.2.1 + n ≤ 20000 → SW g X RX6 cX6_crowd 58 [some (vr 0), some (vi m), some (vi i), none] [] V1 := by
  intro n
  induction n with
  | zero =>
    intro i r V1 s1 h0 h1 hTl hG hn1 hV hr hx hb
    unfold croS at hx
    subst hx
    refine S_il2 qX6_crowd_58 ?_
    refine S_il1 qX6_crowd_59 ?_
    refine S_icmp_gt (d := qX6_crowd_60) (kt := fun c60 => ?_) (kf := fun c60 => ?_)
    rotate_left
    · omega
    refine S_iconst qX6_crowd_88 ?_
    refine S_is2 qX6_crowd_89 (K := ?_)
    refine S_iconst qX6_crowd_90 ?_
    refine S_is3 qX6_crowd_91 (K := ?_)
    exact mx_loop (Z := Z) (V := V) hz hD (fun j => by have := hr j; omega) hV (hQ V1 hTl) 98 1 0 (by omega) (by omega) (by omega) hmx
  | succ n ih =>
    intro i r V1 s1 h0 h1 hTl hG hn1 hV hr hx hb
    unfold croS at hx
    have hg6 := hG.n6
    refine S_il2 qX6_crowd_58 ?_
    refine S_il1 qX6_crowd_59 ?_
    refine S_icmp_gt (d := qX6_crowd_60) (kt := fun c60 => ?_) (kf := fun c60 => ?_)
    · omega
    refine S_al0 qX6_crowd_63 ?_
    refine S_getR qX6_crowd_64 fX6_23 e0_1 ?_
    refine S_iconst qX6_crowd_67 ?_
    refine S_V1V hD qX6_crowd_68 lX6_165 vX2_goBeat (F_r F15) (c_goBeat false hG (by omega)) (kk := fun V68 h68 => ?_)
    obtain ⟨hG, hM68, -⟩ := h68
    have hTl := hTl.tr (Tl.of hM68 (by omega))
    have hg6 := hG.n6
    have e3 : V68 3 = r := by rw [hM68 3 (by omega), hV]
    refine S_al0 qX6_crowd_71 ?_
    refine S_getR qX6_crowd_72 fX6_23 e0_1 ?_
    refine S_al0 qX6_crowd_75 ?_
    refine S_getR qX6_crowd_76 fX6_64 e0_11 ?_
    refine S_V1W hD qX6_crowd_79 lX6_197 vX2_countStanding (F_r F15) (c_countStanding hG) (K := ?_)
    refine S_inc2 qX6_crowd_82 (K := ?_)
    refine S_goto qX6_crowd_85 ?_
    refine SW.forget 3 (ih (i + 1) _ _ _ (by omega) (by omega) (tl3 hTl _) (fl3 hG _) hn1 (by rw [upR_s]) (fun j => ?_) ?_ (by show s1.2.1 + 1 + (n : Int) ≤ 20000; omega))
    · have h5 := cnt_rg (goS Z.2.1 false s1).2.2.2.2.2.1 (goS Z.2.1 false s1).1.toNat 0 (6 * i) r hr j
      have h6 : (goS Z.2.1 false s1).1 = s1.1 := rfl
      rw [e3]
      omega
    · rw [e3]
      exact hx
theorem c_crowd {g : GC} {V : MM} {Z : ZT} {n : Int} (hZ : CA V Z) (rn : -2147483648 ≤ n ∧ n ≤ 2147483647) : Ct g mX6_crowd 8 [vr 0, vi n] V (RZ V (oCrowd Z n) Z) := by
  refine Ct.of (ls := [some (vr 0), some (vi n), none, none]) (plainFor_of_name (by decide +kernel)) rfl (by exact Nat.le_of_ble_eq_true rfl) (fun X hz hD => ?_)
  obtain ⟨hF, es, e1, e2, hn, hb, hkv, hfo, hwa, hro, hH, hh, h0, eh, hw, hk, hwz⟩ := hZ.fl
  have hTl := Tl.rf V
  have hr := hZ.1.2.1
  refine S_il1 qX6_crowd_0 ?_
  refine S_if_lt (d := qX6_crowd_1) (kt := fun c1 => ?_) (kf := fun c1 => ?_)
  · refine S_bipush (d := qX6_crowd_10) (k := ?_)
    refine S_iret hz qX6_crowd_12 ?_
    refine RZ.tl hZ hTl ?_
    unfold oCrowd
    first | (rw [if_pos (by omega)]; done) | (rw [if_neg (by omega), if_pos (by omega)]; done)
  · refine S_il1 qX6_crowd_4 ?_
    refine S_bipush (d := qX6_crowd_5) (k := ?_)
    refine S_icmp_le (d := qX6_crowd_7) (kt := fun c7 => ?_) (kf := fun c7 => ?_)
    · refine S_al0 qX6_crowd_13 ?_
      refine S_getR qX6_crowd_14 fX6_17 e0_0 ?_
      refine S_getI qX6_crowd_17 fX6_72 (F_0 F8) ?_
      refine S_if_ne (d := qX6_crowd_20) (kt := fun c20 => ?_) (kf := fun c20 => ?_)
      · refine S_al0 qX6_crowd_26 ?_
        refine S_getR qX6_crowd_27 fX6_64 e0_11 ?_
        refine S_iconst qX6_crowd_30 ?_
        refine S_S2W hD qX6_crowd_31 lX6_191 sJ7_fill_53178 (c_fillI a3 (by omega)) (K := ?_)
        refine SW.castR ?_ zero3
        have hTl := tl3 hTl (fun _ => 0)
        have hF := (hTl.ca hZ).fl.1
        refine S_al0 qX6_crowd_34 ?_
        refine S_getR qX6_crowd_35 fX6_23 e0_1 ?_
        refine S_al0 qX6_crowd_38 ?_
        refine S_getR qX6_crowd_39 fX6_17 e0_0 ?_
        refine S_V1V hD qX6_crowd_42 lX6_158 vX2_become (F_r F15) (c_become F15 (by decide) hF) (kk := fun V42 h42 => ?_)
        obtain ⟨hG, hM42, -⟩ := h42
        have hTl := hTl.tr (Tl.of hM42 (by omega))
        have hg6 := hG.n6
        have e3 : V42 3 = fun _ => 0 := by rw [hM42 3 (by omega), upR_s]
        refine S_al0 qX6_crowd_45 ?_
        refine S_getR qX6_crowd_46 fX6_23 e0_1 ?_
        refine S_al0 qX6_crowd_49 ?_
        refine S_getR qX6_crowd_50 fX6_64 e0_11 ?_
        refine S_V1W hD qX6_crowd_53 lX6_197 vX2_countStanding (F_r F15) (c_countStanding hG) (K := ?_)
        refine S_iconst qX6_crowd_56 ?_
        refine S_is2 qX6_crowd_57 (K := ?_)
        refine crowd_loop (Z := Z) hz hD (by omega) (by omega) ?_ (fun V' h => RZ.tl hZ h rfl) n.toNat 1 _ _ _ (by omega) (by omega) (tl3 hTl _) (fl3 hG _) rfl (by rw [upR_s]) (fun j => ?_) rfl (by omega)
        · rw [e3]
          symm
          unfold oCrowd
          rw [if_neg (by omega), if_neg (by omega)]
        · rw [e3]
          have h5 := cnt_rg Z.1.2.2.2.2.2.1 Z.1.1.toNat 0 0 (fun _ => 0) (fun _ => ⟨Int.le_refl _, Int.le_refl _⟩) j
          omega
      · refine S_bipush (d := qX6_crowd_23) (k := ?_)
        refine S_iret hz qX6_crowd_25 ?_
        refine RZ.tl hZ hTl ?_
        unfold oCrowd
        first | (rw [if_pos (by omega)]; done) | (rw [if_neg (by omega), if_pos (by omega)]; done)
    · refine S_bipush (d := qX6_crowd_10) (k := ?_)
      refine S_iret hz qX6_crowd_12 ?_
      refine RZ.tl hZ hTl ?_
      unfold oCrowd
      first | (rw [if_pos (by omega)]; done) | (rw [if_neg (by omega), if_pos (by omega)]; done)

theorem can_loop {g : GC} {X : CX} {Q : Option AV → MM → Prop} {V : MM} {Z : ZT} {xf d : Int} (hZ : CA V Z) (rd : 0 ≤ d ∧ d < Z.1.1) (hz : Fi g X (some .int) Q) (hD : Dp X 8) (hQ : ∀ V', Tl V V' → Q (some (vi xf)) V') : ∀ (n : Nat) (o x : Int) (V1 : MM), 0 ≤ o → o + n = Z.1.1 → Tl V V1 → canS Z.2.1 Z.1 Z.2.2.2.2.1 d n o x = xf → SW g X RX6 cX6_can 17 [some (vr 0), some (vi d), some (vi x), some (vi o)] [] V1 := by
  intro n
  induction n with
  | zero =>
    intro o x V1 h0 h1 hTl hx
    unfold canS at hx
    subst hx
    have hZ1 := hTl.ca hZ
    obtain ⟨hF, es, e1, e2, hn, hb, hkv, hfo, hwa, hro, hH, hh, h0, eh, hw, hk, hwz⟩ := hZ1.fl
    have hr := hZ1.1.2.1
    refine S_il3 qX6_can_17 ?_
    refine S_al0 qX6_can_18 ?_
    refine S_getR qX6_can_19 fX6_17 e0_0 ?_
    refine S_getI qX6_can_22 fX6_72 (F_0 F8) ?_
    refine S_icmp_ge (d := qX6_can_25) (kt := fun c25 => ?_) (kf := fun c25 => ?_)
    rotate_left
    · omega
    refine S_il2 qX6_can_74 ?_
    refine S_iret hz qX6_can_75 ?_
    exact hQ V1 hTl
  | succ n ih =>
    intro o x V1 h0 h1 hTl hx
    unfold canS at hx
    have hZ1 := hTl.ca hZ
    obtain ⟨hF, es, e1, e2, hn, hb, hkv, hfo, hwa, hro, hH, hh, h0, eh, hw, hk, hwz⟩ := hZ1.fl
    have hr := hZ1.1.2.1
    have eN : snC V1 29 = Z.2.2.2.2.1 := (hTl.ca hZ).2.2.2.1.1
    have hNI : NInv Z.1.1 Z.2.2.2.2.1 := (hTl.ca hZ).2.2.2.1.2
    refine S_il3 qX6_can_17 ?_
    refine S_al0 qX6_can_18 ?_
    refine S_getR qX6_can_19 fX6_17 e0_0 ?_
    refine S_getI qX6_can_22 fX6_72 (F_0 F8) ?_
    refine S_icmp_ge (d := qX6_can_25) (kt := fun c25 => ?_) (kf := fun c25 => ?_)
    · omega
    refine S_al0 qX6_can_28 ?_
    refine S_getR qX6_can_29 fX6_23 e0_1 ?_
    refine S_al0 qX6_can_32 ?_
    refine S_getR qX6_can_33 fX6_17 e0_0 ?_
    refine S_V1V hD qX6_can_36 lX6_158 vX2_become (F_r F15) (c_become F15 (by decide) hF) (kk := fun V36 h36 => ?_)
    obtain ⟨hG, hM36, -⟩ := h36
    have hTl := hTl.tr (Tl.of hM36 (by omega))
    have hg6 := hG.n6
    refine S_al0 qX6_can_39 ?_
    refine S_getR qX6_can_40 fX6_23 e0_1 ?_
    refine S_il1 qX6_can_43 ?_
    refine S_il3 qX6_can_44 ?_
    refine S_V2V hD qX6_can_45 lX6_108 vX2_follow (F_r F15) (c_followF hG (by omega) (by omega)) (kk := fun V45 h45 => ?_)
    obtain ⟨hG, hM45, -⟩ := h45
    have hTl := hTl.tr (Tl.of hM45 (by omega))
    have hg6 := hG.n6
    have hb2 : (folS Z.1 d o).2.1 = Z.1.2.1 := rfl
    have hn2 : (folS Z.1 d o).1 = Z.1.1 := rfl
    refine S_al0 qX6_can_48 ?_
    refine S_getR qX6_can_49 fX6_32 e0_3 ?_
    refine S_al0 qX6_can_52 ?_
    refine S_getR qX6_can_53 fX6_23 e0_1 ?_
    refine S_V1I hD qX6_can_56 lX6_207 vX1_allSeenOn (B_r B29) (c_allSeenOn B29 hG (by rw [((hTl.ca hZ).2.2.2.1.1 : snC _ 29 = _)]; exact hNI) (by omega)) (kk := fun z56 V56 h56 => ?_)
    obtain ⟨hq56, hM56⟩ := h56
    rw [((hTl.ca hZ).2.2.2.1.1 : snC _ 29 = _)] at hq56
    have hTl := hTl.tr (Tl.of hM56 (by omega))
    rcases hq56 with ⟨rfl, hq56⟩ | ⟨rfl, hq56⟩
    · refine S_if_eq (d := qX6_can_59) (kt := fun c => absurd c (by decide)) (kf := fun _ => ?_)
      refine S_il2 qX6_can_62 ?_
      refine S_iconst qX6_can_63 ?_
      refine S_il3 qX6_can_64 ?_
      refine S_ishl qX6_can_65 ?_
      refine S_ior qX6_can_66 ?_
      refine S_is2 qX6_can_67 (K := ?_)
      refine S_inc3 qX6_can_68 (K := ?_)
      refine S_goto qX6_can_71 ?_
      first
        | (rw [if_pos hq56] at hx
           exact ih (o + 1) _ _ (by omega) (by omega) hTl hx)
        | (rw [if_neg hq56] at hx
           exact ih (o + 1) _ _ (by omega) (by omega) hTl hx)
    · refine S_if_eq (d := qX6_can_59) (kt := fun _ => ?_) (kf := fun c => absurd c (by decide))
      refine S_inc3 qX6_can_68 (K := ?_)
      refine S_goto qX6_can_71 ?_
      first
        | (rw [if_pos hq56] at hx
           exact ih (o + 1) _ _ (by omega) (by omega) hTl hx)
        | (rw [if_neg hq56] at hx
           exact ih (o + 1) _ _ (by omega) (by omega) hTl hx)
theorem c_can {g : GC} {V : MM} {Z : ZT} {d : Int} (hZ : CA V Z) (rd : -2147483648 ≤ d ∧ d ≤ 2147483647) : Ct g mX6_can 8 [vr 0, vi d] V (RZ V (oCan Z d) Z) := by
  refine Ct.of (ls := [some (vr 0), some (vi d), none, none]) (plainFor_of_name (by decide +kernel)) rfl (by exact Nat.le_of_ble_eq_true rfl) (fun X hz hD => ?_)
  obtain ⟨hF, es, e1, e2, hn, hb, hkv, hfo, hwa, hro, hH, hh, h0, eh, hw, hk, hwz⟩ := hZ.fl
  have hTl := Tl.rf V
  have hr := hZ.1.2.1
  refine S_al0 qX6_can_0 ?_
  refine S_getR qX6_can_1 fX6_17 e0_0 ?_
  refine S_il1 qX6_can_4 ?_
  refine S_V1B hD qX6_can_5 lX6_80 vX2_has (F_r F8) (c_has F8 (by omega) (by omega)) (kt := fun j5 => ?_) (kf := fun j5 => ?_)
  · refine S_if_ne (d := qX6_can_8) (kt := fun _ => ?_) (kf := fun c => absurd c (by decide))
    refine S_iconst qX6_can_13 ?_
    refine S_is2 qX6_can_14 (K := ?_)
    refine S_iconst qX6_can_15 ?_
    refine S_is3 qX6_can_16 (K := ?_)
    refine can_loop hZ (by omega) hz hD (fun V' h => RZ.tl hZ h ?_) Z.1.1.toNat 0 _ _ (by omega) (by omega) hTl rfl
    symm
    unfold oCan
    rw [if_neg (by omega)]
  · refine S_if_ne (d := qX6_can_8) (kt := fun c => absurd c (by decide)) (kf := fun _ => ?_)
    refine S_iconst qX6_can_11 ?_
    refine S_iret hz qX6_can_12 ?_
    refine RZ.tl hZ hTl ?_
    unfold oCan
    rw [if_pos (by omega)]

theorem odds_loop {g : GC} {X : CX} {Q : Option AV → MM → Prop} {V : MM} {Z : ZT} {xf m part : Int} (hZ : CA V Z) (rm : 0 ≤ m ∧ m ≤ 30) (rpart : -2147483648 ≤ part ∧ part ≤ 2147483647) (hz : Fi g X (some .long) Q) (hD : Dp X 8) (hQ : ∀ V', Tl V V' → Q (some (vl (frS xf Z.1.1 part))) V') : ∀ (n : Nat) (d c : Int) (V1 : MM), 0 ≤ d → d + n = Z.1.1 → Tl V V1 → (0 ≤ c ∧ c ≤ d) → oddS Z.2.1 Z.1 m n d c = xf → SW g X RX6 cX6_odds 29 [some (vr 0), some (vi m), some (vi part), some (vi c), some (vi d)] [] V1 := by
  intro n
  induction n with
  | zero =>
    intro d c V1 h0 h1 hTl hc hx
    unfold oddS at hx
    subst hx
    have hZ1 := hTl.ca hZ
    obtain ⟨hF, es, e1, e2, hn, hb, hkv, hfo, hwa, hro, hH, hh, h0, eh, hw, hk, hwz⟩ := hZ1.fl
    have hr := hZ1.1.2.1
    refine S_il4 qX6_odds_29 ?_
    refine S_al0 qX6_odds_31 ?_
    refine S_getR qX6_odds_32 fX6_17 e0_0 ?_
    refine S_getI qX6_odds_35 fX6_72 (F_0 F8) ?_
    refine S_icmp_ge (d := qX6_odds_38) (kt := fun c38 => ?_) (kf := fun c38 => ?_)
    rotate_left
    · omega
    refine S_il3 qX6_odds_87 ?_
    refine S_al0 qX6_odds_88 ?_
    refine S_getR qX6_odds_89 fX6_17 e0_0 ?_
    refine S_getI qX6_odds_92 fX6_72 (F_0 F8) ?_
    refine S_il2 qX6_odds_95 ?_
    refine S_S3EL hD qX6_odds_96 lX6_212 sX6_partOfFraction (c_fraction (by omega) (by omega) (by omega)) (K := ?_)
    refine S_lret hz qX6_odds_99 ?_
    have h5 := hQ V1 hTl
    rw [e1] at h5
    exact h5
  | succ n ih =>
    intro d c V1 h0 h1 hTl hc hx
    unfold oddS tiS at hx
    have hfr := fst_rg Z.2.1 togB (-5) (m + 1).toNat 0 (folS Z.1 d d)
    have hZ1 := hTl.ca hZ
    obtain ⟨hF, es, e1, e2, hn, hb, hkv, hfo, hwa, hro, hH, hh, h0, eh, hw, hk, hwz⟩ := hZ1.fl
    have hr := hZ1.1.2.1
    refine S_il4 qX6_odds_29 ?_
    refine S_al0 qX6_odds_31 ?_
    refine S_getR qX6_odds_32 fX6_17 e0_0 ?_
    refine S_getI qX6_odds_35 fX6_72 (F_0 F8) ?_
    refine S_icmp_ge (d := qX6_odds_38) (kt := fun c38 => ?_) (kf := fun c38 => ?_)
    · omega
    refine S_al0 qX6_odds_41 ?_
    refine S_getR qX6_odds_42 fX6_23 e0_1 ?_
    refine S_al0 qX6_odds_45 ?_
    refine S_getR qX6_odds_46 fX6_17 e0_0 ?_
    refine S_V1V hD qX6_odds_49 lX6_158 vX2_become (F_r F15) (c_become F15 (by decide) hF) (kk := fun V49 h49 => ?_)
    obtain ⟨hG, hM49, -⟩ := h49
    have hTl := hTl.tr (Tl.of hM49 (by omega))
    have hg6 := hG.n6
    refine S_al0 qX6_odds_52 ?_
    refine S_getR qX6_odds_53 fX6_23 e0_1 ?_
    refine S_il4 qX6_odds_56 ?_
    refine S_il4 qX6_odds_58 ?_
    refine S_V2V hD qX6_odds_60 lX6_108 vX2_follow (F_r F15) (c_followF hG (by omega) (by omega)) (kk := fun V60 h60 => ?_)
    obtain ⟨hG, hM60, -⟩ := h60
    have hTl := hTl.tr (Tl.of hM60 (by omega))
    have hg6 := hG.n6
    have hb2 : (folS Z.1 d d).2.1 = Z.1.2.1 := rfl
    have hn2 : (folS Z.1 d d).1 = Z.1.1 := rfl
    refine S_al0 qX6_odds_63 ?_
    refine S_getR qX6_odds_64 fX6_23 e0_1 ?_
    refine S_il1 qX6_odds_67 ?_
    refine S_bipush (d := qX6_odds_68) (k := ?_)
    refine S_V2I hD qX6_odds_70 lX6_173 vX2_beatsTillTogether (F_r F15) (c_till hG (by omega) (by omega) (by omega)) (kk := fun z70 V70 h70 => ?_)
    obtain ⟨rfl, hM70⟩ := h70
    have hTl := hTl.tr (Tl.of hM70 (by omega))
    refine S_bipush (d := qX6_odds_73) (k := ?_)
    refine S_icmp_eq (d := qX6_odds_75) (kt := fun c75 => ?_) (kf := fun c75 => ?_)
    · refine S_inc4 qX6_odds_81 (K := ?_)
      refine S_goto qX6_odds_84 ?_
      first
        | (rw [if_pos c75] at hx
           exact ih (d + 1) _ _ (by omega) (by omega) hTl (by omega) hx)
        | (rw [if_neg c75] at hx
           exact ih (d + 1) _ _ (by omega) (by omega) hTl (by omega) hx)
    · refine S_inc3 qX6_odds_78 (K := ?_)
      refine S_inc4 qX6_odds_81 (K := ?_)
      refine S_goto qX6_odds_84 ?_
      first
        | (rw [if_pos c75] at hx
           exact ih (d + 1) _ _ (by omega) (by omega) hTl (by omega) hx)
        | (rw [if_neg c75] at hx
           exact ih (d + 1) _ _ (by omega) (by omega) hTl (by omega) hx)
theorem c_odds {g : GC} {V : MM} {Z : ZT} {m part : Int} (hZ : CA V Z) (rm : -2147483648 ≤ m ∧ m ≤ 2147483647) (rpart : -2147483648 ≤ part ∧ part ≤ 2147483647) : Ct g mX6_odds 8 [vr 0, vi m, vi part] V (RZL V (oOdds Z m part) Z) := by
  refine Ct.of (ls := [some (vr 0), some (vi m), some (vi part), none, none]) (plainFor_of_name (by decide +kernel)) rfl (by exact Nat.le_of_ble_eq_true rfl) (fun X hz hD => ?_)
  obtain ⟨hF, es, e1, e2, hn, hb, hkv, hfo, hwa, hro, hH, hh, h0, eh, hw, hk, hwz⟩ := hZ.fl
  have hTl := Tl.rf V
  have hr := hZ.1.2.1
  refine S_il1 qX6_odds_0 ?_
  refine S_if_lt (d := qX6_odds_1) (kt := fun c1 => ?_) (kf := fun c1 => ?_)
  · refine S_ldc2 qX6_odds_20 kX6_210 ?_
    refine S_lret hz qX6_odds_23 ?_
    refine RZL.tl hZ hTl ?_
    unfold oOdds NOl
    rw [if_pos (by omega)]
  · refine S_il1 qX6_odds_4 ?_
    refine S_bipush (d := qX6_odds_5) (k := ?_)
    refine S_icmp_gt (d := qX6_odds_7) (kt := fun c7 => ?_) (kf := fun c7 => ?_)
    · refine S_ldc2 qX6_odds_20 kX6_210 ?_
      refine S_lret hz qX6_odds_23 ?_
      refine RZL.tl hZ hTl ?_
      unfold oOdds NOl
      rw [if_pos (by omega)]
    · refine S_al0 qX6_odds_10 ?_
      refine S_getR qX6_odds_11 fX6_17 e0_0 ?_
      refine S_getI qX6_odds_14 fX6_72 (F_0 F8) ?_
      refine S_if_ne (d := qX6_odds_17) (kt := fun c17 => ?_) (kf := fun c17 => ?_)
      · refine S_iconst qX6_odds_24 ?_
        refine S_is3 qX6_odds_25 (K := ?_)
        refine S_iconst qX6_odds_26 ?_
        refine S_is4 qX6_odds_27 (K := ?_)
        refine odds_loop hZ (by omega) (by omega) hz hD (fun V' h => RZL.tl hZ h ?_) Z.1.1.toNat 0 0 _ (by omega) (by omega) hTl (by omega) rfl
        symm
        unfold oOdds
        rw [if_neg (by omega)]
      · refine S_ldc2 qX6_odds_20 kX6_210 ?_
        refine S_lret hz qX6_odds_23 ?_
        refine RZL.tl hZ hTl ?_
        unfold oOdds NOl
        rw [if_pos (by omega)]

theorem mean_in {g : GC} {X : CX} {Q : Option AV → MM → Prop} {V : MM} {Z : ZT} {m part a : Int} {hs : HS} {s : FS} {V1 : MM} {xf : Int × Int} (hG : FlC V1 15 hs s) (ra : 0 ≤ a ∧ a < s.1) (hD : Dp X 8) (hk : SW g X RX6 cX6_mean 105 [some (vr 0), some (vi m), some (vi part), some (vi xf.1), some (vi xf.2), some (vi a), none] [] V1) : ∀ (n : Nat) (b x y : Int), a < b → b + n = s.1 → mi1 hs s a n b (x, y) = xf → SW g X RX6 cX6_mean 70 [some (vr 0), some (vi m), some (vi part), some (vi x), some (vi y), some (vi a), some (vi b)] [] V1 := by
  have hg6 := hG.n6
  intro n
  induction n with
  | zero =>
    intro b x y h0 h1 hx
    unfold mi1 at hx
    subst hx
    refine S_il6 qX6_mean_70 ?_
    refine S_al0 qX6_mean_72 ?_
    refine S_getR qX6_mean_73 fX6_23 e0_1 ?_
    refine S_getI qX6_mean_76 fX6_72 (F_0 F15) ?_
    refine S_icmp_ge (d := qX6_mean_79) (kt := fun c79 => ?_) (kf := fun c79 => ?_)
    rotate_left
    · omega
    exact SW.forget 6 hk
  | succ n ih =>
    intro b x y h0 h1 hx
    unfold mi1 at hx
    refine S_il6 qX6_mean_70 ?_
    refine S_al0 qX6_mean_72 ?_
    refine S_getR qX6_mean_73 fX6_23 e0_1 ?_
    refine S_getI qX6_mean_76 fX6_72 (F_0 F15) ?_
    refine S_icmp_ge (d := qX6_mean_79) (kt := fun c79 => ?_) (kf := fun c79 => ?_)
    · omega
    refine S_il3 qX6_mean_82 ?_
    refine S_al0 qX6_mean_83 ?_
    refine S_getR qX6_mean_84 fX6_23 e0_1 ?_
    refine S_il5 qX6_mean_87 ?_
    refine S_il6 qX6_mean_89 ?_
    refine S_V2E hD qX6_mean_91 lX6_180 vX2_apart (F_r F15) (c_apart hG (by omega) (by omega)) (K := ?_)
    refine S_iadd qX6_mean_94 ?_
    refine S_is3 qX6_mean_95 (K := ?_)
    refine S_inc4 qX6_mean_96 (K := ?_)
    refine S_inc6 qX6_mean_99 (K := ?_)
    refine S_goto qX6_mean_102 ?_
    exact ih (b + 1) _ _ (by omega) (by omega) hx
theorem mi1_rg {hs : HS} {s : FS} {a : Int} (hw : 1 ≤ hs.1 ∧ hs.1 ≤ 99) : ∀ (n : Nat) (b : Int) (x : Int × Int), 0 ≤ x.1 → 0 ≤ x.2 → (0 ≤ (mi1 hs s a n b x).1 ∧ (mi1 hs s a n b x).1 ≤ x.1 + 99 * n) ∧ (0 ≤ (mi1 hs s a n b x).2 ∧ (mi1 hs s a n b x).2 = x.2 + n) := by
  intro n
  induction n with
  | zero => intro b x h1 h2; unfold mi1; omega
  | succ n ih =>
    intro b x h1 h2
    have h3 := apa_rg s a b hw
    have h4 := ih (b + 1) (x.1 + apaS hs s a b, x.2 + 1) (by show 0 ≤ x.1 + apaS hs s a b; omega) (by show 0 ≤ x.2 + 1; omega)
    unfold mi1
    omega
theorem mean_out {g : GC} {X : CX} {Q : Option AV → MM → Prop} {V : MM} {Z : ZT} {m part : Int} {hs : HS} {s : FS} {V1 : MM} {xf : Int × Int} (rpart : -2147483648 ≤ part ∧ part ≤ 2147483647) (hG : FlC V1 15 hs s) (hz : Fi g X (some .long) Q) (hD : Dp X 8) (hQ : Q (some (vl (frS xf.1 xf.2 part))) V1) : ∀ (n : Nat) (a x y : Int), 0 ≤ a → a + n = s.1 → (0 ≤ x ∧ x ≤ 600 * a) → (0 ≤ y ∧ y ≤ 6 * a) → mi2 hs s n a (x, y) = xf → SW g X RX6 cX6_mean 52 [some (vr 0), some (vi m), some (vi part), some (vi x), some (vi y), some (vi a), none] [] V1 := by
  have hg6 := hG.n6
  intro n
  induction n with
  | zero =>
    intro a x y h0 h1 hx1 hy1 hx
    unfold mi2 at hx
    subst hx
    refine S_il5 qX6_mean_52 ?_
    refine S_al0 qX6_mean_54 ?_
    refine S_getR qX6_mean_55 fX6_23 e0_1 ?_
    refine S_getI qX6_mean_58 fX6_72 (F_0 F15) ?_
    refine S_icmp_ge (d := qX6_mean_61) (kt := fun c61 => ?_) (kf := fun c61 => ?_)
    rotate_left
    · omega
    refine S_il3 qX6_mean_111 ?_
    refine S_il4 qX6_mean_112 ?_
    refine S_il2 qX6_mean_114 ?_
    refine S_S3EL hD qX6_mean_115 lX6_212 sX6_partOfFraction (c_fraction (by omega) (by omega) (by omega)) (K := ?_)
    refine S_lret hz qX6_mean_118 ?_
    exact hQ
  | succ n ih =>
    intro a x y h0 h1 hx1 hy1 hx
    unfold mi2 at hx
    have h5 := mi1_rg (s := s) (a := a) hG.w99.1 (s.1 - (a + 1)).toNat (a + 1) (x, y) hx1.1 hy1.1
    replace h5 : (0 ≤ (mi1 hs s a (s.1 - (a + 1)).toNat (a + 1) (x, y)).1 ∧ (mi1 hs s a (s.1 - (a + 1)).toNat (a + 1) (x, y)).1 ≤ x + 99 * ((s.1 - (a + 1)).toNat : Int)) ∧ (0 ≤ (mi1 hs s a (s.1 - (a + 1)).toNat (a + 1) (x, y)).2 ∧ (mi1 hs s a (s.1 - (a + 1)).toNat (a + 1) (x, y)).2 = y + ((s.1 - (a + 1)).toNat : Int)) := h5
    generalize hq : mi1 hs s a (s.1 - (a + 1)).toNat (a + 1) (x, y) = q at hx h5
    refine S_il5 qX6_mean_52 ?_
    refine S_al0 qX6_mean_54 ?_
    refine S_getR qX6_mean_55 fX6_23 e0_1 ?_
    refine S_getI qX6_mean_58 fX6_72 (F_0 F15) ?_
    refine S_icmp_ge (d := qX6_mean_61) (kt := fun c61 => ?_) (kf := fun c61 => ?_)
    · omega
    refine S_il5 qX6_mean_64 ?_
    refine S_iconst qX6_mean_66 ?_
    refine S_iadd qX6_mean_67 ?_
    refine S_is6 qX6_mean_68 (K := ?_)
    refine mean_in (Z := Z) (V := V) (Q := Q) (xf := q) hG (by omega) hD ?_ (s.1 - (a + 1)).toNat (a + 1) x y (by omega) (by omega) hq
    refine S_inc5 qX6_mean_105 (K := ?_)
    refine S_goto qX6_mean_108 ?_
    exact ih (a + 1) q.1 q.2 (by omega) (by omega) (by omega) (by omega) hx
theorem c_mean {g : GC} {V : MM} {Z : ZT} {m part : Int} (hZ : CA V Z) (rm : -2147483648 ≤ m ∧ m ≤ 2147483647) (rpart : -2147483648 ≤ part ∧ part ≤ 2147483647) : Ct g mX6_mean 8 [vr 0, vi m, vi part] V (RZL V (oMean Z m part) Z) := by
  refine Ct.of (ls := [some (vr 0), some (vi m), some (vi part), none, none, none, none]) (plainFor_of_name (by decide +kernel)) rfl (by exact Nat.le_of_ble_eq_true rfl) (fun X hz hD => ?_)
  obtain ⟨hF, es, e1, e2, hn, hb, hkv, hfo, hwa, hro, hH, hh, h0, eh, hw, hk, hwz⟩ := hZ.fl
  have hTl := Tl.rf V
  have hr := hZ.1.2.1
  refine S_il1 qX6_mean_0 ?_
  refine S_if_lt (d := qX6_mean_1) (kt := fun c1 => ?_) (kf := fun c1 => ?_)
  · refine S_ldc2 qX6_mean_21 kX6_210 ?_
    refine S_lret hz qX6_mean_24 ?_
    refine RZL.tl hZ hTl ?_
    unfold oMean NOl
    rw [if_pos (by omega)]
  · refine S_il1 qX6_mean_4 ?_
    refine S_bipush (d := qX6_mean_5) (k := ?_)
    refine S_icmp_gt (d := qX6_mean_7) (kt := fun c7 => ?_) (kf := fun c7 => ?_)
    · refine S_ldc2 qX6_mean_21 kX6_210 ?_
      refine S_lret hz qX6_mean_24 ?_
      refine RZL.tl hZ hTl ?_
      unfold oMean NOl
      rw [if_pos (by omega)]
    · refine S_al0 qX6_mean_10 ?_
      refine S_getR qX6_mean_11 fX6_17 e0_0 ?_
      refine S_getI qX6_mean_14 fX6_72 (F_0 F8) ?_
      refine S_iconst qX6_mean_17 ?_
      refine S_icmp_ge (d := qX6_mean_18) (kt := fun c18 => ?_) (kf := fun c18 => ?_)
      · refine S_al0 qX6_mean_25 ?_
        refine S_getR qX6_mean_26 fX6_23 e0_1 ?_
        refine S_al0 qX6_mean_29 ?_
        refine S_getR qX6_mean_30 fX6_17 e0_0 ?_
        refine S_V1V hD qX6_mean_33 lX6_158 vX2_become (F_r F15) (c_become F15 (by decide) hF) (kk := fun V33 h33 => ?_)
        obtain ⟨hG, hM33, -⟩ := h33
        have hTl := hTl.tr (Tl.of hM33 (by omega))
        have hg6 := hG.n6
        refine S_al0 qX6_mean_36 ?_
        refine S_getR qX6_mean_37 fX6_23 e0_1 ?_
        refine S_il1 qX6_mean_40 ?_
        refine S_V1V hD qX6_mean_41 lX6_151 vX2_goBeats (F_r F15) (c_goBeats hG (by omega) (by omega)) (kk := fun V41 h41 => ?_)
        obtain ⟨hG, hM41, -⟩ := h41
        have hTl := hTl.tr (Tl.of hM41 (by omega))
        have hg6 := hG.n6
        have hgn := goN_n Z.2.1 m.toNat Z.1
        refine S_iconst qX6_mean_44 ?_
        refine S_is3 qX6_mean_45 (K := ?_)
        refine S_iconst qX6_mean_46 ?_
        refine S_is4 qX6_mean_47 (K := ?_)
        refine S_iconst qX6_mean_49 ?_
        refine S_is5 qX6_mean_50 (K := ?_)
        refine mean_out (Z := Z) (V := V) (xf := mi2 Z.2.1 (goN Z.2.1 m.toNat Z.1) Z.1.1.toNat 0 (0, 0)) (by omega) hG hz hD (RZL.tl hZ hTl ?_) Z.1.1.toNat 0 0 0 (by omega) (by omega) (by omega) (by omega) rfl
        symm
        unfold oMean
        rw [if_neg (by omega)]
      · refine S_ldc2 qX6_mean_21 kX6_210 ?_
        refine S_lret hz qX6_mean_24 ?_
        refine RZL.tl hZ hTl ?_
        unfold oMean NOl
        rw [if_pos (by omega)]

theorem danS_n (hs : HS) (row : Int → Int) : ∀ (n : Nat) (i : Int) (s : FS), (danS hs row n i s).1 = s.1 := by
  intro n
  induction n with
  | zero => intro i s; rfl
  | succ n ih =>
    intro i s
    unfold danS
    rw [ih]
    split <;> rfl

theorem c_danced {g : GC} {V : MM} {Z : ZT} {w : Int} (hZ : CA V Z) (rw : -2147483648 ≤ w ∧ w ≤ 2147483647) : Ct g mX6_danced 8 [vr 0, vi w] V (RZ V (oDanced Z w) Z) := by
  refine Ct.of (ls := [some (vr 0), some (vi w)]) (plainFor_of_name (by decide +kernel)) rfl (by exact Nat.le_of_ble_eq_true rfl) (fun X hz hD => ?_)
  obtain ⟨hF, es, e1, e2, hn, hb, hkv, hfo, hwa, hro, hH, hh, h0, eh, hw, hk, hwz⟩ := hZ.fl
  have hTl := Tl.rf V
  have hr := hZ.1.2.1
  refine S_al0 qX6_danced_0 ?_
  refine S_il1 qX6_danced_1 ?_
  refine S_V1B hD qX6_danced_2 lX6_155 vX6_asksForPlaces r0 (c_asks (by omega) (by omega)) (kt := fun j2 => ?_) (kf := fun j2 => ?_)
  · refine S_if_ne (d := qX6_danced_5) (kt := fun _ => ?_) (kf := fun c => absurd c (by decide))
    refine S_al0 qX6_danced_10 ?_
    refine S_getR qX6_danced_11 fX6_23 e0_1 ?_
    refine S_al0 qX6_danced_14 ?_
    refine S_getR qX6_danced_15 fX6_17 e0_0 ?_
    refine S_V1V hD qX6_danced_18 lX6_158 vX2_become (F_r F15) (c_become F15 (by decide) hF) (kk := fun V18 h18 => ?_)
    obtain ⟨hG, hM18, -⟩ := h18
    have hTl := hTl.tr (Tl.of hM18 (by omega))
    have hg6 := hG.n6
    refine S_al0 qX6_danced_21 ?_
    refine S_getR qX6_danced_22 fX6_32 e0_3 ?_
    refine S_al0 qX6_danced_25 ?_
    refine S_getR qX6_danced_26 fX6_23 e0_1 ?_
    refine S_V1V hD qX6_danced_29 lX6_222 vX1_danceOn (B_r B29) (c_danceOn B29 hG (by rw [((hTl.ca hZ).2.2.2.1.1 : snC _ 29 = _)]; exact (hTl.ca hZ).2.2.2.1.2) (by omega)) (kk := fun V29 h29 => ?_)
    have eN := (hTl.ca hZ).2.2.2.1.1
    obtain ⟨hG, hM29, -⟩ := h29
    have hTl := hTl.tr (Tl.of hM29 (by omega))
    have hg7 := hG.n6
    have hgn := danS_n Z.2.1 (V18 (29 + 4)) (V18 29 4).toNat 0 Z.1
    refine S_al0 qX6_danced_32 ?_
    refine S_il1 qX6_danced_33 ?_
    refine S_V1E hD qX6_danced_34 lX6_162 vX6_placesAsked r0 (c_placesAsked hG (by omega)) (K := ?_)
    refine S_iret hz qX6_danced_37 ?_
    refine RZ.tl hZ hTl ?_
    unfold oDanced
    first
      | (rw [if_pos (by omega)]; done)
      | (rw [if_neg (by omega), ← eN])
  · refine S_if_ne (d := qX6_danced_5) (kt := fun c => absurd c (by decide)) (kf := fun _ => ?_)
    refine S_iconst qX6_danced_8 ?_
    refine S_iret hz qX6_danced_9 ?_
    refine RZ.tl hZ hTl ?_
    unfold oDanced
    first
      | (rw [if_pos (by omega)]; done)
      | (rw [if_neg (by omega), ← eN])
