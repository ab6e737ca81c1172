theorem fst_cut (hs : HS) (P : FS → Bool) (sb : Int) : ∀ (n m : Nat) (k : Int) (s : FS), n ≤ m → 0 ≤ k → fstS hs P sb n k s = if fstS hs P sb m k s < k + n then fstS hs P sb m k s else -5 := by
  intro n
  induction n with
  | zero =>
    intro m k s h hk
    have := fst_rg hs P sb m k s
    show -5 = _
    split <;> omega
  | succ n ih =>
    intro m k s h hk
    match m, h with
    | m + 1, h =>
      unfold fstS
      by_cases c : P s = true
      · rw [if_pos c, if_pos c, if_pos (by omega)]
      · rw [if_neg c, if_neg c, ih m (k + 1) _ (by omega) (by omega)]
        have e : k + 1 + (n : Int) = k + ((n + 1 : Nat) : Int) := by omega
        rw [e]
theorem ti_cut (hs : HS) (s : FS) (sb : Int) {m : Int} (hm : -1 ≤ m ∧ m ≤ 60) : tiS hs s sb m = if tiS hs s sb 60 ≤ m then tiS hs s sb 60 else -5 := by
  have h := fst_cut hs togB sb (m + 1).toNat (60 + 1 : Int).toNat 0 s (by omega) (by omega)
  unfold tiS
  rw [h]
  have e : (0 : Int) + ((m + 1).toNat : Int) = m + 1 := by omega
  rw [e]
  by_cases c : fstS hs togB sb (60 + 1 : Int).toNat 0 s ≤ m
  · rw [if_pos (by omega), if_pos c]
  · rw [if_neg (by omega), if_neg c]
theorem fol_2 (s : FS) (d x o : Int) : folS (folS s d x) d o = folS s d o := by
  unfold folS
  simp only [ur_u]
theorem fol_id (s : FS) (d : Int) : folS s d (s.2.2.2.2.1 d) = s := by
  unfold folS
  simp only [ur_id]
theorem fol_tm (V : MM) (r : Int → Int) : Tm V (upR V 86 r) := ⟨fun k a b c d => upR_n _ b, fun j p q => by rw [upR_n _ (by omega)]⟩
theorem fol_inv {w : Int} {s : FS} {d o : Int} (h : FInv w s) (hd : 0 ≤ d ∧ d < s.1) (ho : 0 ≤ o ∧ o < s.1) : FInv w (folS s d o) := by
  obtain ⟨h1, h2, h3, h4, h5, h6⟩ := h
  refine ⟨h1, h2, h3, fun i hi => ?_, h5, h6⟩
  have := h4 i hi
  show 0 ≤ ur s.2.2.2.2.1 d o i ∧ ur s.2.2.2.2.1 d o i < s.1
  unfold ur
  split <;> omega
theorem fol_fm {V : MM} {hs : HS} {s : FS} {d o : Int} (M : FM V hs s) (hd : 0 ≤ d ∧ d < s.1) (ho : 0 ≤ o ∧ o < s.1) : FM (upR V 86 (ur (V 86) d o)) hs (folS s d o) := by
  refine M.mk2 (fol_tm V _) ?_ (fol_inv M.2.2.2 hd ho)
  have e := M.1
  show folS s d o = (upR V 86 (ur (V 86) d o) 83 0, upR V 86 (ur (V 86) d o) 83 1, upR V 86 (ur (V 86) d o) 84, upR V 86 (ur (V 86) d o) 85, upR V 86 (ur (V 86) d o) 86, upR V 86 (ur (V 86) d o) 88, upR V 86 (ur (V 86) d o) 87)
  rw [upR_s, upR_n _ (by omega), upR_n _ (by omega), upR_n _ (by omega), upR_n _ (by omega), upR_n _ (by omega), e]
  rfl
theorem fol_ft {V : MM} {hs : HS} {s : FS} {d o : Int} (M : FM V hs s) (hd : 0 ≤ d ∧ d < s.1) (ho : 0 ≤ o ∧ o < s.1) : FM (upR V 86 (ur (V 86) d o)) hs (folS s d o) ∧ Tm V (upR V 86 (ur (V 86) d o)) := ⟨fol_fm M hd ho, fol_tm _ _⟩

theorem mwh_loop {g : GC} {X : CX} {Q : Option AV → MM → Prop} {V : MM} {Z : ZT} {xf d bf : Int} (hZ : MA V Z) (rd : 0 ≤ d ∧ d < Z.1.1) (hbf : bf = Z.1.2.2.2.2.1 d) (hz : Fi g X (some .int) Q) (hD : Dp X 9) (hQ : ∀ V', Tm V V' → FM V' Z.2.1 Z.1 → Q (some (vi xf)) V') : ∀ (n : Nat) (o f l x : Int) (V1 : MM), 0 ≤ o → o + n = Z.1.1 → Tm V V1 → FM V1 Z.2.1 (folS Z.1 d x) → (-5 ≤ f ∧ f < 6 ∧ 0 ≤ l ∧ l ≤ 60) → whoS Z.2.1 Z.1 d n o (if f < 0 then 61 else l) f = xf → (f = -5 ∨ 0 ≤ f) → SW g X RX7 cX7_whom 26 [some (vr 83), some (vi d), some (vi bf), some (vi f), some (vi l), some (vi o), none] [] V1 := by
  obtain ⟨-, hI0, hn6, hbb, hwz, hkz⟩ := hZ.pf
  have hfo := hI0.2.2.2.1 d rd
  intro n
  induction n with
  | zero =>
    intro o f l x V1 h0 h1 hT M hl hx hf
    have hs1 : (folS Z.1 d x).1 = Z.1.1 := rfl
    unfold whoS at hx
    subst hx
    refine S_il5 qX7_whom_26 ?_
    refine S_al0 qX7_whom_28 ?_
    refine S_getI qX7_whom_29 fX7_7 e83_0 ?_
    rw [M.n]
    refine S_icmp_ge (d := qX7_whom_32) (kt := fun c32 => ?_) (kf := fun c32 => ?_)
    rotate_left
    · omega
    refine S_al0 qX7_whom_82 ?_
    refine S_getR qX7_whom_83 fX7_23 e83_4 ?_
    refine S_il1 qX7_whom_86 ?_
    refine S_il2 qX7_whom_87 ?_
    refine S_iast qX7_whom_88 a86 (K := ?_)
    have q86 := fol_ft (d := d) (o := bf) M (by show _ ∧ _ < Z.1.1; omega) (by show _ ∧ _ < Z.1.1; omega)
    have M := q86.1
    rw [fol_2, hbf, fol_id, ← hbf] at M
    have hT := hT.tr q86.2
    refine S_il3 qX7_whom_89 ?_
    refine S_iret hz qX7_whom_90 ?_
    exact hQ _ hT M
  | succ n ih =>
    intro o f l x V1 h0 h1 hT M hl hx hf
    have hs1 : (folS Z.1 d x).1 = Z.1.1 := rfl
    have hlr : 0 ≤ (if f < 0 then 61 else l) ∧ (if f < 0 then 61 else l) ≤ 61 := by split <;> omega
    have hcut := ti_cut Z.2.1 (folS Z.1 d o) (-5) (m := (if f < 0 then 61 else l) - 1) (by omega)
    have hneg := ti_neg Z.2.1 (folS Z.1 d o) (a := -1) (b := -5) (by omega) (by omega) 60
    have hrg := ti_rg Z.2.1 (folS Z.1 d o) (-1) (m := 60) (by omega)
    rw [← hneg] at hcut
    unfold whoS at hx
    rw [hcut] at hx
    refine S_il5 qX7_whom_26 ?_
    refine S_al0 qX7_whom_28 ?_
    refine S_getI qX7_whom_29 fX7_7 e83_0 ?_
    rw [M.n]
    refine S_icmp_ge (d := qX7_whom_32) (kt := fun c32 => ?_) (kf := fun c32 => ?_)
    · omega
    refine S_al0 qX7_whom_35 ?_
    refine S_getR qX7_whom_36 fX7_23 e83_4 ?_
    refine S_il1 qX7_whom_39 ?_
    refine S_il5 qX7_whom_40 ?_
    refine S_iast qX7_whom_42 a86 (K := ?_)
    have q86 := fol_ft (d := d) (o := o) M (by show _ ∧ _ < Z.1.1; omega) (by show _ ∧ _ < Z.1.1; omega)
    have M := q86.1
    rw [fol_2] at M
    have hT := hT.tr q86.2
    have hb2 : (folS Z.1 d o).2.1 = Z.1.2.1 := rfl
    refine S_al0 qX7_whom_43 ?_
    refine S_iconst qX7_whom_44 ?_
    refine S_V1I hD qX7_whom_45 lX7_318 vX7_togetherBy r83 (m_tby M (by omega) (by omega)) (kk := fun z45 V45 h45 => ?_)
    obtain ⟨rfl, M, hT45⟩ := h45
    have hT := hT.tr hT45
    refine S_is6 qX7_whom_48 (K := ?_)
    refine S_il6 qX7_whom_50 ?_
    refine S_if_lt (d := qX7_whom_52) (kt := fun c52 => ?_) (kf := fun c52 => ?_)
    · refine S_inc5 qX7_whom_76 (K := ?_)
      refine S_goto qX7_whom_79 ?_
      refine SW.forget 6 ?_
      first
        | (rw [if_neg (by split <;> omega)] at hx
           rw [if_pos (by split <;> omega)] at hx
           refine ih (o + 1) _ _ _ _ (by omega) (by omega) hT M (by omega) ?_ (by omega)
           rw [if_neg (by omega)]
           exact hx)
        | (rw [if_pos (by split <;> omega)] at hx
           exact ih (o + 1) _ _ _ _ (by omega) (by omega) hT M (by omega) hx hf)
    · refine S_il3 qX7_whom_55 ?_
      refine S_if_lt (d := qX7_whom_56) (kt := fun c56 => ?_) (kf := fun c56 => ?_)
      · refine S_il5 qX7_whom_69 ?_
        refine S_is3 qX7_whom_71 (K := ?_)
        refine S_il6 qX7_whom_72 ?_
        refine S_is4 qX7_whom_74 (K := ?_)
        refine S_inc5 qX7_whom_76 (K := ?_)
        refine S_goto qX7_whom_79 ?_
        refine SW.forget 6 ?_
        first
          | (rw [if_neg (by split <;> omega)] at hx
             rw [if_pos (by split <;> omega)] at hx
             refine ih (o + 1) _ _ _ _ (by omega) (by omega) hT M (by omega) ?_ (by omega)
             rw [if_neg (by omega)]
             exact hx)
          | (rw [if_pos (by split <;> omega)] at hx
             exact ih (o + 1) _ _ _ _ (by omega) (by omega) hT M (by omega) hx hf)
      · refine S_il6 qX7_whom_59 ?_
        refine S_il4 qX7_whom_61 ?_
        refine S_icmp_lt (d := qX7_whom_63) (kt := fun c63 => ?_) (kf := fun c63 => ?_)
        · refine S_il5 qX7_whom_69 ?_
          refine S_is3 qX7_whom_71 (K := ?_)
          refine S_il6 qX7_whom_72 ?_
          refine S_is4 qX7_whom_74 (K := ?_)
          refine S_inc5 qX7_whom_76 (K := ?_)
          refine S_goto qX7_whom_79 ?_
          refine SW.forget 6 ?_
          first
            | (rw [if_neg (by split <;> omega)] at hx
               rw [if_pos (by split <;> omega)] at hx
               refine ih (o + 1) _ _ _ _ (by omega) (by omega) hT M (by omega) ?_ (by omega)
               rw [if_neg (by omega)]
               exact hx)
            | (rw [if_pos (by split <;> omega)] at hx
               exact ih (o + 1) _ _ _ _ (by omega) (by omega) hT M (by omega) hx hf)
        · refine S_goto qX7_whom_66 ?_
          refine S_inc5 qX7_whom_76 (K := ?_)
          refine S_goto qX7_whom_79 ?_
          refine SW.forget 6 ?_
          first
            | (rw [if_neg (by split <;> omega)] at hx
               rw [if_pos (by split <;> omega)] at hx
               refine ih (o + 1) _ _ _ _ (by omega) (by omega) hT M (by omega) ?_ (by omega)
               rw [if_neg (by omega)]
               exact hx)
            | (rw [if_pos (by split <;> omega)] at hx
               exact ih (o + 1) _ _ _ _ (by omega) (by omega) hT M (by omega) hx hf)
theorem m_whom {g : GC} {V : MM} {Z : ZT} {d : Int} (hZ : MA V Z) (rd : -2147483648 ≤ d ∧ d ≤ 2147483647) : Ct g mX7_whom 9 [vr 83, vi d] V (RM V (oWhom Z d) Z) := by
  refine Ct.of (ls := [some (vr 83), some (vi d), none, none, none, none, none]) (plainFor_of_name (by decide +kernel)) rfl (by exact Nat.le_of_ble_eq_true rfl) (fun X hz hD => ?_)
  obtain ⟨M, hI0, hn6, hbb, hwz, hkz⟩ := hZ.pf
  have hT := Tm.rf V
  refine S_al0 qX7_whom_0 ?_
  refine S_il1 qX7_whom_1 ?_
  refine S_V1B hD qX7_whom_2 lX7_218 vX7_isDancer r83 (m_isDancer M (by omega)) (kt := fun j2 => ?_) (kf := fun j2 => ?_)
  · refine S_if_ne (d := qX7_whom_5) (kt := fun _ => ?_) (kf := fun c => absurd c (by decide))
    refine S_al0 qX7_whom_10 ?_
    refine S_getR qX7_whom_11 fX7_23 e83_4 ?_
    refine S_il1 qX7_whom_14 ?_
    refine S_iald qX7_whom_15 a86 (K := ?_)
    rw [M.w86]
    refine S_is2 qX7_whom_16 (K := ?_)
    refine S_bipush (d := qX7_whom_17) (k := ?_)
    refine S_is3 qX7_whom_19 (K := ?_)
    refine S_iconst qX7_whom_20 ?_
    refine S_is4 qX7_whom_21 (K := ?_)
    refine S_iconst qX7_whom_23 ?_
    refine S_is5 qX7_whom_24 (K := ?_)
    have M' : FM V Z.2.1 (folS Z.1 d (Z.1.2.2.2.2.1 d)) := by rw [fol_id]; exact M
    refine mwh_loop hZ (by omega) rfl hz hD (fun V' p q => RM.tm hZ p q ?_) Z.1.1.toNat 0 _ _ _ _ (by omega) (by omega) hT M' (by omega) rfl (by omega)
    symm
    unfold oWhom
    rw [if_neg (by omega)]
    rfl
  · refine S_if_ne (d := qX7_whom_5) (kt := fun c => absurd c (by decide)) (kf := fun _ => ?_)
    refine S_iconst qX7_whom_8 ?_
    refine S_iret hz qX7_whom_9 ?_
    refine RM.same hZ ?_
    unfold oWhom
    first | (rw [if_pos (by omega)]; done) | (rw [if_neg (by omega), if_pos (by omega)]; done) | (rw [if_neg (by omega), if_neg (by omega), if_pos (by omega)]; done)

theorem mal_in {g : GC} {X : CX} {Q : Option AV → MM → Prop} {V : MM} {Z : ZT} {d m w b l o xf : Int} (rm : 0 ≤ m ∧ m ≤ 30) (hD : Dp X 9) (rd : 0 ≤ d ∧ d < Z.1.1) (hk : ∀ (V2 : MM) (s2 : FS), Tm V V2 → FM V2 Z.2.1 s2 → KM V2 Z.1 → Sk Z.1 s2 → SW g X RX7 cX7_alone 104 [some (vr 83), some (vi d), some (vi m), some (vi w), some (vi b), some (vi l), some (vi o), some (vi xf), none] [] V2) : ∀ (n : Nat) (i c : Int) (V1 : MM) (s1 : FS), 0 ≤ i → i + n = m → Tm V V1 → FM V1 Z.2.1 s1 → KM V1 Z.1 → Sk Z.1 s1 → alnS Z.2.1 d n s1 c = xf → s1.2.1 + n ≤ 20000 → SW g X RX7 cX7_alone 70 [some (vr 83), some (vi d), some (vi m), some (vi w), some (vi b), some (vi l), some (vi o), some (vi c), some (vi i)] [] V1 := by
  intro n
  induction n with
  | zero =>
    intro i c V1 s1 h0 h1 hT M K S hx hb
    unfold alnS at hx
    subst hx
    refine S_il8 qX7_alone_70 ?_
    refine S_il2 qX7_alone_72 ?_
    refine S_icmp_ge (d := qX7_alone_73) (kt := fun c73 => ?_) (kf := fun c73 => ?_)
    rotate_left
    · omega
    exact SW.forget 8 (hk _ _ hT M K S)
  | succ n ih =>
    intro i c V1 s1 h0 h1 hT M K S hx hb
    have hS1 := S.1
    have hg : (goS Z.2.1 false s1).1 = s1.1 := rfl
    unfold alnS at hx
    refine S_il8 qX7_alone_70 ?_
    refine S_il2 qX7_alone_72 ?_
    refine S_icmp_ge (d := qX7_alone_73) (kt := fun c73 => ?_) (kf := fun c73 => ?_)
    · omega
    refine S_al0 qX7_alone_76 ?_
    refine S_V0V hD qX7_alone_77 lX7_306 vX7_go r83 (m_go M (by omega)) (kk := fun V77 h77 => ?_)
    obtain ⟨M, hT77, hK77⟩ := h77
    have hT := hT.tr hT77
    have K := K.ke hK77
    refine S_il7 qX7_alone_80 ?_
    refine S_al0 qX7_alone_82 ?_
    refine S_il1 qX7_alone_83 ?_
    refine S_V1B hD qX7_alone_84 lX7_327 vX7_isAlone r83 (m_isAlone M (by omega)) (kt := fun j84 => ?_) (kf := fun j84 => ?_)
    · refine S_if_eq (d := qX7_alone_87) (kt := fun c => absurd c (by decide)) (kf := fun _ => ?_)
      refine S_iconst qX7_alone_90 ?_
      refine S_goto qX7_alone_91 ?_
      refine S_iadd qX7_alone_95 ?_
      refine S_is7 qX7_alone_96 (K := ?_)
      refine S_inc8 qX7_alone_98 (K := ?_)
      refine S_goto qX7_alone_101 ?_
      first | (rw [if_pos j84] at hx; exact ih (i + 1) _ _ _ (by omega) (by omega) hT M K (S.go Z.2.1 false) hx (by show s1.2.1 + 1 + (n : Int) ≤ 20000; omega)) | (rw [if_neg j84] at hx; rw [Int.add_zero]; exact ih (i + 1) _ _ _ (by omega) (by omega) hT M K (S.go Z.2.1 false) hx (by show s1.2.1 + 1 + (n : Int) ≤ 20000; omega)) | (rw [if_neg j84] at hx; exact ih (i + 1) _ _ _ (by omega) (by omega) hT M K (S.go Z.2.1 false) hx (by show s1.2.1 + 1 + (n : Int) ≤ 20000; omega))
    · refine S_if_eq (d := qX7_alone_87) (kt := fun _ => ?_) (kf := fun c => absurd c (by decide))
      refine S_iconst qX7_alone_94 ?_
      refine S_iadd qX7_alone_95 ?_
      refine S_is7 qX7_alone_96 (K := ?_)
      refine S_inc8 qX7_alone_98 (K := ?_)
      refine S_goto qX7_alone_101 ?_
      first | (rw [if_pos j84] at hx; exact ih (i + 1) _ _ _ (by omega) (by omega) hT M K (S.go Z.2.1 false) hx (by show s1.2.1 + 1 + (n : Int) ≤ 20000; omega)) | (rw [if_neg j84] at hx; rw [Int.add_zero]; exact ih (i + 1) _ _ _ (by omega) (by omega) hT M K (S.go Z.2.1 false) hx (by show s1.2.1 + 1 + (n : Int) ≤ 20000; omega)) | (rw [if_neg j84] at hx; exact ih (i + 1) _ _ _ (by omega) (by omega) hT M K (S.go Z.2.1 false) hx (by show s1.2.1 + 1 + (n : Int) ≤ 20000; omega))
theorem mal_out {g : GC} {X : CX} {Q : Option AV → MM → Prop} {V : MM} {Z : ZT} {d m w : Int} {xf : Int × Int} (hZ : MA V Z) (rd : 0 ≤ d ∧ d < Z.1.1) (rm : 1 ≤ m ∧ m ≤ 30) (rw_ : -2147483648 ≤ w ∧ w ≤ 2147483647) (hz : Fi g X (some .int) Q) (hD : Dp X 9) (hQ : ∀ V', Tm V V' → FM V' Z.2.1 Z.1 → Q (some (vi (if w = 0 then xf.1 else xf.2))) V') : ∀ (n : Nat) (o l b : Int) (V1 : MM), 0 ≤ o → o + n = Z.1.1 → Tm V V1 → FM V1 Z.2.1 Z.1 → (-1 ≤ l ∧ l ≤ 30) → aloS Z.2.1 Z.1 d m n o l b = xf → SW g X RX7 cX7_alone 43 [some (vr 83), some (vi d), some (vi m), some (vi w), some (vi b), some (vi l), some (vi o), none, none] [] V1 := by
  obtain ⟨-, hI0, hn6, hbb, hwz, hkz⟩ := hZ.pf
  intro n
  induction n with
  | zero =>
    intro o l b V1 h0 h1 hT M hl hx
    unfold aloS at hx
    subst hx
    refine S_il6 qX7_alone_43 ?_
    refine S_al0 qX7_alone_45 ?_
    refine S_getI qX7_alone_46 fX7_7 e83_0 ?_
    rw [M.n]
    refine S_icmp_ge (d := qX7_alone_49) (kt := fun c49 => ?_) (kf := fun c49 => ?_)
    rotate_left
    · omega
    refine S_il3 qX7_alone_132 ?_
    refine S_if_ne (d := qX7_alone_133) (kt := fun c133 => ?_) (kf := fun c133 => ?_)
    · refine S_il5 qX7_alone_141 ?_
      refine S_iret hz qX7_alone_143 ?_
      have h5 := hQ _ hT M
      first | (rw [if_pos c133] at h5; exact h5) | (rw [if_neg c133] at h5; exact h5)
    · refine S_il4 qX7_alone_136 ?_
      refine S_goto qX7_alone_138 ?_
      refine S_iret hz qX7_alone_143 ?_
      have h5 := hQ _ hT M
      first | (rw [if_pos c133] at h5; exact h5) | (rw [if_neg c133] at h5; exact h5)
  | succ n ih =>
    intro o l b V1 h0 h1 hT M hl hx
    unfold aloS at hx
    have hfr := aln_rg Z.2.1 d m.toNat (folS Z.1 d o) 0
    have hb2 : (folS Z.1 d o).2.1 = Z.1.2.1 := rfl
    refine S_il6 qX7_alone_43 ?_
    refine S_al0 qX7_alone_45 ?_
    refine S_getI qX7_alone_46 fX7_7 e83_0 ?_
    rw [M.n]
    refine S_icmp_ge (d := qX7_alone_49) (kt := fun c49 => ?_) (kf := fun c49 => ?_)
    · omega
    refine S_al0 qX7_alone_52 ?_
    refine S_V0V hD qX7_alone_53 lX7_309 vX7_save r83 (m_save M) (kk := fun V53 h53 => ?_)
    obtain ⟨M, hT53, K⟩ := h53
    have hT := hT.tr hT53
    refine S_al0 qX7_alone_56 ?_
    refine S_getR qX7_alone_57 fX7_23 e83_4 ?_
    refine S_il1 qX7_alone_60 ?_
    refine S_il6 qX7_alone_61 ?_
    refine S_iast qX7_alone_63 a86 (K := ?_)
    have q86 := fol_ft (d := d) (o := o) M (by omega) (by omega)
    have M := q86.1
    have hT := hT.tr q86.2
    have K : KM (upR V53 86 (ur (V53 86) d o)) Z.1 := K.ke ⟨by rw [upR_n _ (by omega)], upR_n _ (by omega), upR_n _ (by omega)⟩
    refine S_iconst qX7_alone_64 ?_
    refine S_is7 qX7_alone_65 (K := ?_)
    refine S_iconst qX7_alone_67 ?_
    refine S_is8 qX7_alone_68 (K := ?_)
    refine mal_in (Q := Q) (xf := alnS Z.2.1 d m.toNat (folS Z.1 d o) 0) (by omega) hD rd (fun V2 s2 hT M K S => ?_) m.toNat 0 0 _ (folS Z.1 d o) (by omega) (by omega) hT M K ⟨rfl, rfl, rfl, rfl⟩ rfl (by omega)
    refine S_al0 qX7_alone_104 ?_
    refine S_V0V hD qX7_alone_105 lX7_312 vX7_putBack r83 (m_putBack M K S hI0) (kk := fun V105 h105 => ?_)
    obtain ⟨M, hT105⟩ := h105
    have hT := hT.tr hT105
    refine S_il7 qX7_alone_108 ?_
    refine S_il5 qX7_alone_110 ?_
    refine S_icmp_gt (d := qX7_alone_112) (kt := fun c112 => ?_) (kf := fun c112 => ?_)
    · refine S_il6 qX7_alone_118 ?_
      refine S_is4 qX7_alone_120 (K := ?_)
      refine S_il7 qX7_alone_122 ?_
      refine S_is5 qX7_alone_124 (K := ?_)
      refine S_inc6 qX7_alone_126 (K := ?_)
      refine S_goto qX7_alone_129 ?_
      refine SW.forget 7 (SW.forget 8 ?_)
      first
        | (rw [if_pos (by omega)] at hx
           exact ih (o + 1) _ _ _ (by omega) (by omega) hT M (by omega) hx)
        | (rw [if_neg (by omega)] at hx
           exact ih (o + 1) _ _ _ (by omega) (by omega) hT M (by omega) hx)
    · refine S_goto qX7_alone_115 ?_
      refine S_inc6 qX7_alone_126 (K := ?_)
      refine S_goto qX7_alone_129 ?_
      refine SW.forget 7 (SW.forget 8 ?_)
      first
        | (rw [if_pos (by omega)] at hx
           exact ih (o + 1) _ _ _ (by omega) (by omega) hT M (by omega) hx)
        | (rw [if_neg (by omega)] at hx
           exact ih (o + 1) _ _ _ (by omega) (by omega) hT M (by omega) hx)
theorem m_alone {g : GC} {V : MM} {Z : ZT} {d m w : Int} (hZ : MA V Z) (rd : -2147483648 ≤ d ∧ d ≤ 2147483647) (rm : -2147483648 ≤ m ∧ m ≤ 2147483647) (rw_ : -2147483648 ≤ w ∧ w ≤ 2147483647) : Ct g mX7_alone 9 [vr 83, vi d, vi m, vi w] V (RM V (oAlone Z d m w) Z) := by
  refine Ct.of (ls := [some (vr 83), some (vi d), some (vi m), some (vi w), none, none, none, none, none]) (plainFor_of_name (by decide +kernel)) rfl (by exact Nat.le_of_ble_eq_true rfl) (fun X hz hD => ?_)
  obtain ⟨M, hI0, hn6, hbb, hwz, hkz⟩ := hZ.pf
  have hT := Tm.rf V
  refine S_al0 qX7_alone_0 ?_
  refine S_il1 qX7_alone_1 ?_
  refine S_V1B hD qX7_alone_2 lX7_218 vX7_isDancer r83 (m_isDancer M (by omega)) (kt := fun j2 => ?_) (kf := fun j2 => ?_)
  · refine S_if_eq (d := qX7_alone_5) (kt := fun c => absurd c (by decide)) (kf := fun _ => ?_)
    refine S_al0 qX7_alone_8 ?_
    refine S_il3 qX7_alone_9 ?_
    refine S_iconst qX7_alone_10 ?_
    refine S_iconst qX7_alone_11 ?_
    refine S_V3B hD qX7_alone_12 lX7_206 vX7_in r83 (m_in (by omega) (by omega) (by omega)) (kt := fun j12 => ?_) (kf := fun j12 => ?_)
    · refine S_if_ne (d := qX7_alone_15) (kt := fun _ => ?_) (kf := fun c => absurd c (by decide))
      refine S_al0 qX7_alone_20 ?_
      refine S_il2 qX7_alone_21 ?_
      refine S_iconst qX7_alone_22 ?_
      refine S_bipush (d := qX7_alone_23) (k := ?_)
      refine S_V3B hD qX7_alone_25 lX7_206 vX7_in r83 (m_in (by omega) (by omega) (by omega)) (kt := fun j25 => ?_) (kf := fun j25 => ?_)
      · refine S_if_ne (d := qX7_alone_28) (kt := fun _ => ?_) (kf := fun c => absurd c (by decide))
        refine S_iconst qX7_alone_34 ?_
        refine S_is4 qX7_alone_35 (K := ?_)
        refine S_iconst qX7_alone_37 ?_
        refine S_is5 qX7_alone_38 (K := ?_)
        refine S_iconst qX7_alone_40 ?_
        refine S_is6 qX7_alone_41 (K := ?_)
        refine mal_out hZ (by omega) (by omega) rw_ hz hD (fun V' p q => RM.tm hZ p q ?_) Z.1.1.toNat 0 _ _ _ (by omega) (by omega) hT M (by omega) rfl
        symm
        unfold oAlone
        rw [if_neg (by omega), if_neg (by omega)]
      · refine S_if_ne (d := qX7_alone_28) (kt := fun c => absurd c (by decide)) (kf := fun _ => ?_)
        refine S_bipush (d := qX7_alone_31) (k := ?_)
        refine S_iret hz qX7_alone_33 ?_
        refine RM.same hZ ?_
        unfold oAlone
        first | (rw [if_pos (by omega)]; done) | (rw [if_neg (by omega), if_pos (by omega)]; done) | (rw [if_neg (by omega), if_neg (by omega), if_pos (by omega)]; done)
    · refine S_if_ne (d := qX7_alone_15) (kt := fun c => absurd c (by decide)) (kf := fun _ => ?_)
      refine S_iconst qX7_alone_18 ?_
      refine S_iret hz qX7_alone_19 ?_
      refine RM.same hZ ?_
      unfold oAlone
      first | (rw [if_pos (by omega)]; done) | (rw [if_neg (by omega), if_pos (by omega)]; done) | (rw [if_neg (by omega), if_neg (by omega), if_pos (by omega)]; done)
  · refine S_if_eq (d := qX7_alone_5) (kt := fun _ => ?_) (kf := fun c => absurd c (by decide))
    refine S_iconst qX7_alone_18 ?_
    refine S_iret hz qX7_alone_19 ?_
    refine RM.same hZ ?_
    unfold oAlone
    first | (rw [if_pos (by omega)]; done) | (rw [if_neg (by omega), if_pos (by omega)]; done) | (rw [if_neg (by omega), if_neg (by omega), if_pos (by omega)]; done)

theorem mstp_loop {g : GC} {X : CX} {Q : Option AV → MM → Prop} {V : MM} {Z : ZT} {xf : Int} (hZ : MA V Z) (hz : Fi g X (some .int) Q) (hD : Dp X 9) (hQ : ∀ V', Tm V V' → FM V' Z.2.1 Z.1 → Q (some (vi xf)) V') : ∀ (n : Nat) (k l f : Int) (V1 : MM), 0 ≤ k → k + n = 11 → Tm V V1 → FM V1 Z.2.1 Z.1 → (l = -5 ∨ 0 ≤ l ∧ l ≤ 60) → stpS Z.2.1 Z.1 n k (if l < 0 then 61 else l) f = xf → SW g X RX7 cX7_stop 11 [some (vr 83), some (vi l), some (vi f), some (vi k), none] [] V1 := by
  obtain ⟨-, hI0, hn6, hbb, hwz, hkz⟩ := hZ.pf
  intro n
  induction n with
  | zero =>
    intro k l f V1 h0 h1 hT M hl hx
    unfold stpS at hx
    subst hx
    refine S_il3 qX7_stop_11 ?_
    refine S_bipush (d := qX7_stop_12) (k := ?_)
    refine S_icmp_ge (d := qX7_stop_14) (kt := fun c14 => ?_) (kf := fun c14 => ?_)
    rotate_left
    · omega
    refine S_il2 qX7_stop_53 ?_
    refine S_iret hz qX7_stop_54 ?_
    exact hQ _ hT M
  | succ n ih =>
    intro k l f V1 h0 h1 hT M hl hx
    have hlr : 0 ≤ (if l < 0 then 61 else l) ∧ (if l < 0 then 61 else l) ≤ 61 := by split <;> omega
    have hcut := ti_cut Z.2.1 Z.1 k (m := (if l < 0 then 61 else l) - 1) (by omega)
    have hrg := ti_rg Z.2.1 Z.1 k (m := 60) (by omega)
    unfold stpS at hx
    rw [hcut] at hx
    refine S_il3 qX7_stop_11 ?_
    refine S_bipush (d := qX7_stop_12) (k := ?_)
    refine S_icmp_ge (d := qX7_stop_14) (kt := fun c14 => ?_) (kf := fun c14 => ?_)
    · omega
    refine S_al0 qX7_stop_17 ?_
    refine S_il3 qX7_stop_18 ?_
    refine S_V1I hD qX7_stop_19 lX7_318 vX7_togetherBy r83 (m_tby M (by omega) (by omega)) (kk := fun z19 V19 h19 => ?_)
    obtain ⟨rfl, M, hT19⟩ := h19
    have hT := hT.tr hT19
    refine S_is4 qX7_stop_22 (K := ?_)
    refine S_il4 qX7_stop_24 ?_
    refine S_if_lt (d := qX7_stop_26) (kt := fun c26 => ?_) (kf := fun c26 => ?_)
    · refine S_inc3 qX7_stop_47 (K := ?_)
      refine S_goto qX7_stop_50 ?_
      refine SW.forget 4 ?_
      first
        | (rw [if_neg (by split <;> omega)] at hx
           rw [if_pos (by split <;> omega)] at hx
           refine ih (k + 1) _ _ _ (by omega) (by omega) hT M (by omega) ?_
           rw [if_neg (by omega)]
           exact hx)
        | (rw [if_pos (by split <;> omega)] at hx
           exact ih (k + 1) _ _ _ (by omega) (by omega) hT M (by omega) hx)
    · refine S_il1 qX7_stop_29 ?_
      refine S_if_lt (d := qX7_stop_30) (kt := fun c30 => ?_) (kf := fun c30 => ?_)
      · refine S_il3 qX7_stop_42 ?_
        refine S_is2 qX7_stop_43 (K := ?_)
        refine S_il4 qX7_stop_44 ?_
        refine S_is1 qX7_stop_46 (K := ?_)
        refine S_inc3 qX7_stop_47 (K := ?_)
        refine S_goto qX7_stop_50 ?_
        refine SW.forget 4 ?_
        first
          | (rw [if_neg (by split <;> omega)] at hx
             rw [if_pos (by split <;> omega)] at hx
             refine ih (k + 1) _ _ _ (by omega) (by omega) hT M (by omega) ?_
             rw [if_neg (by omega)]
             exact hx)
          | (rw [if_pos (by split <;> omega)] at hx
             exact ih (k + 1) _ _ _ (by omega) (by omega) hT M (by omega) hx)
      · refine S_il4 qX7_stop_33 ?_
        refine S_il1 qX7_stop_35 ?_
        refine S_icmp_lt (d := qX7_stop_36) (kt := fun c36 => ?_) (kf := fun c36 => ?_)
        · refine S_il3 qX7_stop_42 ?_
          refine S_is2 qX7_stop_43 (K := ?_)
          refine S_il4 qX7_stop_44 ?_
          refine S_is1 qX7_stop_46 (K := ?_)
          refine S_inc3 qX7_stop_47 (K := ?_)
          refine S_goto qX7_stop_50 ?_
          refine SW.forget 4 ?_
          first
            | (rw [if_neg (by split <;> omega)] at hx
               rw [if_pos (by split <;> omega)] at hx
               refine ih (k + 1) _ _ _ (by omega) (by omega) hT M (by omega) ?_
               rw [if_neg (by omega)]
               exact hx)
            | (rw [if_pos (by split <;> omega)] at hx
               exact ih (k + 1) _ _ _ (by omega) (by omega) hT M (by omega) hx)
        · refine S_goto qX7_stop_39 ?_
          refine S_inc3 qX7_stop_47 (K := ?_)
          refine S_goto qX7_stop_50 ?_
          refine SW.forget 4 ?_
          first
            | (rw [if_neg (by split <;> omega)] at hx
               rw [if_pos (by split <;> omega)] at hx
               refine ih (k + 1) _ _ _ (by omega) (by omega) hT M (by omega) ?_
               rw [if_neg (by omega)]
               exact hx)
            | (rw [if_pos (by split <;> omega)] at hx
               exact ih (k + 1) _ _ _ (by omega) (by omega) hT M (by omega) hx)
theorem m_stop {g : GC} {V : MM} {Z : ZT} (hZ : MA V Z) : Ct g mX7_stop 9 [vr 83] V (RM V (oStop Z) Z) := by
  refine Ct.of (ls := [some (vr 83), none, none, none, none]) (plainFor_of_name (by decide +kernel)) rfl (by exact Nat.le_of_ble_eq_true rfl) (fun X hz hD => ?_)
  obtain ⟨M, hI0, hn6, hbb, hwz, hkz⟩ := hZ.pf
  have hT := Tm.rf V
  refine S_al0 qX7_stop_0 ?_
  refine S_iconst qX7_stop_1 ?_
  refine S_V1I hD qX7_stop_2 lX7_318 vX7_togetherBy r83 (m_tby M (by omega) (by omega)) (kk := fun z2 V2 h2 => ?_)
  obtain ⟨rfl, M, hT2⟩ := h2
  have hT := hT.tr hT2
  refine S_is1 qX7_stop_5 (K := ?_)
  refine S_bipush (d := qX7_stop_6) (k := ?_)
  refine S_is2 qX7_stop_8 (K := ?_)
  refine S_iconst qX7_stop_9 ?_
  refine S_is3 qX7_stop_10 (K := ?_)
  have hrg := ti_rg Z.2.1 Z.1 (-1) (m := 60) (by omega)
  have hneg := ti_neg Z.2.1 Z.1 (a := -1) (b := -5) (by omega) (by omega) 60
  refine mstp_loop hZ hz hD (fun V' p q => RM.tm hZ p q ?_) 11 0 _ _ _ (by omega) (by omega) hT M (by omega) rfl
  unfold oStop
  rw [← hneg]
  by_cases c : tiS Z.2.1 Z.1 (-1) 60 = -5
  · rw [if_pos c, if_pos (by omega)]
  · rw [if_neg c, if_neg (by omega)]
