theorem lay_ft {V : MM} {hs : HS} {s : FS} {d p : Int} (M : FM V hs s) (rp : 0 ≤ p ∧ p < hs.1) : FM (upR V 88 (layS (V 88) d p 8)) hs (layF s d p) ∧ Tm V (upR V 88 (layS (V 88) d p 8)) := by
  have hT : Tm V (upR V 88 (layS (V 88) d p 8)) := ⟨fun k a b c d => upR_n _ c, fun j p q => by rw [upR_n _ (by omega)]⟩
  refine ⟨M.mk2 hT ?_ ?_, hT⟩
  · show layF s d p = (upR V 88 (layS (V 88) d p 8) 83 0, upR V 88 (layS (V 88) d p 8) 83 1, upR V 88 (layS (V 88) d p 8) 84, upR V 88 (layS (V 88) d p 8) 85, upR V 88 (layS (V 88) d p 8) 86, upR V 88 (layS (V 88) d p 8) 88, upR V 88 (layS (V 88) d p 8) 87)
    have e := M.1
    rw [upR_s, upR_n _ (by omega), upR_n _ (by omega), upR_n _ (by omega), upR_n _ (by omega), upR_n _ (by omega), e]
    rfl
  · obtain ⟨h1, h2, h3, h4, h5, h6⟩ := M.2.2.2
    refine ⟨h1, h2, h3, h4, fun i hi => ?_, h6⟩
    have := h5 i hi
    show 0 ≤ layS s.2.2.2.2.2.1 d p 8 i ∧ layS s.2.2.2.2.2.1 d p 8 i < hs.1
    unfold layS
    split <;> omega

theorem lays_loop {g : GC} {X : CX} {Q : Option AV → MM → Prop} {V : MM} {d p : Int} (hd : 0 ≤ d ∧ d < 6) (hz : Fi g X none Q) (hQ : Q none (upR V 88 (layS (V 88) d p 8))) : ∀ (n : Nat) (k : Int), 0 ≤ k → k + n = 8 → SW g X RX7 cX7_laysAll 2 [some (vr 83), some (vi d), some (vi p), some (vi k)] [] (upR V 88 (layS (V 88) d p k)) := by
  intro n
  induction n with
  | zero =>
    intro k h0 h1
    have e : k = 8 := by omega
    subst e
    refine S_il3 qX7_laysAll_2 ?_
    refine S_bipush (d := qX7_laysAll_3) (k := ?_)
    refine S_icmp_ge (d := qX7_laysAll_5) (kt := fun c5 => ?_) (kf := fun c5 => ?_)
    rotate_left
    · omega
    refine S_vret hz qX7_laysAll_26 ?_
    exact hQ
  | succ n ih =>
    intro k h0 h1
    refine S_il3 qX7_laysAll_2 ?_
    refine S_bipush (d := qX7_laysAll_3) (k := ?_)
    refine S_icmp_ge (d := qX7_laysAll_5) (kt := fun c5 => ?_) (kf := fun c5 => ?_)
    · omega
    refine S_al0 qX7_laysAll_8 ?_
    refine S_getR qX7_laysAll_9 fX7_29 e83_6 ?_
    refine S_bipush (d := qX7_laysAll_12) (k := ?_)
    refine S_il1 qX7_laysAll_14 ?_
    refine S_imul qX7_laysAll_15 ?_
    refine S_il3 qX7_laysAll_16 ?_
    refine S_iadd qX7_laysAll_17 ?_
    refine S_il2 qX7_laysAll_18 ?_
    refine S_iast qX7_laysAll_19 a88 (K := ?_)
    refine S_inc3 qX7_laysAll_20 (K := ?_)
    refine S_goto qX7_laysAll_23 ?_
    rw [upR_s, upR_u, layS_1 _ h0 rfl]
    exact ih (k + 1) (by omega) (by omega)
theorem m_laysAll {g : GC} {V : MM} {d p : Int} (hd : 0 ≤ d ∧ d < 6) : Ct g mX7_laysAll 1 [vr 83, vi d, vi p] V (RW (upR V 88 (layS (V 88) d p 8))) := by
  refine Ct.of (ls := [some (vr 83), some (vi d), some (vi p), none]) (plainFor_of_name (by decide +kernel)) rfl (by exact Nat.le_of_ble_eq_true rfl) (fun X hz hD => ?_)
  refine S_iconst qX7_laysAll_0 ?_
  refine S_is3 qX7_laysAll_1 (K := ?_)
  rw [← upR_id V 88]
  have h5 := lays_loop (V := V) (d := d) (p := p) hd hz (RW.mk rfl) 8 0 (by omega) (by omega)
  rw [layS_0] at h5
  exact h5

/-- downward: how many places serve, the least one -/
def mbS (P : Int → Bool) : Nat → Int → Int → Int × Int
  | 0, c, l => (c, l)
  | n + 1, c, l => if P n = true then mbS P n (c + 1) n else mbS P n c l
def abS (P : Int → Bool) : Nat → Int → Int → Int → Int × Int
  | 0, _, c, l => (c, l)
  | n + 1, p, c, l => if P p = true then abS P n (p + 1) (c + 1) (if l = -5 then p else l) else abS P n (p + 1) c l
theorem abS_last (P : Int → Bool) : ∀ (n : Nat) (p c l : Int), abS P (n + 1) p c l = if P (p + n) = true then ((abS P n p c l).1 + 1, if (abS P n p c l).2 = -5 then p + n else (abS P n p c l).2) else abS P n p c l := by
  intro n
  induction n with
  | zero =>
    intro p c l
    show (if P p = true then _ else _) = _
    have e : p + ((0 : Nat) : Int) = p := by omega
    rw [e]
    rfl
  | succ n ih =>
    intro p c l
    have e : p + 1 + (n : Int) = p + ((n + 1 : Nat) : Int) := by omega
    show (if P p = true then abS P (n + 1) (p + 1) (c + 1) (if l = -5 then p else l) else abS P (n + 1) (p + 1) c l) = _
    by_cases h : P p = true
    · rw [if_pos h, ih, e]
      have e2 : abS P (n + 1) p c l = abS P n (p + 1) (c + 1) (if l = -5 then p else l) := if_pos h
      rw [e2]
    · rw [if_neg h, ih, e]
      have e2 : abS P (n + 1) p c l = abS P n (p + 1) c l := if_neg h
      rw [e2]
theorem mb_ab (P : Int → Bool) : ∀ (n : Nat) (c l : Int), mbS P n c l = (c + (abS P n 0 0 (-5)).1, if (abS P n 0 0 (-5)).2 = -5 then l else (abS P n 0 0 (-5)).2) := by
  intro n
  induction n with
  | zero => intro c l; show (c, l) = (c + 0, if (-5 : Int) = -5 then l else -5); rw [if_pos rfl, Int.add_zero]
  | succ n ih =>
    intro c l
    rw [abS_last]
    have e : (0 : Int) + (n : Int) = n := by omega
    rw [e]
    unfold mbS
    by_cases h : P n = true
    · rw [if_pos h, if_pos h, ih]
      by_cases h2 : (abS P n 0 0 (-5)).2 = -5
      · rw [if_pos h2]
        show (c + 1 + _, (n : Int)) = (c + (_ + 1), if (n : Int) = -5 then l else (n : Int))
        rw [if_neg (by omega), Int.add_assoc, Int.add_comm 1]
      · rw [if_neg h2]
        show (c + 1 + (abS P n 0 0 (-5)).1, (abS P n 0 0 (-5)).2) = (c + ((abS P n 0 0 (-5)).1 + 1), (if (abS P n 0 0 (-5)).2 = -5 then l else (abS P n 0 0 (-5)).2))
        rw [if_neg h2, Int.add_assoc, Int.add_comm 1]
    · rw [if_neg h, if_neg h, ih]
theorem beg_ab (hs : HS) (s : FS) (d m : Int) : ∀ (n : Nat) (p c l : Int), begS hs s d m n p c l = abS (fun p => decide (tiS hs (layF s d p) (-5) m ≠ -5)) n p c l := by
  intro n
  induction n with
  | zero => intro p c l; rfl
  | succ n ih =>
    intro p c l
    unfold begS abS
    by_cases h : tiS hs (layF s d p) (-5) m = -5
    · rw [if_pos h, if_neg (by rw [decide_eq_true_eq]; omega), ih]
    · rw [if_neg h, if_pos (decide_eq_true h), ih]

theorem mbg_in {g : GC} {X : CX} {Q : Option AV → MM → Prop} {V : MM} {Z : ZT} {d m w c l p : Int} {xf : Int} (rm : 0 ≤ m ∧ m ≤ 12) (hD : Dp X 8) (hk : ∀ (V2 : MM) (s2 : FS) (k : Int), Tm V V2 → FM V2 Z.2.1 s2 → KM V2 Z.1 → Sk Z.1 s2 → (xf = -5 ∧ k = m + 1 ∨ 0 ≤ xf ∧ xf ≤ m ∧ k = xf) → SW g X RX7 cX7_begins 92 [some (vr 83), some (vi d), some (vi m), some (vi w), some (vi c), some (vi l), some (vi p), some (vi k)] [] V2) : ∀ (n : Nat) (k : Int) (V1 : MM) (s1 : FS), 0 ≤ k → k + n = m + 1 → Tm V V1 → FM V1 Z.2.1 s1 → KM V1 Z.1 → Sk Z.1 s1 → fstS Z.2.1 togB (-5) n k s1 = xf → s1.2.1 + n ≤ 20000 → SW g X RX7 cX7_begins 68 [some (vr 83), some (vi d), some (vi m), some (vi w), some (vi c), some (vi l), some (vi p), some (vi k)] [] V1 := by
  intro n
  induction n with
  | zero =>
    intro k V1 s1 h0 h1 hT M K S hx hb
    unfold fstS at hx
    refine S_il7 qX7_begins_68 ?_
    refine S_il2 qX7_begins_70 ?_
    refine S_icmp_gt (d := qX7_begins_71) (kt := fun c71 => ?_) (kf := fun c71 => ?_)
    rotate_left
    · omega
    exact hk _ _ _ hT M K S (by omega)
  | succ n ih =>
    intro k V1 s1 h0 h1 hT M K S hx hb
    have hn6 := M.2.2.2.1
    have mr := man_rg s1.2.2.2.2.2.1 s1.1.toNat 0 0
    have mt := man_tog hn6.1
    replace mr : 0 ≤ manF s1 ∧ manF s1 ≤ 0 + (s1.1.toNat : Int) := mr
    have dk : decide (k = (-5 : Int)) = false := decide_eq_false (by omega)
    unfold fstS at hx
    rw [dk] at hx
    refine S_il7 qX7_begins_68 ?_
    refine S_il2 qX7_begins_70 ?_
    refine S_icmp_gt (d := qX7_begins_71) (kt := fun c71 => ?_) (kf := fun c71 => ?_)
    · omega
    refine S_al0 qX7_begins_74 ?_
    refine S_V0I hD qX7_begins_75 lX7_296 vX7_many r83 (m_many M) (kk := fun z75 V75 h75 => ?_)
    obtain ⟨rfl, hO75⟩ := h75
    have M := M.om hO75
    have hT := hT.tr hO75.og.tm
    have K := K.ke hO75.ke
    refine S_iconst qX7_begins_78 ?_
    refine S_icmp_le (d := qX7_begins_79) (kt := fun c79 => ?_) (kf := fun c79 => ?_)
    · rw [if_pos (mt.mp c79)] at hx
      exact hk _ _ _ hT M K S (by omega)
    · refine S_al0 qX7_begins_82 ?_
      refine S_V0V hD qX7_begins_83 lX7_306 vX7_go r83 (m_go M (by omega)) (kk := fun V83 h83 => ?_)
      obtain ⟨M, hT83, hK83⟩ := h83
      have hT := hT.tr hT83
      have K := K.ke hK83
      refine S_inc7 qX7_begins_86 (K := ?_)
      refine S_goto qX7_begins_89 ?_
      rw [if_neg (fun q => by have := mt.mpr q; omega)] at hx
      exact ih (k + 1) _ _ (by omega) (by omega) hT M K (S.go Z.2.1 false) hx (by show s1.2.1 + 1 + (n : Int) ≤ 20000; omega)
theorem mbg_out {g : GC} {X : CX} {Q : Option AV → MM → Prop} {V : MM} {Z : ZT} {d m w : Int} {xf : Int × Int} (hZ : MA V Z) (rd : 0 ≤ d ∧ d < Z.1.1) (rm : 0 ≤ m ∧ m ≤ 12) (rw_ : -2147483648 ≤ w ∧ w ≤ 2147483647) (hz : Fi g X (some .int) Q) (hD : Dp X 8) (hQ : ∀ V', Tm V V' → FM V' Z.2.1 Z.1 → Q (some (vi (if w = 0 then xf.1 else xf.2))) V') : ∀ (n : Nat) (p c l : Int) (V1 : MM), p = (n : Int) - 1 → p < Z.2.1.1 → Tm V V1 → FM V1 Z.2.1 Z.1 → mbS (fun p => decide (tiS Z.2.1 (layF Z.1 d p) (-5) m ≠ -5)) n c l = xf → SW g X RX7 cX7_begins 49 [some (vr 83), some (vi d), some (vi m), some (vi w), some (vi c), some (vi l), some (vi p), none] [] V1 := by
  obtain ⟨-, hI0, hn6, hbb, hwz, hkz⟩ := hZ.pf
  intro n
  induction n with
  | zero =>
    intro p c l V1 h0 h1 hT M hx
    unfold mbS at hx
    subst hx
    refine S_il6 qX7_begins_49 ?_
    refine S_if_lt (d := qX7_begins_51) (kt := fun c51 => ?_) (kf := fun c51 => ?_)
    rotate_left
    · omega
    refine S_il3 qX7_begins_118 ?_
    refine S_if_ne (d := qX7_begins_119) (kt := fun c119 => ?_) (kf := fun c119 => ?_)
    · refine S_il5 qX7_begins_127 ?_
      refine S_iret hz qX7_begins_129 ?_
      have h5 := hQ _ hT M
      first | (rw [if_pos c119] at h5; exact h5) | (rw [if_neg c119] at h5; exact h5)
    · refine S_il4 qX7_begins_122 ?_
      refine S_goto qX7_begins_124 ?_
      refine S_iret hz qX7_begins_129 ?_
      have h5 := hQ _ hT M
      first | (rw [if_pos c119] at h5; exact h5) | (rw [if_neg c119] at h5; exact h5)
  | succ n ih =>
    intro p c l V1 h0 h1 hT M hx
    have hpn : p = (n : Int) := by omega
    unfold mbS at hx
    rw [← hpn] at hx
    have hb2 : (layF Z.1 d p).2.1 = Z.1.2.1 := rfl
    refine S_il6 qX7_begins_49 ?_
    refine S_if_lt (d := qX7_begins_51) (kt := fun c51 => ?_) (kf := fun c51 => ?_)
    · omega
    refine S_al0 qX7_begins_54 ?_
    refine S_V0V hD qX7_begins_55 lX7_309 vX7_save r83 (m_save M) (kk := fun V55 h55 => ?_)
    obtain ⟨M, hT55, K⟩ := h55
    have hT := hT.tr hT55
    refine S_al0 qX7_begins_58 ?_
    refine S_il1 qX7_begins_59 ?_
    refine S_il6 qX7_begins_60 ?_
    refine S_V2W hD qX7_begins_62 lX7_214 vX7_laysAll r83 (m_laysAll (by omega)) (K := ?_)
    have q88 := lay_ft (d := d) (p := p) M (by omega)
    have M := q88.1
    have hT := hT.tr q88.2
    have K : KM (upR V55 88 (layS (V55 88) d p 8)) Z.1 := K.ke ⟨by rw [upR_n _ (by omega)], upR_n _ (by omega), upR_n _ (by omega)⟩
    refine S_iconst qX7_begins_65 ?_
    refine S_is7 qX7_begins_66 (K := ?_)
    refine mbg_in (Q := Q) (xf := tiS Z.2.1 (layF Z.1 d p) (-5) m) rm hD (fun V2 s2 k hT M K S hkx => ?_) (m + 1).toNat 0 _ (layF Z.1 d p) (by omega) (by omega) hT M K ⟨rfl, rfl, rfl, rfl⟩ rfl (by omega)
    refine S_al0 qX7_begins_92 ?_
    refine S_V0V hD qX7_begins_93 lX7_312 vX7_putBack r83 (m_putBack M K S hI0) (kk := fun V93 h93 => ?_)
    obtain ⟨M, hT93⟩ := h93
    have hT := hT.tr hT93
    refine S_il7 qX7_begins_96 ?_
    refine S_il2 qX7_begins_98 ?_
    refine S_icmp_le (d := qX7_begins_99) (kt := fun c99 => ?_) (kf := fun c99 => ?_)
    · refine S_inc4 qX7_begins_105 (K := ?_)
      refine S_il6 qX7_begins_108 ?_
      refine S_is5 qX7_begins_110 (K := ?_)
      refine S_inc6 qX7_begins_112 (K := ?_)
      refine S_goto qX7_begins_115 ?_
      refine SW.forget 7 ?_
      first
        | (rw [if_neg (by rw [decide_eq_true_eq]; omega)] at hx
           exact ih (p + -1) _ _ _ (by omega) (by omega) hT M hx)
        | (rw [if_pos (by rw [decide_eq_true_eq]; omega)] at hx
           exact ih (p + -1) _ _ _ (by omega) (by omega) hT M hx)
    · refine S_goto qX7_begins_102 ?_
      refine S_inc6 qX7_begins_112 (K := ?_)
      refine S_goto qX7_begins_115 ?_
      refine SW.forget 7 ?_
      first
        | (rw [if_neg (by rw [decide_eq_true_eq]; omega)] at hx
           exact ih (p + -1) _ _ _ (by omega) (by omega) hT M hx)
        | (rw [if_pos (by rw [decide_eq_true_eq]; omega)] at hx
           exact ih (p + -1) _ _ _ (by omega) (by omega) hT M hx)
theorem m_begins {g : GC} {V : MM} {Z : ZT} {d m w : Int} (hZ : MA V Z) (rd : -2147483648 ≤ d ∧ d ≤ 2147483647) (rm : -2147483648 ≤ m ∧ m ≤ 2147483647) (rw_ : -2147483648 ≤ w ∧ w ≤ 2147483647) : Ct g mX7_begins 8 [vr 83, vi d, vi m, vi w] V (RM V (oBegins Z d m w) Z) := by
  refine Ct.of (ls := [some (vr 83), some (vi d), some (vi m), some (vi w), none, none, none, none]) (plainFor_of_name (by decide +kernel)) rfl (by exact Nat.le_of_ble_eq_true rfl) (fun X hz hD => ?_)
  obtain ⟨M, hI0, hn6, hbb, hwz, hkz⟩ := hZ.pf
  have hT := Tm.rf V
  refine S_al0 qX7_begins_0 ?_
  refine S_il1 qX7_begins_1 ?_
  refine S_V1B hD qX7_begins_2 lX7_218 vX7_isDancer r83 (m_isDancer M (by omega)) (kt := fun j2 => ?_) (kf := fun j2 => ?_)
  · refine S_if_eq (d := qX7_begins_5) (kt := fun c => absurd c (by decide)) (kf := fun _ => ?_)
    refine S_al0 qX7_begins_8 ?_
    refine S_il3 qX7_begins_9 ?_
    refine S_iconst qX7_begins_10 ?_
    refine S_iconst qX7_begins_11 ?_
    refine S_V3B hD qX7_begins_12 lX7_206 vX7_in r83 (m_in (by omega) (by omega) (by omega)) (kt := fun j12 => ?_) (kf := fun j12 => ?_)
    · refine S_if_ne (d := qX7_begins_15) (kt := fun _ => ?_) (kf := fun c => absurd c (by decide))
      refine S_al0 qX7_begins_20 ?_
      refine S_il2 qX7_begins_21 ?_
      refine S_iconst qX7_begins_22 ?_
      refine S_bipush (d := qX7_begins_23) (k := ?_)
      refine S_V3B hD qX7_begins_25 lX7_206 vX7_in r83 (m_in (by omega) (by omega) (by omega)) (kt := fun j25 => ?_) (kf := fun j25 => ?_)
      · refine S_if_ne (d := qX7_begins_28) (kt := fun _ => ?_) (kf := fun c => absurd c (by decide))
        refine S_iconst qX7_begins_34 ?_
        refine S_is4 qX7_begins_35 (K := ?_)
        refine S_bipush (d := qX7_begins_37) (k := ?_)
        refine S_is5 qX7_begins_39 (K := ?_)
        refine S_al0 qX7_begins_41 ?_
        refine S_V0E hD qX7_begins_42 lX7_210 vX7_wide r83 (m_wide M) (K := ?_)
        refine S_iconst qX7_begins_45 ?_
        refine S_isub qX7_begins_46 ?_
        refine S_is6 qX7_begins_47 (K := ?_)
        refine mbg_out (xf := begS Z.2.1 Z.1 d m Z.2.1.1.toNat 0 0 (-5)) hZ (by omega) (by omega) rw_ hz hD (fun V' p q => RM.tm hZ p q ?_) Z.2.1.1.toNat _ 0 (-5) _ (by omega) (by omega) hT M ?_
        · symm
          unfold oBegins
          rw [if_neg (by omega), if_neg (by omega)]
        · rw [mb_ab, beg_ab]
          generalize abS (fun p => decide (tiS Z.2.1 (layF Z.1 d p) (-5) m ≠ -5)) Z.2.1.1.toNat 0 0 (-5) = r
          obtain ⟨r1, r2⟩ := r
          show (0 + r1, if r2 = -5 then (-5 : Int) else r2) = (r1, r2)
          rw [Int.zero_add]
          by_cases c : r2 = -5
          · rw [if_pos c, c]
          · rw [if_neg c]
      · refine S_if_ne (d := qX7_begins_28) (kt := fun c => absurd c (by decide)) (kf := fun _ => ?_)
        refine S_bipush (d := qX7_begins_31) (k := ?_)
        refine S_iret hz qX7_begins_33 ?_
        refine RM.same hZ ?_
        unfold oBegins
        first | (rw [if_pos (by omega)]; done) | (rw [if_neg (by omega), if_pos (by omega)]; done) | (rw [if_neg (by omega), if_neg (by omega), if_pos (by omega)]; done)
    · refine S_if_ne (d := qX7_begins_15) (kt := fun c => absurd c (by decide)) (kf := fun _ => ?_)
      refine S_iconst qX7_begins_18 ?_
      refine S_iret hz qX7_begins_19 ?_
      refine RM.same hZ ?_
      unfold oBegins
      first | (rw [if_pos (by omega)]; done) | (rw [if_neg (by omega), if_pos (by omega)]; done) | (rw [if_neg (by omega), if_neg (by omega), if_pos (by omega)]; done)
  · refine S_if_eq (d := qX7_begins_5) (kt := fun _ => ?_) (kf := fun c => absurd c (by decide))
    refine S_iconst qX7_begins_18 ?_
    refine S_iret hz qX7_begins_19 ?_
    refine RM.same hZ ?_
    unfold oBegins
    first | (rw [if_pos (by omega)]; done) | (rw [if_neg (by omega), if_pos (by omega)]; done) | (rw [if_neg (by omega), if_neg (by omega), if_pos (by omega)]; done)

theorem FM103 {V : MM} {hs : HS} {s : FS} (M : FM V hs s) (r : Int → Int) : FM (upR V 103 r) hs s := by
  obtain ⟨m1, m2, m3, m4⟩ := M
  have e : upR V 103 r 83 = V 83 := upR_n _ (by omega)
  have hc := hsT_c (V := V) (V' := upR V 103 r) (t := V 83 8) (fun k a b => upR_n _ (by omega))
  refine ⟨?_, by rw [e, hc.1]; exact m2, by rw [e]; exact hc.2 m3, m4⟩
  rw [m1]
  show _ = (upR V 103 r 83 0, upR V 103 r 83 1, upR V 103 r 84, upR V 103 r 85, upR V 103 r 86, upR V 103 r 88, upR V 103 r 87)
  rw [e, upR_n _ (by omega), upR_n _ (by omega), upR_n _ (by omega), upR_n _ (by omega), upR_n _ (by omega)]
theorem MA103 {V : MM} {Z : ZT} (hZ : MA V Z) (r : Int → Int) : MA (upR V 103 r) Z := by
  obtain ⟨⟨h1, h1b⟩, h2, h3, h4, h5, h6, h7, h8⟩ := hZ
  have e : upR V 103 r 83 = V 83 := upR_n _ (by omega)
  exact ⟨⟨FM103 h1 r, h1b⟩, MAh_c h2 (by rw [e]) (by rw [e]) rfl, MAt_c h3 (by rw [e]) (upR_n _ (by omega)) rfl, MAn_c h4 (fun k a b => upR_n _ (by omega)) (by rw [e]) (by rw [e]) (by rw [e]) (Int.le_refl _) rfl, MAi_c h5 (fun k a => upR_n _ (by omega)) (fun j a => by rw [e]) rfl rfl, MAr_c h6 (by rw [e]) (upR_n _ (by omega)) rfl, MAg_c h7 (upR_n _ (by omega)) (upR_n _ (by omega)) (upR_n _ (by omega)) rfl, MAl_c h8 (upR_n _ (by omega))⟩
theorem Tm103 {V V1 : MM} (h : Tm V V1) (r : Int → Int) : Tm (upR V 103 r) (upR V1 103 r) := by
  refine ⟨fun k a b c d => ?_, fun j p q => by rw [upR_n _ (by omega), upR_n _ (by omega)]; exact h.2 j p q⟩
  by_cases e : k = 103
  · rw [e, upR_s, upR_s]
  · rw [upR_n _ e, upR_n _ e]
    exact h.1 k a b c d

theorem cnts_loop {g : GC} {X : CX} {Q : Option AV → MM → Prop} {V : MM} {hs : HS} {s : FS} {rf : Int → Int} (M0 : FM V hs s) (hz : Fi g X none Q) (hQ : Q none (upR V 103 rf)) : ∀ (n : Nat) (d : Int) (r : Int → Int), 0 ≤ d → d + n = s.1 → cntS s.2.2.2.2.2.1 n d r = rf → SW g X RX7 cX7_counts 2 [some (vr 83), some (vi d)] [] (upR V 103 r) := by
  have hI := M0.2.2.2
  have hn6 := hI.1
  have hw := M0.hw.1
  intro n
  induction n with
  | zero =>
    intro d r h0 h1 hx
    have M : FM (upR V 103 r) hs s := FM103 M0 r
    unfold cntS at hx
    subst hx
    refine S_il1 qX7_counts_2 ?_
    refine S_al0 qX7_counts_3 ?_
    refine S_getI qX7_counts_4 fX7_7 e83_0 ?_
    rw [M.n]
    refine S_icmp_ge (d := qX7_counts_7) (kt := fun c7 => ?_) (kf := fun c7 => ?_)
    rotate_left
    · omega
    refine S_vret hz qX7_counts_34 ?_
    exact hQ
  | succ n ih =>
    intro d r h0 h1 hx
    have M : FM (upR V 103 r) hs s := FM103 M0 r
    have w0 := hI.2.2.2.2.1 (8 * d) (by omega)
    unfold cntS at hx
    refine S_il1 qX7_counts_2 ?_
    refine S_al0 qX7_counts_3 ?_
    refine S_getI qX7_counts_4 fX7_7 e83_0 ?_
    rw [M.n]
    refine S_icmp_ge (d := qX7_counts_7) (kt := fun c7 => ?_) (kf := fun c7 => ?_)
    · omega
    refine S_al0 qX7_counts_10 ?_
    refine S_getR qX7_counts_11 fX7_102 e83_30 ?_
    refine S_al0 qX7_counts_14 ?_
    refine S_getR qX7_counts_15 fX7_29 e83_6 ?_
    refine S_bipush (d := qX7_counts_18) (k := ?_)
    refine S_il1 qX7_counts_20 ?_
    refine S_imul qX7_counts_21 ?_
    refine S_iald qX7_counts_22 a88 (K := ?_)
    rw [M.w88]
    refine S_dup2 (d := qX7_counts_23) (k := ?_)
    refine S_iald qX7_counts_24 a103 (K := ?_)
    refine S_iconst qX7_counts_25 ?_
    refine S_iadd qX7_counts_26 ?_
    refine S_iast qX7_counts_27 a103 (K := ?_)
    refine S_inc1 qX7_counts_28 (K := ?_)
    refine S_goto qX7_counts_31 ?_
    rw [upR_s, upR_u]
    exact ih (d + 1) _ (by omega) (by omega) hx
theorem m_counts {g : GC} {V : MM} {hs : HS} {s : FS} (M : FM V hs s) : Ct g mX7_counts 1 [vr 83] V (RW (upR V 103 (cntS s.2.2.2.2.2.1 s.1.toNat 0 (V 103)))) := by
  refine Ct.of (ls := [some (vr 83), none]) (plainFor_of_name (by decide +kernel)) rfl (by exact Nat.le_of_ble_eq_true rfl) (fun X hz hD => ?_)
  refine S_iconst qX7_counts_0 ?_
  refine S_is1 qX7_counts_1 (K := ?_)
  rw [← upR_id V 103]
  exact cnts_loop M hz (RW.mk rfl) s.1.toNat 0 (V 103) (by omega) (by have := M.2.2.2.1; omega) rfl

theorem mcr_f {g : GC} {X : CX} {V : MM} {m : Int} (hk : SW g X RX7 cX7_crowd 45 [some (vr 83), some (vi m), none, none] [] (upR V 103 (lz (V 103) 0 0 99))) : ∀ (n : Nat) (i : Int), 0 ≤ i → i + n = 99 → SW g X RX7 cX7_crowd 26 [some (vr 83), some (vi m), some (vi i), none] [] (upR V 103 (lz (V 103) 0 0 i)) := by
  intro n
  induction n with
  | zero =>
    intro i h0 h1
    have e : i = 99 := by omega
    subst e
    refine S_il2 qX7_crowd_26 ?_
    refine S_bipush (d := qX7_crowd_27) (k := ?_)
    refine S_icmp_ge (d := qX7_crowd_29) (kt := fun c29 => ?_) (kf := fun c29 => ?_)
    rotate_left
    · omega
    exact SW.forget 2 hk
  | succ n ih =>
    intro i h0 h1
    refine S_il2 qX7_crowd_26 ?_
    refine S_bipush (d := qX7_crowd_27) (k := ?_)
    refine S_icmp_ge (d := qX7_crowd_29) (kt := fun c29 => ?_) (kf := fun c29 => ?_)
    · omega
    refine S_al0 qX7_crowd_32 ?_
    refine S_getR qX7_crowd_33 fX7_102 e83_30 ?_
    refine S_il2 qX7_crowd_36 ?_
    refine S_iconst qX7_crowd_37 ?_
    refine S_iast qX7_crowd_38 a103 (K := ?_)
    refine S_inc2 qX7_crowd_39 (K := ?_)
    refine S_goto qX7_crowd_42 ?_
    rw [upR_s, upR_u, lz_1 _ h0 (by omega)]
    exact ih (i + 1) (by omega) (by omega)
theorem mcr_x {g : GC} {X : CX} {Q : Option AV → MM → Prop} {m xf : Int} {r : Int → Int} {V1 : MM} (hz : Fi g X (some .int) Q) (hr : ∀ i, 0 ≤ r i ∧ r i ≤ 1000) (hV : V1 103 = r) (hQ : Q (some (vi xf)) V1) : ∀ (n : Nat) (p b : Int), 1 ≤ p → p + n = 99 → (0 ≤ b ∧ b < 99) → mxS r n p b = xf → SW g X RX7 cX7_crowd 82 [some (vr 83), some (vi m), some (vi b), some (vi p)] [] V1 := by
  subst hV
  intro n
  induction n with
  | zero =>
    intro p b h0 h1 hb hx
    unfold mxS at hx
    subst hx
    refine S_il3 qX7_crowd_82 ?_
    refine S_bipush (d := qX7_crowd_83) (k := ?_)
    refine S_icmp_ge (d := qX7_crowd_85) (kt := fun c85 => ?_) (kf := fun c85 => ?_)
    rotate_left
    · omega
    refine S_il2 qX7_crowd_111 ?_
    refine S_iret hz qX7_crowd_112 ?_
    exact hQ
  | succ n ih =>
    intro p b h0 h1 hb hx
    unfold mxS at hx
    have r1 := hr p
    have r2 := hr b
    refine S_il3 qX7_crowd_82 ?_
    refine S_bipush (d := qX7_crowd_83) (k := ?_)
    refine S_icmp_ge (d := qX7_crowd_85) (kt := fun c85 => ?_) (kf := fun c85 => ?_)
    · omega
    refine S_al0 qX7_crowd_88 ?_
    refine S_getR qX7_crowd_89 fX7_102 e83_30 ?_
    refine S_il3 qX7_crowd_92 ?_
    refine S_iald qX7_crowd_93 a103 (K := ?_)
    refine S_al0 qX7_crowd_94 ?_
    refine S_getR qX7_crowd_95 fX7_102 e83_30 ?_
    refine S_il2 qX7_crowd_98 ?_
    refine S_iald qX7_crowd_99 a103 (K := ?_)
    refine S_icmp_le (d := qX7_crowd_100) (kt := fun c100 => ?_) (kf := fun c100 => ?_)
    · refine S_inc3 qX7_crowd_105 (K := ?_)
      refine S_goto qX7_crowd_108 ?_
      first | (rw [if_pos (by omega)] at hx; exact ih (p + 1) _ (by omega) (by omega) (by omega) hx) | (rw [if_neg (by omega)] at hx; exact ih (p + 1) _ (by omega) (by omega) (by omega) hx)
    · refine S_il3 qX7_crowd_103 ?_
      refine S_is2 qX7_crowd_104 (K := ?_)
      refine S_inc3 qX7_crowd_105 (K := ?_)
      refine S_goto qX7_crowd_108 ?_
      first | (rw [if_pos (by omega)] at hx; exact ih (p + 1) _ (by omega) (by omega) (by omega) hx) | (rw [if_neg (by omega)] at hx; exact ih (p + 1) _ (by omega) (by omega) (by omega) hx)
theorem mcr_l {g : GC} {X : CX} {Q : Option AV → MM → Prop} {V : MM} {Z : ZT} {m xf : Int} {rf : Int → Int} (hZ : MA V Z) (hz : Fi g X (some .int) Q) (hD : Dp X 8) (rm : 0 ≤ m ∧ m ≤ 40) (hmx : mxS rf 98 1 0 = xf) (hQ : ∀ V' r, Tm (upR V 103 r) V' → FM V' Z.2.1 Z.1 → Q (some (vi xf)) V') : ∀ (n : Nat) (i : Int) (r : Int → Int) (V1 : MM) (s1 : FS), 0 ≤ i → i + n = m → Tm (upR V 103 r) V1 → FM V1 Z.2.1 s1 → KM V1 Z.1 → Sk Z.1 s1 → (∀ j, 0 ≤ r j ∧ r j ≤ 6 * (i + 1)) → croS Z.2.1 n s1 r = rf → s1.2.1 + n ≤ 20000 → SW g X RX7 cX7_crowd 55 [some (vr 83), some (vi m), some (vi i), none] [] V1 := by
  obtain ⟨-, hI0, hn6, hbb, hwz, hkz⟩ := hZ.pf
  intro n
  induction n with
  | zero =>
    intro i r V1 s1 h0 h1 hT M K S hr hx hb
    have e3 : V1 103 = r := by rw [hT.1 103 (by omega) (by omega) (by omega) (by omega), upR_s]
    unfold croS at hx
    subst hx
    refine S_il2 qX7_crowd_55 ?_
    refine S_il1 qX7_crowd_56 ?_
    refine S_icmp_ge (d := qX7_crowd_57) (kt := fun c57 => ?_) (kf := fun c57 => ?_)
    rotate_left
    · omega
    refine S_al0 qX7_crowd_74 ?_
    refine S_V0V hD qX7_crowd_75 lX7_312 vX7_putBack r83 (m_putBack M K S hI0) (kk := fun V75 h75 => ?_)
    obtain ⟨M, hT75⟩ := h75
    have hT := hT.tr hT75
    refine S_iconst qX7_crowd_78 ?_
    refine S_is2 qX7_crowd_79 (K := ?_)
    refine S_iconst qX7_crowd_80 ?_
    refine S_is3 qX7_crowd_81 (K := ?_)
    exact mcr_x hz (fun j => by have := hr j; omega) (by rw [hT.1 103 (by omega) (by omega) (by omega) (by omega), upR_s]) (hQ _ r hT M) 98 1 0 (by omega) (by omega) (by omega) hmx
  | succ n ih =>
    intro i r V1 s1 h0 h1 hT M K S hr hx hb
    unfold croS at hx
    have hS1 := S.1
    refine S_il2 qX7_crowd_55 ?_
    refine S_il1 qX7_crowd_56 ?_
    refine S_icmp_ge (d := qX7_crowd_57) (kt := fun c57 => ?_) (kf := fun c57 => ?_)
    · omega
    refine S_al0 qX7_crowd_60 ?_
    refine S_V0V hD qX7_crowd_61 lX7_306 vX7_go r83 (m_go M (by omega)) (kk := fun V61 h61 => ?_)
    obtain ⟨M, hT61, hK61⟩ := h61
    have hT := hT.tr hT61
    have K := K.ke hK61
    refine S_al0 qX7_crowd_64 ?_
    refine S_V0W hD qX7_crowd_65 lX7_330 vX7_counts r83 (m_counts M) (K := ?_)
    refine S_inc2 qX7_crowd_68 (K := ?_)
    refine S_goto qX7_crowd_71 ?_
    have e3 : V61 103 = r := by rw [hT.1 103 (by omega) (by omega) (by omega) (by omega), upR_s]
    rw [e3]
    have hT2 := Tm103 hT (cntS (goS Z.2.1 false s1).2.2.2.2.2.1 (goS Z.2.1 false s1).1.toNat 0 r)
    rw [upR_u] at hT2
    refine SW.forget 3 (ih (i + 1) _ _ _ (by omega) (by omega) hT2 (FM103 M _) (K.ke ⟨by rw [upR_n _ (by omega)], upR_n _ (by omega), upR_n _ (by omega)⟩) (S.go Z.2.1 false) (fun j => ?_) hx (by show s1.2.1 + 1 + (n : Int) ≤ 20000; omega))
    have h5 := cnt_rg (goS Z.2.1 false s1).2.2.2.2.2.1 (goS Z.2.1 false s1).1.toNat 0 (6 * (i + 1)) r hr j
    have h6 : (goS Z.2.1 false s1).1 = s1.1 := rfl
    omega
theorem zero103 {V : MM} : ∀ k i, inR k i → upR V 103 (lz (V 103) 0 0 99) k i = upR V 103 (fun _ => 0) k i := by
  intro k i h
  by_cases e : k = 103
  · subst e
    have h2 := inR_a a103 h
    rw [upR_s, upR_s]
    unfold lz
    rw [if_pos (by omega)]
  · rw [upR_n _ e, upR_n _ e]

theorem m_crowd {g : GC} {V : MM} {Z : ZT} {m : Int} (hZ : MA V Z) (rm : -2147483648 ≤ m ∧ m ≤ 2147483647) : Ct g mX7_crowd 8 [vr 83, vi m] V (RM V (oCrowd Z m) Z) := by
  refine Ct.of (ls := [some (vr 83), some (vi m), none, none]) (plainFor_of_name (by decide +kernel)) rfl (by exact Nat.le_of_ble_eq_true rfl) (fun X hz hD => ?_)
  obtain ⟨M, hI0, hn6, hbb, hwz, hkz⟩ := hZ.pf
  have hT := Tm.rf V
  refine S_al0 qX7_crowd_0 ?_
  refine S_il1 qX7_crowd_1 ?_
  refine S_iconst qX7_crowd_2 ?_
  refine S_bipush (d := qX7_crowd_3) (k := ?_)
  refine S_V3B hD qX7_crowd_5 lX7_206 vX7_in r83 (m_in (by omega) (by omega) (by omega)) (kt := fun j5 => ?_) (kf := fun j5 => ?_)
  · refine S_if_ne (d := qX7_crowd_8) (kt := fun _ => ?_) (kf := fun c => absurd c (by decide))
    refine S_al0 qX7_crowd_14 ?_
    refine S_getI qX7_crowd_15 fX7_7 e83_0 ?_
    rw [M.n]
    refine S_if_ne (d := qX7_crowd_18) (kt := fun c18 => ?_) (kf := fun c18 => ?_)
    · refine S_iconst qX7_crowd_24 ?_
      refine S_is2 qX7_crowd_25 (K := ?_)
      rw [← upR_id V 103, ← lz_0 (V 103) 0 0]
      refine mcr_f ?_ 99 0 (by omega) (by omega)
      refine SW.castR ?_ zero103
      have hT := Tm103 hT (fun _ => 0)
      have M := FM103 M (fun _ => 0)
      refine S_al0 qX7_crowd_45 ?_
      refine S_V0V hD qX7_crowd_46 lX7_309 vX7_save r83 (m_save M) (kk := fun V46 h46 => ?_)
      obtain ⟨M, hT46, K⟩ := h46
      have hT := hT.tr hT46
      refine S_al0 qX7_crowd_49 ?_
      refine S_V0W hD qX7_crowd_50 lX7_330 vX7_counts r83 (m_counts M) (K := ?_)
      refine S_iconst qX7_crowd_53 ?_
      refine S_is2 qX7_crowd_54 (K := ?_)
      have e3 : V46 103 = fun _ => 0 := by rw [hT.1 103 (by omega) (by omega) (by omega) (by omega), upR_s]
      rw [e3]
      have hT2 := Tm103 hT (cntS Z.1.2.2.2.2.2.1 Z.1.1.toNat 0 (fun _ => 0))
      rw [upR_u] at hT2
      refine mcr_l (rf := croS Z.2.1 m.toNat Z.1 (cntS Z.1.2.2.2.2.2.1 Z.1.1.toNat 0 (fun _ => 0))) hZ hz hD (by omega) rfl (fun V' r p q => ?_) m.toNat 0 _ _ _ (by omega) (by omega) hT2 (FM103 M _) (K.ke ⟨by rw [upR_n _ (by omega)], upR_n _ (by omega), upR_n _ (by omega)⟩) (Sk.rf _) (fun j => ?_) rfl (by omega)
      · have h5 := (MA103 hZ r).tm p q hZ.1.2 (Int.le_refl _)
        refine ⟨?_, h5, fun k hk => by rw [p.lo k hk, upR_n _ (by omega)]⟩
        unfold oCrowd
        rw [if_neg (by omega), if_neg (by omega)]
      · have h5 := cnt_rg Z.1.2.2.2.2.2.1 Z.1.1.toNat 0 0 (fun _ => 0) (fun _ => ⟨Int.le_refl _, Int.le_refl _⟩) j
        omega
    · refine S_bipush (d := qX7_crowd_21) (k := ?_)
      refine S_iret hz qX7_crowd_23 ?_
      refine RM.same hZ ?_
      unfold oCrowd
      first | (rw [if_pos (by omega)]; done) | (rw [if_neg (by omega), if_pos (by omega)]; done) | (rw [if_neg (by omega), if_neg (by omega), if_pos (by omega)]; done)
  · refine S_if_ne (d := qX7_crowd_8) (kt := fun c => absurd c (by decide)) (kf := fun _ => ?_)
    refine S_bipush (d := qX7_crowd_11) (k := ?_)
    refine S_iret hz qX7_crowd_13 ?_
    refine RM.same hZ ?_
    unfold oCrowd
    first | (rw [if_pos (by omega)]; done) | (rw [if_neg (by omega), if_pos (by omega)]; done) | (rw [if_neg (by omega), if_neg (by omega), if_pos (by omega)]; done)
