/-- where each is behind a beat; b: all stand -/
def wasB (hs : HS) (b : Bool) (s : FS) : Int → Int := fun i => if 0 ≤ i ∧ i < 8 * s.1 then (if i % 8 = 0 then (if b then s.2.2.2.2.2.1 i else goesS hs s (i / 8)) else s.2.2.2.2.2.1 (i - 1)) else s.2.2.2.2.2.1 i
theorem wasB_eq (hs : HS) (stop : Bool) (s : FS) : wasS hs stop s = wasB hs (stop || stopS hs s) s := rfl
def nxB (hs : HS) (b : Bool) (s : FS) (d : Int) : Int := if b then s.2.2.2.2.2.1 (8 * d) else goesS hs s d
def nxLB (hs : HS) (b : Bool) (s : FS) (r : Int → Int) (d : Int) : Int → Int := fun i => if 0 ≤ i ∧ i < d then nxB hs b s i else r i
theorem nxLB_1 (hs : HS) (b : Bool) (s : FS) (r : Int → Int) {d x : Int} (h : 0 ≤ d) (hx : x = nxB hs b s d) : ur (nxLB hs b s r d) d x = nxLB hs b s r (d + 1) := by
  funext i
  subst hx
  unfold ur nxLB
  by_cases h1 : i = d
  · subst h1; rw [if_pos rfl, if_pos (by omega)]
  · rw [if_neg h1]
    by_cases h2 : 0 ≤ i ∧ i < d
    · rw [if_pos h2, if_pos (by omega)]
    · rw [if_neg h2, if_neg (by omega)]
def shR (r : Int → Int) (a k : Int) : Int → Int := fun i => if a + k + 1 ≤ i ∧ i < a + 8 then r (i - 1) else r i
theorem shR_7 (r : Int → Int) (a : Int) : shR r a 7 = r := by
  funext i
  unfold shR
  rw [if_neg (by omega)]
theorem shR_1 (r : Int → Int) {a k j x : Int} (hk : 0 < k ∧ k ≤ 7) (hj : j = a + k) (hx : x = shR r a k (a + k - 1)) : ur (shR r a k) j x = shR r a (k + -1) := by
  funext i
  have e : shR r a k (a + k - 1) = r (a + k - 1) := by unfold shR; rw [if_neg (by omega)]
  subst hj hx
  rw [e]
  unfold ur shR
  by_cases h1 : i = a + k
  · rw [if_pos h1, if_pos (by omega), h1]
  · rw [if_neg h1]
    by_cases h2 : a + k + 1 ≤ i ∧ i < a + 8
    · rw [if_pos h2, if_pos (by omega)]
    · rw [if_neg h2, if_neg (by omega)]
theorem shR_0 (r : Int → Int) (a : Int) : shR r a 0 = cpS r r a (a + 1) 7 := by
  funext i
  unfold shR cpS
  by_cases h2 : a + 0 + 1 ≤ i ∧ i < a + 8
  · rw [if_pos h2, if_pos (by omega)]
    exact congrArg _ (by omega)
  · rw [if_neg h2, if_neg (by omega)]
/-- a beat of the reference's floor; going row changed only on its range -/
def beatB (hs : HS) (b : Bool) (s : FS) : FS := (s.1, s.2.1 + 1, s.2.2.1, s.2.2.2.1, s.2.2.2.2.1, wasB hs b s, s.2.2.2.2.2.2)
theorem beatB_eq (hs : HS) (stop : Bool) (s : FS) : goS hs stop s = beatB hs (stop || stopS hs s) s := rfl
theorem beatB_inv {hs : HS} {s : FS} (b : Bool) (hI : FInv hs.1 s) (hw : 1 ≤ hs.1) (hb : s.2.1 < 20000) : FInv hs.1 (beatB hs b s) := by
  obtain ⟨h1, h2, h3, h4, h5, h6⟩ := id hI
  refine ⟨h1, ?_, h3, h4, fun i hi => ?_, h6⟩
  · show 0 ≤ s.2.1 + 1 ∧ s.2.1 + 1 ≤ 20000
    omega
  · show 0 ≤ wasB hs b s i ∧ wasB hs b s i < hs.1
    unfold wasB
    by_cases c1 : 0 ≤ i ∧ i < 8 * s.1
    · rw [if_pos c1]
      by_cases c2 : i % 8 = 0
      · rw [if_pos c2]
        cases b
        · exact goes_rg s (i / 8) hw
        · exact h5 i hi
      · rw [if_neg c2]
        exact h5 (i - 1) (by omega)
    · rw [if_neg c1]
      exact h5 i hi
/-- passing changes: the floor's beat and places, what is kept, scratch -/
def Tm (V V' : MM) : Prop := (∀ k : Nat, k ≠ 83 → k ≠ 86 → k ≠ 88 → k < 98 ∨ 103 ≤ k → V' k = V k) ∧ ∀ j : Int, j ≠ 1 → j ≠ 27 → V' 83 j = V 83 j
theorem Tm.rf (V : MM) : Tm V V := ⟨fun _ _ _ _ _ => rfl, fun _ _ _ => rfl⟩
theorem Tm.tr {V V1 V2 : MM} (h : Tm V V1) (h2 : Tm V1 V2) : Tm V V2 := ⟨fun k a b c d => (h2.1 k a b c d).trans (h.1 k a b c d), fun j a b => (h2.2 j a b).trans (h.2 j a b)⟩
theorem Og.tm {V V' : MM} (h : Og V V') : Tm V V' := ⟨fun k a b c d => h k (by omega) (by omega) (by omega), fun j a b => by rw [h 83 (by omega) (by omega) (by omega)]⟩
/-- the floor after such a change -/
theorem FM.mk2 {V V' : MM} {hs : HS} {s s' : FS} (M : FM V hs s) (hT : Tm V V') (e : s' = fsM V') (hI : FInv hs.1 s') : FM V' hs s' := by
  have e8 := hT.2 8 (by omega) (by omega)
  have hc := hsT_c (V := V) (V' := V') (t := V 83 8) (fun k a b => hT.1 k (by omega) (by omega) (by omega) (by omega))
  exact ⟨e, by rw [e8, hc.1]; exact M.2.1, by rw [e8]; exact hc.2 M.2.2.1, hI⟩
/-- what is kept -/
def KM (V : MM) (s : FS) : Prop := V 83 27 = s.2.1 ∧ (∀ i : Int, 0 ≤ i ∧ i < 48 → V 101 i = s.2.2.2.2.2.1 i) ∧ ∀ i : Int, 0 ≤ i ∧ i < 6 → V 102 i = s.2.2.2.2.1 i
def Ke (V V' : MM) : Prop := V' 83 27 = V 83 27 ∧ V' 101 = V 101 ∧ V' 102 = V 102
theorem KM.ke {V V' : MM} {s : FS} (h : KM V s) (h2 : Ke V V') : KM V' s := by
  obtain ⟨a, b, c⟩ := h2
  unfold KM
  rw [a, b, c]
  exact h

theorem mb_in {g : GC} {X : CX} {V : MM} {hs : HS} {z d : Int} {r : Int → Int} (hd : 0 ≤ d ∧ d < 6) (hk : SW g X RX7 cX7_goBeat 90 [some (vr 83), some (vi z), some (vi d), none] [] (upR V 88 (cpS r r (8 * d) (8 * d + 1) 7))) : ∀ (n : Nat) (k : Int), k = n → k ≤ 7 → SW g X RX7 cX7_goBeat 56 [some (vr 83), some (vi z), some (vi d), some (vi k)] [] (upR V 88 (shR r (8 * d) k)) := by
  intro n
  induction n with
  | zero =>
    intro k h0 h1
    have e : k = 0 := by omega
    subst e
    rw [shR_0]
    refine S_il3 qX7_goBeat_56 ?_
    refine S_if_le (d := qX7_goBeat_57) (kt := fun c57 => ?_) (kf := fun c57 => ?_)
    rotate_left
    · omega
    exact SW.forget 3 hk
  | succ n ih =>
    intro k h0 h1
    refine S_il3 qX7_goBeat_56 ?_
    refine S_if_le (d := qX7_goBeat_57) (kt := fun c57 => ?_) (kf := fun c57 => ?_)
    · omega
    refine S_al0 qX7_goBeat_60 ?_
    refine S_getR qX7_goBeat_61 fX7_29 e83_6 ?_
    refine S_bipush (d := qX7_goBeat_64) (k := ?_)
    refine S_il2 qX7_goBeat_66 ?_
    refine S_imul qX7_goBeat_67 ?_
    refine S_il3 qX7_goBeat_68 ?_
    refine S_iadd qX7_goBeat_69 ?_
    refine S_al0 qX7_goBeat_70 ?_
    refine S_getR qX7_goBeat_71 fX7_29 e83_6 ?_
    refine S_bipush (d := qX7_goBeat_74) (k := ?_)
    refine S_il2 qX7_goBeat_76 ?_
    refine S_imul qX7_goBeat_77 ?_
    refine S_il3 qX7_goBeat_78 ?_
    refine S_iadd qX7_goBeat_79 ?_
    refine S_iconst qX7_goBeat_80 ?_
    refine S_isub qX7_goBeat_81 ?_
    refine S_iald qX7_goBeat_82 a88 (K := ?_)
    refine S_iast qX7_goBeat_83 a88 (K := ?_)
    refine S_inc3 qX7_goBeat_84 (K := ?_)
    refine S_goto qX7_goBeat_87 ?_
    rw [upR_s, upR_u, shR_1 _ (by omega) rfl rfl]
    exact ih (k + -1) (by omega) (by omega)
theorem mb_l2 {g : GC} {X : CX} {Q : Option AV → MM → Prop} {V W : MM} {hs : HS} {s : FS} {z : Int} {b : Bool} (M0 : FM V hs s) (hz : Fi g X none Q) (hb : s.2.1 < 20000) (hO : Og V W) (hW : W 100 = nxLB hs b s (V 100) s.1) (hQ : Q none (upR (upR W 88 (wasB hs b s)) 83 (ur (W 83) 1 (s.2.1 + 1)))) : ∀ (n : Nat) (d : Int), 0 ≤ d → d + n = s.1 → SW g X RX7 cX7_goBeat 45 [some (vr 83), some (vi z), some (vi d), none] [] (upR W 88 (waL (nxLB hs b s (V 100) s.1) s.2.2.2.2.2.1 d)) := by
  have hI := M0.2.2.2
  have hn6 := hI.1
  have hbb := hI.2.1
  have M := M0.og hO
  intro n
  induction n with
  | zero =>
    intro d h0 h1
    have e83 : upR W 88 (waL (nxLB hs b s (V 100) s.1) s.2.2.2.2.2.1 d) 83 = W 83 := upR_n _ (by omega)
    refine S_il2 qX7_goBeat_45 ?_
    refine S_al0 qX7_goBeat_46 ?_
    refine S_getI qX7_goBeat_47 fX7_7 e83_0 ?_
    rw [e83, M.n]
    refine S_icmp_ge (d := qX7_goBeat_50) (kt := fun c50 => ?_) (kf := fun c50 => ?_)
    rotate_left
    · omega
    refine S_al0 qX7_goBeat_111 ?_
    refine S_dup (d := qX7_goBeat_112) (k := ?_)
    refine S_getI qX7_goBeat_113 fX7_13 e83_1 ?_
    rw [e83, M.b]
    refine S_iconst qX7_goBeat_116 ?_
    refine S_iadd qX7_goBeat_117 ?_
    refine S_putI qX7_goBeat_118 fX7_13 e83_1 tX7_1 ?_
    refine S_vret hz qX7_goBeat_121 ?_
    have hd : d = s.1 := by omega
    subst hd
    have e : waL (nxLB hs b s (V 100) s.1) s.2.2.2.2.2.1 s.1 = wasB hs b s := by
      funext i
      unfold waL wasB
      by_cases h3 : 0 ≤ i ∧ i < 8 * s.1
      · rw [if_pos h3, if_pos h3]
        by_cases h4 : i % 8 = 0
        · rw [if_pos h4, if_pos h4]
          unfold nxLB nxB
          rw [if_pos (by omega), show 8 * (i / 8) = i by omega]
        · rw [if_neg h4, if_neg h4]
      · rw [if_neg h3, if_neg h3]
    rw [e83, e]
    exact hQ
  | succ n ih =>
    intro d h0 h1
    have e83 : upR W 88 (waL (nxLB hs b s (V 100) s.1) s.2.2.2.2.2.1 d) 83 = W 83 := upR_n _ (by omega)
    refine S_il2 qX7_goBeat_45 ?_
    refine S_al0 qX7_goBeat_46 ?_
    refine S_getI qX7_goBeat_47 fX7_7 e83_0 ?_
    rw [e83, M.n]
    refine S_icmp_ge (d := qX7_goBeat_50) (kt := fun c50 => ?_) (kf := fun c50 => ?_)
    · omega
    refine S_bipush (d := qX7_goBeat_53) (k := ?_)
    refine S_is3 qX7_goBeat_55 (K := ?_)
    rw [← shR_7 (waL (nxLB hs b s (V 100) s.1) s.2.2.2.2.2.1 d) (8 * d)]
    refine mb_in (hs := hs) (by omega) ?_ 7 7 rfl (by omega)
    have e100 : upR W 88 (cpS (waL (nxLB hs b s (V 100) s.1) s.2.2.2.2.2.1 d) (waL (nxLB hs b s (V 100) s.1) s.2.2.2.2.2.1 d) (8 * d) (8 * d + 1) 7) 100 = nxLB hs b s (V 100) s.1 := by rw [upR_n _ (by omega), hW]
    refine S_al0 qX7_goBeat_90 ?_
    refine S_getR qX7_goBeat_91 fX7_29 e83_6 ?_
    refine S_bipush (d := qX7_goBeat_94) (k := ?_)
    refine S_il2 qX7_goBeat_96 ?_
    refine S_imul qX7_goBeat_97 ?_
    refine S_al0 qX7_goBeat_98 ?_
    refine S_getR qX7_goBeat_99 fX7_90 e83_26 ?_
    refine S_il2 qX7_goBeat_102 ?_
    refine S_iald qX7_goBeat_103 a100 (K := ?_)
    rw [e100]
    refine S_iast qX7_goBeat_104 a88 (K := ?_)
    refine S_inc2 qX7_goBeat_105 (K := ?_)
    refine S_goto qX7_goBeat_108 ?_
    rw [upR_s, upR_u, waL_1 _ _ h0 rfl]
    exact ih (d + 1) (by omega) (by omega)
theorem mb_l1 {g : GC} {X : CX} {Q : Option AV → MM → Prop} {V : MM} {hs : HS} {s : FS} {b : Bool} (M0 : FM V hs s) (hz : Fi g X none Q) (hD : Dp X 6) (hb : s.2.1 < 20000) (hQ : ∀ W, Og V W → Q none (upR (upR W 88 (wasB hs b s)) 83 (ur (W 83) 1 (s.2.1 + 1)))) : ∀ (n : Nat) (d : Int) (W : MM), 0 ≤ d → d + n = s.1 → Og V W → W 100 = nxLB hs b s (V 100) d → SW g X RX7 cX7_goBeat 2 [some (vr 83), some (vi (b2i b)), some (vi d), none] [] W := by
  have hI := M0.2.2.2
  have hn6 := hI.1
  have hbc := b2i_c b
  intro n
  induction n with
  | zero =>
    intro d W h0 h1 hO hW
    have M := M0.og hO
    have hd : d = s.1 := by omega
    subst hd
    refine S_il2 qX7_goBeat_2 ?_
    refine S_al0 qX7_goBeat_3 ?_
    refine S_getI qX7_goBeat_4 fX7_7 e83_0 ?_
    rw [M.n]
    refine S_icmp_ge (d := qX7_goBeat_7) (kt := fun c7 => ?_) (kf := fun c7 => ?_)
    rotate_left
    · omega
    refine S_iconst qX7_goBeat_43 ?_
    refine S_is2 qX7_goBeat_44 (K := ?_)
    have e : upR W 88 (waL (nxLB hs b s (V 100) s.1) s.2.2.2.2.2.1 0) = W := by
      have e2 : waL (nxLB hs b s (V 100) s.1) s.2.2.2.2.2.1 0 = W 88 := by
        rw [M.w88]
        funext i
        unfold waL
        rw [if_neg (by omega)]
      rw [e2, upR_id]
    have h5 := mb_l2 (z := b2i b) M0 hz hb hO hW (hQ W hO) s.1.toNat 0 (by omega) (by omega)
    rw [e] at h5
    exact h5
  | succ n ih =>
    intro d W h0 h1 hO hW
    have M := M0.og hO
    have w0 := hI.2.2.2.2.1 (8 * d) (by omega)
    refine S_il2 qX7_goBeat_2 ?_
    refine S_al0 qX7_goBeat_3 ?_
    refine S_getI qX7_goBeat_4 fX7_7 e83_0 ?_
    rw [M.n]
    refine S_icmp_ge (d := qX7_goBeat_7) (kt := fun c7 => ?_) (kf := fun c7 => ?_)
    · omega
    refine S_al0 qX7_goBeat_10 ?_
    refine S_getR qX7_goBeat_11 fX7_90 e83_26 ?_
    refine S_il2 qX7_goBeat_14 ?_
    refine S_il1 qX7_goBeat_15 ?_
    refine S_if_eq (d := qX7_goBeat_16) (kt := fun c16 => ?_) (kf := fun c16 => ?_)
    · refine S_al0 qX7_goBeat_31 ?_
      refine S_il2 qX7_goBeat_32 ?_
      refine S_V1I hD qX7_goBeat_33 lX7_290 vX7_goes r83 (m_goes M (by omega)) (kk := fun z33 V33 h33 => ?_)
      obtain ⟨rfl, hO33⟩ := h33
      have hO := hO.tr hO33.og
      have M := M.om hO33
      have hW := (hO33 100 (by decide) (by decide) (by decide)).trans hW
      refine S_iast qX7_goBeat_36 a100 (K := ?_)
      refine S_inc2 qX7_goBeat_37 (K := ?_)
      refine S_goto qX7_goBeat_40 ?_
      refine ih (d + 1) _ (by omega) (by omega) (hO.tr (fun k p q r => upR_n _ r)) ?_
      rw [upR_s, hW]
      refine nxLB_1 _ _ _ _ h0 ?_
      unfold nxB
      cases b
      · first | rfl | (exact absurd rfl c16) | (exact absurd c16 (by decide))
      · first | rfl | (exact absurd rfl c16) | (exact absurd c16 (by decide))
    · refine S_al0 qX7_goBeat_19 ?_
      refine S_getR qX7_goBeat_20 fX7_29 e83_6 ?_
      refine S_bipush (d := qX7_goBeat_23) (k := ?_)
      refine S_il2 qX7_goBeat_25 ?_
      refine S_imul qX7_goBeat_26 ?_
      refine S_iald qX7_goBeat_27 a88 (K := ?_)
      rw [M.w88]
      refine S_goto qX7_goBeat_28 ?_
      refine S_iast qX7_goBeat_36 a100 (K := ?_)
      refine S_inc2 qX7_goBeat_37 (K := ?_)
      refine S_goto qX7_goBeat_40 ?_
      refine ih (d + 1) _ (by omega) (by omega) (hO.tr (fun k p q r => upR_n _ r)) ?_
      rw [upR_s, hW]
      refine nxLB_1 _ _ _ _ h0 ?_
      unfold nxB
      cases b
      · first | rfl | (exact absurd rfl c16) | (exact absurd c16 (by decide))
      · first | rfl | (exact absurd rfl c16) | (exact absurd c16 (by decide))
theorem m_goBeat {g : GC} {V : MM} {hs : HS} {s : FS} (b : Bool) (M : FM V hs s) (hb : s.2.1 < 20000) : Ct g mX7_goBeat 6 [vr 83, vi (b2i b)] V (RV (fun V' => FM V' hs (beatB hs b s) ∧ Tm V V' ∧ Ke V V')) := by
  refine Ct.of (ls := [some (vr 83), some (vi (b2i b)), none, none]) (plainFor_of_name (by decide +kernel)) rfl (by exact Nat.le_of_ble_eq_true rfl) (fun X hz hD => ?_)
  refine S_iconst qX7_goBeat_0 ?_
  refine S_is2 qX7_goBeat_1 (K := ?_)
  refine mb_l1 M hz hD hb (fun W hO => ⟨rfl, ?_⟩) s.1.toNat 0 V (by omega) (by have := M.2.2.2.1; omega) (Og.rf V) ?_
  · have M2 := M.og hO
    generalize hX : upR (upR W 88 (wasB hs b s)) 83 (ur (W 83) 1 (s.2.1 + 1)) = X2
    have x83 : X2 83 = ur (W 83) 1 (s.2.1 + 1) := by rw [← hX, upR_s]
    have x88 : X2 88 = wasB hs b s := by rw [← hX, upR_n _ (by omega), upR_s]
    have xk : ∀ k : Nat, k ≠ 83 → k ≠ 88 → X2 k = W k := fun k p q => by rw [← hX, upR_n _ p, upR_n _ q]
    have w83 : W 83 = V 83 := hO 83 (by omega) (by omega) (by omega)
    have hT : Tm V X2 := ⟨fun k a b c d => by rw [xk k a c, hO k (by omega) (by omega) (by omega)], fun j p q => by rw [x83, ur_n _ p, w83]⟩
    refine ⟨M.mk2 hT ?_ (beatB_inv b M.2.2.2 M.hw.1.1 hb), hT, by rw [x83, ur_n _ (by omega), w83], by rw [xk 101 (by omega) (by omega), hO 101 (by omega) (by omega) (by omega)], by rw [xk 102 (by omega) (by omega), hO 102 (by omega) (by omega) (by omega)]⟩
    show beatB hs b s = (X2 83 0, X2 83 1, X2 84, X2 85, X2 86, X2 88, X2 87)
    rw [x83, ur_n _ (show (0 : Int) ≠ 1 by omega), ur_s, x88, xk 84 (by omega) (by omega), xk 85 (by omega) (by omega), xk 86 (by omega) (by omega), xk 87 (by omega) (by omega), M2.n, M2.w84, M2.w85, M2.w86, M2.w87]
    rfl
  · funext i
    unfold nxLB
    rw [if_neg (by omega)]

theorem b2i_1 : (1 : Int) = b2i true := rfl
theorem b2i_0 : (0 : Int) = b2i false := rfl
theorem m_beat1 {g : GC} {V : MM} {hs : HS} {s : FS} (M : FM V hs s) (hb : s.2.1 < 20000) : Ct g mX7_goBeat 6 [vr 83, vi 1] V (RV (fun V' => FM V' hs (goS hs true s) ∧ Tm V V' ∧ Ke V V')) := by
  have h := m_goBeat (g := g) true M hb
  rw [beatB_eq, Bool.true_or]
  exact h

theorem m_go {g : GC} {V : MM} {hs : HS} {s : FS} (M : FM V hs s) (hb : s.2.1 < 20000) : Ct g mX7_go 7 [vr 83] V (RV (fun V' => FM V' hs (goS hs false s) ∧ Tm V V' ∧ Ke V V')) := by
  refine Ct.of (ls := [some (vr 83)]) (plainFor_of_name (by decide +kernel)) rfl (by exact Nat.le_of_ble_eq_true rfl) (fun X hz hD => ?_)
  have hw := M.hw.2
  have hI := M.2.2.2
  have hbb := hI.2.1
  have j1 := stop_j (hs := hs) (s := s)
  rw [beatB_eq, Bool.false_or] at hz
  refine S_al0 qX7_go_0 ?_
  refine S_al0 qX7_go_1 ?_
  refine S_V0E hD qX7_go_2 lX7_293 vX7_skip r83 (m_skip M) (K := ?_)
  refine S_if_le (d := qX7_go_5) (kt := fun c5 => ?_) (kf := fun c5 => ?_)
  · refine S_iconst qX7_go_26 ?_
    refine S_V1V hD qX7_go_27 lX7_299 vX7_goBeat r83 (m_goBeat false M (by omega)) (kk := fun V27 h27 => ?_)
    refine S_vret hz qX7_go_30 ?_
    refine ⟨rfl, ?_⟩
    have ej : stopS hs s = true ∨ stopS hs s = false := by cases stopS hs s <;> simp
    rcases ej with ej | ej
    · have j2 := j1.mp ej
      first | (rw [ej]; exact h27) | (exfalso; omega)
    · first
        | (rw [ej]; exact h27)
        | (exfalso; have j3 : stopS hs s = true := j1.mpr ⟨by omega, by omega⟩; rw [ej] at j3; cases j3)
  · refine S_al0 qX7_go_8 ?_
    refine S_getI qX7_go_9 fX7_13 e83_1 ?_
    rw [M.b]
    refine S_iconst qX7_go_12 ?_
    refine S_iadd qX7_go_13 ?_
    refine S_al0 qX7_go_14 ?_
    refine S_V0E hD qX7_go_15 lX7_293 vX7_skip r83 (m_skip M) (K := ?_)
    refine S_irem (d := qX7_go_18) (k := ?_)
    refine S_if_ne (d := qX7_go_19) (ha := by have := Int.emod_nonneg (s.2.1 + 1) (show hs.2.1 ≠ 0 by omega); have := Int.emod_lt_of_pos (s.2.1 + 1) (show 0 < hs.2.1 by omega); omega) (kt := fun c19 => ?_) (kf := fun c19 => ?_)
    · refine S_iconst qX7_go_26 ?_
      refine S_V1V hD qX7_go_27 lX7_299 vX7_goBeat r83 (m_goBeat false M (by omega)) (kk := fun V27 h27 => ?_)
      refine S_vret hz qX7_go_30 ?_
      refine ⟨rfl, ?_⟩
      have ej : stopS hs s = true ∨ stopS hs s = false := by cases stopS hs s <;> simp
      rcases ej with ej | ej
      · have j2 := j1.mp ej
        first | (rw [ej]; exact h27) | (exfalso; omega)
      · first
          | (rw [ej]; exact h27)
          | (exfalso; have j3 : stopS hs s = true := j1.mpr ⟨by omega, by omega⟩; rw [ej] at j3; cases j3)
    · refine S_iconst qX7_go_22 ?_
      refine S_goto qX7_go_23 ?_
      refine S_V1V hD qX7_go_27 lX7_299 vX7_goBeat r83 (m_goBeat true M (by omega)) (kk := fun V27 h27 => ?_)
      refine S_vret hz qX7_go_30 ?_
      refine ⟨rfl, ?_⟩
      have ej : stopS hs s = true ∨ stopS hs s = false := by cases stopS hs s <;> simp
      rcases ej with ej | ej
      · have j2 := j1.mp ej
        first | (rw [ej]; exact h27) | (exfalso; omega)
      · first
          | (rw [ej]; exact h27)
          | (exfalso; have j3 : stopS hs s = true := j1.mpr ⟨by omega, by omega⟩; rw [ej] at j3; cases j3)
