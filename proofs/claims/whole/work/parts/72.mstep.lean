/-- from a base: signs from g0 on, what waits, where clause c ends have changed -/
def Pe (V V' : MM) (c g0 : Int) : Prop := (∀ k : Nat, k ≠ 83 → k ≠ 94 → k ≠ 95 → k ≠ 96 → V' k = V k) ∧ (∀ j : Int, j ≠ 10 → j ≠ 11 → j ≠ 20 → j ≠ 21 → j ≠ 22 → V' 83 j = V 83 j) ∧ (∀ i : Int, i < g0 → V' 95 i = V 95 i) ∧ ∀ i : Int, i ≠ c → V' 94 i = V 94 i
theorem Pe.rf (V : MM) (c g0 : Int) : Pe V V c g0 := ⟨fun _ _ _ _ _ => rfl, fun _ _ _ _ _ _ => rfl, fun _ _ => rfl, fun _ _ => rfl⟩
theorem Pe.tr {V V1 V2 : MM} {c g0 : Int} (h : Pe V V1 c g0) (h2 : Pe V1 V2 c g0) : Pe V V2 c g0 := ⟨fun k a b c d => (h2.1 k a b c d).trans (h.1 k a b c d), fun j a b c d e => (h2.2.1 j a b c d e).trans (h.2.1 j a b c d e), fun i a => (h2.2.2.1 i a).trans (h.2.2.1 i a), fun i a => (h2.2.2.2 i a).trans (h.2.2.2 i a)⟩
theorem Pf.pe {V V' : MM} {g0 : Int} (h : Pf V V' g0) (c : Int) : Pe V V' c g0 := ⟨fun k a b c d => h.1 k a c d, h.2.1, h.2.2, fun i a => by rw [h.1 94 (by omega) (by omega) (by omega)]⟩
def TG (V0 : MM) (T : Int → Int) (L f c g0 : Int) (V : MM) (s : ST) (w : List Int) : Prop := TS V T L f s w ∧ Pe V0 V c g0 ∧ g0 ≤ 100 * f + s.2.1 ∧ RInv s
theorem TG.ok {V0 : MM} {T : Int → Int} {L f c g0 : Int} {V : MM} {s : ST} {w : List Int} (h : TG V0 T L f c g0 V s w) : OKs s := ⟨h.2.2.2, by have := h.1.2.2.2.2.2.2.1; omega⟩
theorem popW_p : ∀ (w : List Int) (s : ST), (popW w s).1.1 = s.1 ∧ s.2.1 ≤ (popW w s).1.2.1 := by
  intro w
  induction w with
  | nil => intro s; exact ⟨rfl, Int.le_refl _⟩
  | cons t w ih =>
    intro s
    unfold popW
    split
    · have h := ih (addS (-1) s)
      have h2 := mo_ad (-1) s
      have h3 : (addS (-1) s).1 = s.1 := by unfold addS; split <;> rfl
      omega
    · exact ⟨rfl, Int.le_refl _⟩
theorem popW_i : ∀ (w : List Int) (s : ST), RInv s → RInv (popW w s).1 := by
  intro w
  induction w with
  | nil => intro s h; exact h
  | cons t w ih =>
    intro s h
    unfold popW
    split
    · exact ih _ (ad_inv h (by omega))
    · exact h
theorem setW_p (b : Int) : ∀ (w : List Int) (s : ST), (setW b w s).1.1 = s.1 ∧ s.2.1 ≤ (setW b w s).1.2.1 := by
  intro w
  induction w with
  | nil => intro s; exact ⟨rfl, Int.le_refl _⟩
  | cons t w ih =>
    intro s
    unfold setW
    split
    · have h := ih (addS (if t = 38 then -2 else -3) s)
      have h2 := mo_ad (if t = 38 then -2 else -3) s
      have h3 : (addS (if t = 38 then -2 else -3) s).1 = s.1 := by unfold addS; split <;> rfl
      omega
    · exact ⟨rfl, Int.le_refl _⟩
theorem setW_i (b : Int) : ∀ (w : List Int) (s : ST), RInv s → RInv (setW b w s).1 := by
  intro w
  induction w with
  | nil => intro s h; exact h
  | cons t w ih =>
    intro s h
    unfold setW
    split
    · exact ih _ (ad_inv h (by split <;> omega))
    · exact h
theorem TG.ts {V0 : MM} {T : Int → Int} {L f c g0 : Int} {V V' : MM} {s s' : ST} {w w' : List Int} (h : TG V0 T L f c g0 V s w) (hT : TS V' T L f s' w') (hP : Pf V V' g0) (hs : s.2.1 ≤ s'.2.1) (hr : RInv s') : TG V0 T L f c g0 V' s' w' := ⟨hT, h.2.1.tr (hP.pe c), by have := h.2.2.1; omega, hr⟩

theorem step_w {g : GC} {X : CX} {Q : Option AV → MM → Prop} {V0 : MM} {T : Int → Int} {L f c g0 : Int} {V1 : MM} {s : ST} {w : List Int} (hc : 0 ≤ c ∧ c < 60) (hz : Fi g X (some .boolean) Q) (hD : Dp X 5) (hG : TG V0 T L f c g0 V1 s w) (ho : opn w ≤ 4)
    (k1 : (ahS T L s.1 = 33 ∨ ahS T L s.1 = 40) → opn w = 4 → ∀ V', V' 83 10 = s.1 → Pe V0 V' c g0 → Q (some (vi 0)) V')
    (k2 : ∀ b, (b = 33 ∨ b = 40) → ahS T L s.1 = b → opn w < 4 → ∀ V', TG V0 T L f c g0 V' (s.1 + 1, s.2) (b :: w) → SW g X RX7 cX7_takesE 22 [some (vr 83), some (vi c), some (vi 1), none] [] V')
    (k3 : ¬ (ahS T L s.1 = 33 ∨ ahS T L s.1 = 40) → (tsS T L s).1 = true → ∀ V', TG V0 T L f c g0 V' (popW w (tsS T L s).2).1 (popW w (tsS T L s).2).2 → SW g X RX7 cX7_takesE 22 [some (vr 83), some (vi c), some (vi 0), none] [] V')
    (k4 : ¬ (ahS T L s.1 = 33 ∨ ahS T L s.1 = 40) → (tsS T L s).1 = false → ∀ V', V' 83 10 = (tsS T L s).2.1 → Pe V0 V' c g0 → Q (some (vi 0)) V') : SW g X RX7 cX7_takesE 22 [some (vr 83), some (vi c), some (vi 1), none] [] V1 := by
  have hT := hG.1
  have hX := hT.1
  have hr := nxm_rg hX
  obtain ⟨⟨x1, x2, x3, x4, x5, x6⟩, h2, h3, h4, h5, h6, h7, h8, h9⟩ := id hT
  have n33 := nx_ah (T := T) (L := L) (p := s.1) (c := 33) x5.2 (by omega)
  have n40 := nx_ah (T := T) (L := L) (p := s.1) (c := 40) x5.2 (by omega)
  have nl := nx_lt (T := T) (L := L) (p := s.1)
  have hrg := opn_rg w
  have hg := hG.2.2.1
  have hri := hG.2.2.2
  refine S_al0 qX7_takesE_22 ?_
  refine S_V0E hD qX7_takesE_23 lX7_222 vX7_next r83 (m_next hX) (K := ?_)
  refine S_is3 qX7_takesE_26 (K := ?_)
  refine S_il2 qX7_takesE_27 ?_
  refine S_if_eq (d := qX7_takesE_28) (kt := fun c => absurd c (by decide)) (kf := fun _ => ?_)
  refine S_il3 qX7_takesE_31 ?_
  refine S_bipush (d := qX7_takesE_32) (k := ?_)
  refine S_icmp_eq (d := qX7_takesE_34) (kt := fun c34 => ?_) (kf := fun c34 => ?_)
  · refine S_al0 qX7_takesE_43 ?_
    refine S_getI qX7_takesE_44 fX7_77 e83_22 ?_
    refine S_iconst qX7_takesE_47 ?_
    refine S_icmp_ne (d := qX7_takesE_48) (kt := fun c48 => ?_) (kf := fun c48 => ?_)
    · refine S_al0 qX7_takesE_53 ?_
      refine S_dup (d := qX7_takesE_54) (k := ?_)
      refine S_getI qX7_takesE_55 fX7_77 e83_22 ?_
      refine S_iconst qX7_takesE_58 ?_
      rw [h6]
      refine S_iadd qX7_takesE_59 ?_
      refine S_putI qX7_takesE_60 fX7_77 e83_22 tX7_22 ?_
      refine S_al0 qX7_takesE_63 ?_
      refine S_getR qX7_takesE_64 fX7_68 e83_19 ?_
      refine S_al0 qX7_takesE_67 ?_
      refine S_getI qX7_takesE_68 fX7_74 e83_21 ?_
      simp only [upR_s, ur_n _ (show (21 : Int) ≠ 22 by decide), h4]
      refine S_il3 qX7_takesE_71 ?_
      refine S_iast qX7_takesE_72 a96 (K := ?_)
      refine S_al0 qX7_takesE_73 ?_
      refine S_dup (d := qX7_takesE_74) (k := ?_)
      refine S_getI qX7_takesE_75 fX7_74 e83_21 ?_
      refine S_iconst qX7_takesE_78 ?_
      refine S_iadd qX7_takesE_79 ?_
      refine S_putI qX7_takesE_80 fX7_74 e83_21 tX7_21 ?_
      refine S_al0 qX7_takesE_83 ?_
      refine S_dup (d := qX7_takesE_84) (k := ?_)
      refine S_getI qX7_takesE_85 fX7_41 e83_10 ?_
      refine S_iconst qX7_takesE_88 ?_
      refine S_iadd qX7_takesE_89 ?_
      refine S_putI qX7_takesE_90 fX7_41 e83_10 tX7_10 ?_
      refine S_goto qX7_takesE_93 ?_
      refine SW.forget 3 ?_
      first
        | (refine k3 (by omega) t97 _ (hG.ts hT97 hP97 ?_ ?_)
           · have h8 := popW_p w (tsS T L s).2
             have h9 := mo_ts (T := T) (L := L) s
             omega
           · exact popW_i _ _ (ts_inv hri))
        | (refine k2 (nxM T L s.1) (by omega) ((nx_ah x5.2 (by omega)).mp rfl) (by omega) _ ⟨hT.pu (by unfold wsg; omega) ?_ ?_ ?_ ?_ ?_ ?_ (by omega), hG.2.1.tr (Pf.pe ?_ c), hg, ⟨by show 0 ≤ s.1 + 1 ∧ s.1 + 1 ≤ 100; omega, hri.2⟩⟩
           · simp only [upR_s, upR_n _ (show (83 : Nat) ≠ 96 by decide), upR_n _ (show (96 : Nat) ≠ 83 by decide), ur_s, ur_n _ (show (21 : Int) ≠ 22 by decide), ur_n _ (show (10 : Int) ≠ 22 by decide), ur_n _ (show (10 : Int) ≠ 21 by decide), ur_n _ (show (22 : Int) ≠ 21 by decide), ur_n _ (show (22 : Int) ≠ 10 by decide), ur_n _ (show (21 : Int) ≠ 10 by decide)]
           · intro k a b
             rw [upR_n _ a, upR_n _ a, upR_n _ b, upR_n _ a]
           · simp only [upR_s, upR_n _ (show (83 : Nat) ≠ 96 by decide), upR_n _ (show (96 : Nat) ≠ 83 by decide), ur_s, ur_n _ (show (21 : Int) ≠ 22 by decide), ur_n _ (show (10 : Int) ≠ 22 by decide), ur_n _ (show (10 : Int) ≠ 21 by decide), ur_n _ (show (22 : Int) ≠ 21 by decide), ur_n _ (show (22 : Int) ≠ 10 by decide), ur_n _ (show (21 : Int) ≠ 10 by decide)]
             rw [x3]
           · simp only [upR_s, upR_n _ (show (83 : Nat) ≠ 96 by decide), upR_n _ (show (96 : Nat) ≠ 83 by decide), ur_s, ur_n _ (show (21 : Int) ≠ 22 by decide), ur_n _ (show (10 : Int) ≠ 22 by decide), ur_n _ (show (10 : Int) ≠ 21 by decide), ur_n _ (show (22 : Int) ≠ 21 by decide), ur_n _ (show (22 : Int) ≠ 10 by decide), ur_n _ (show (21 : Int) ≠ 10 by decide)]
             rw [h4]
           · simp only [upR_s, upR_n _ (show (83 : Nat) ≠ 96 by decide), upR_n _ (show (96 : Nat) ≠ 83 by decide), ur_s, ur_n _ (show (21 : Int) ≠ 22 by decide), ur_n _ (show (10 : Int) ≠ 22 by decide), ur_n _ (show (10 : Int) ≠ 21 by decide), ur_n _ (show (22 : Int) ≠ 21 by decide), ur_n _ (show (22 : Int) ≠ 10 by decide), ur_n _ (show (21 : Int) ≠ 10 by decide)]
             rw [if_pos (by omega)]
           · intro j a b d
             simp only [upR_s, upR_n _ (show (83 : Nat) ≠ 96 by decide), ur_n _ a, ur_n _ b, ur_n _ d]
           · exact ⟨fun k a b d => by rw [upR_n _ a, upR_n _ a, upR_n _ d, upR_n _ a], fun j a b d e q => by simp only [upR_s, upR_n _ (show (83 : Nat) ≠ 96 by decide), ur_n _ a, ur_n _ e, ur_n _ q], fun i a => by rw [upR_n _ (by omega), upR_n _ (by omega), upR_n _ (by omega), upR_n _ (by omega)]⟩)
    · refine S_iconst qX7_takesE_51 ?_
      refine S_zret hz qX7_takesE_52 (by omega) ?_
      exact k1 (by omega) (by omega) _ x3 hG.2.1
  · refine S_il3 qX7_takesE_37 ?_
    refine S_bipush (d := qX7_takesE_38) (k := ?_)
    refine S_icmp_ne (d := qX7_takesE_40) (kt := fun c40 => ?_) (kf := fun c40 => ?_)
    · refine S_al0 qX7_takesE_96 ?_
      refine S_V0I hD qX7_takesE_97 lX7_246 vX7_takesTest r83 (m_takesTest hT (by omega)) (kk := fun z97 V97 h97 => ?_)
      rcases h97 with ⟨rfl, t97, hT97, hP97⟩ | ⟨rfl, t97, q97, hP97⟩
      · refine S_if_eq (d := qX7_takesE_100) (kt := fun c => absurd c (by decide)) (kf := fun _ => ?_)
        refine S_iconst qX7_takesE_103 ?_
        refine S_is2 qX7_takesE_104 (K := ?_)
        refine S_goto qX7_takesE_105 ?_
        refine SW.forget 3 ?_
        first
          | (refine k3 (by omega) t97 _ (hG.ts hT97 hP97 ?_ ?_)
             · have h8 := popW_p w (tsS T L s).2
               have h9 := mo_ts (T := T) (L := L) s
               omega
             · exact popW_i _ _ (ts_inv hri))
          | (refine k2 (nxM T L s.1) (by omega) ((nx_ah x5.2 (by omega)).mp rfl) (by omega) _ ⟨hT.pu (by unfold wsg; omega) ?_ ?_ ?_ ?_ ?_ ?_ (by omega), hG.2.1.tr (Pf.pe ?_ c), hg, ⟨by show 0 ≤ s.1 + 1 ∧ s.1 + 1 ≤ 100; omega, hri.2⟩⟩
             · simp only [upR_s, upR_n _ (show (83 : Nat) ≠ 96 by decide), upR_n _ (show (96 : Nat) ≠ 83 by decide), ur_s, ur_n _ (show (21 : Int) ≠ 22 by decide), ur_n _ (show (10 : Int) ≠ 22 by decide), ur_n _ (show (10 : Int) ≠ 21 by decide), ur_n _ (show (22 : Int) ≠ 21 by decide), ur_n _ (show (22 : Int) ≠ 10 by decide), ur_n _ (show (21 : Int) ≠ 10 by decide)]
             · intro k a b
               rw [upR_n _ a, upR_n _ a, upR_n _ b, upR_n _ a]
             · simp only [upR_s, upR_n _ (show (83 : Nat) ≠ 96 by decide), upR_n _ (show (96 : Nat) ≠ 83 by decide), ur_s, ur_n _ (show (21 : Int) ≠ 22 by decide), ur_n _ (show (10 : Int) ≠ 22 by decide), ur_n _ (show (10 : Int) ≠ 21 by decide), ur_n _ (show (22 : Int) ≠ 21 by decide), ur_n _ (show (22 : Int) ≠ 10 by decide), ur_n _ (show (21 : Int) ≠ 10 by decide)]
               rw [x3]
             · simp only [upR_s, upR_n _ (show (83 : Nat) ≠ 96 by decide), upR_n _ (show (96 : Nat) ≠ 83 by decide), ur_s, ur_n _ (show (21 : Int) ≠ 22 by decide), ur_n _ (show (10 : Int) ≠ 22 by decide), ur_n _ (show (10 : Int) ≠ 21 by decide), ur_n _ (show (22 : Int) ≠ 21 by decide), ur_n _ (show (22 : Int) ≠ 10 by decide), ur_n _ (show (21 : Int) ≠ 10 by decide)]
               rw [h4]
             · simp only [upR_s, upR_n _ (show (83 : Nat) ≠ 96 by decide), upR_n _ (show (96 : Nat) ≠ 83 by decide), ur_s, ur_n _ (show (21 : Int) ≠ 22 by decide), ur_n _ (show (10 : Int) ≠ 22 by decide), ur_n _ (show (10 : Int) ≠ 21 by decide), ur_n _ (show (22 : Int) ≠ 21 by decide), ur_n _ (show (22 : Int) ≠ 10 by decide), ur_n _ (show (21 : Int) ≠ 10 by decide)]
               rw [if_pos (by omega)]
             · intro j a b d
               simp only [upR_s, upR_n _ (show (83 : Nat) ≠ 96 by decide), ur_n _ a, ur_n _ b, ur_n _ d]
             · exact ⟨fun k a b d => by rw [upR_n _ a, upR_n _ a, upR_n _ d, upR_n _ a], fun j a b d e q => by simp only [upR_s, upR_n _ (show (83 : Nat) ≠ 96 by decide), ur_n _ a, ur_n _ e, ur_n _ q], fun i a => by rw [upR_n _ (by omega), upR_n _ (by omega), upR_n _ (by omega), upR_n _ (by omega)]⟩)
      · refine S_if_eq (d := qX7_takesE_100) (kt := fun _ => ?_) (kf := fun c => absurd c (by decide))
        refine S_iconst qX7_takesE_108 ?_
        refine S_zret hz qX7_takesE_109 (by omega) ?_
        exact k4 (by omega) t97 _ q97 (hG.2.1.tr (hP97.pe c))
    · refine S_al0 qX7_takesE_43 ?_
      refine S_getI qX7_takesE_44 fX7_77 e83_22 ?_
      refine S_iconst qX7_takesE_47 ?_
      refine S_icmp_ne (d := qX7_takesE_48) (kt := fun c48 => ?_) (kf := fun c48 => ?_)
      · refine S_al0 qX7_takesE_53 ?_
        refine S_dup (d := qX7_takesE_54) (k := ?_)
        refine S_getI qX7_takesE_55 fX7_77 e83_22 ?_
        refine S_iconst qX7_takesE_58 ?_
        rw [h6]
        refine S_iadd qX7_takesE_59 ?_
        refine S_putI qX7_takesE_60 fX7_77 e83_22 tX7_22 ?_
        refine S_al0 qX7_takesE_63 ?_
        refine S_getR qX7_takesE_64 fX7_68 e83_19 ?_
        refine S_al0 qX7_takesE_67 ?_
        refine S_getI qX7_takesE_68 fX7_74 e83_21 ?_
        simp only [upR_s, ur_n _ (show (21 : Int) ≠ 22 by decide), h4]
        refine S_il3 qX7_takesE_71 ?_
        refine S_iast qX7_takesE_72 a96 (K := ?_)
        refine S_al0 qX7_takesE_73 ?_
        refine S_dup (d := qX7_takesE_74) (k := ?_)
        refine S_getI qX7_takesE_75 fX7_74 e83_21 ?_
        refine S_iconst qX7_takesE_78 ?_
        refine S_iadd qX7_takesE_79 ?_
        refine S_putI qX7_takesE_80 fX7_74 e83_21 tX7_21 ?_
        refine S_al0 qX7_takesE_83 ?_
        refine S_dup (d := qX7_takesE_84) (k := ?_)
        refine S_getI qX7_takesE_85 fX7_41 e83_10 ?_
        refine S_iconst qX7_takesE_88 ?_
        refine S_iadd qX7_takesE_89 ?_
        refine S_putI qX7_takesE_90 fX7_41 e83_10 tX7_10 ?_
        refine S_goto qX7_takesE_93 ?_
        refine SW.forget 3 ?_
        first
          | (refine k3 (by omega) t97 _ (hG.ts hT97 hP97 ?_ ?_)
             · have h8 := popW_p w (tsS T L s).2
               have h9 := mo_ts (T := T) (L := L) s
               omega
             · exact popW_i _ _ (ts_inv hri))
          | (refine k2 (nxM T L s.1) (by omega) ((nx_ah x5.2 (by omega)).mp rfl) (by omega) _ ⟨hT.pu (by unfold wsg; omega) ?_ ?_ ?_ ?_ ?_ ?_ (by omega), hG.2.1.tr (Pf.pe ?_ c), hg, ⟨by show 0 ≤ s.1 + 1 ∧ s.1 + 1 ≤ 100; omega, hri.2⟩⟩
             · simp only [upR_s, upR_n _ (show (83 : Nat) ≠ 96 by decide), upR_n _ (show (96 : Nat) ≠ 83 by decide), ur_s, ur_n _ (show (21 : Int) ≠ 22 by decide), ur_n _ (show (10 : Int) ≠ 22 by decide), ur_n _ (show (10 : Int) ≠ 21 by decide), ur_n _ (show (22 : Int) ≠ 21 by decide), ur_n _ (show (22 : Int) ≠ 10 by decide), ur_n _ (show (21 : Int) ≠ 10 by decide)]
             · intro k a b
               rw [upR_n _ a, upR_n _ a, upR_n _ b, upR_n _ a]
             · simp only [upR_s, upR_n _ (show (83 : Nat) ≠ 96 by decide), upR_n _ (show (96 : Nat) ≠ 83 by decide), ur_s, ur_n _ (show (21 : Int) ≠ 22 by decide), ur_n _ (show (10 : Int) ≠ 22 by decide), ur_n _ (show (10 : Int) ≠ 21 by decide), ur_n _ (show (22 : Int) ≠ 21 by decide), ur_n _ (show (22 : Int) ≠ 10 by decide), ur_n _ (show (21 : Int) ≠ 10 by decide)]
               rw [x3]
             · simp only [upR_s, upR_n _ (show (83 : Nat) ≠ 96 by decide), upR_n _ (show (96 : Nat) ≠ 83 by decide), ur_s, ur_n _ (show (21 : Int) ≠ 22 by decide), ur_n _ (show (10 : Int) ≠ 22 by decide), ur_n _ (show (10 : Int) ≠ 21 by decide), ur_n _ (show (22 : Int) ≠ 21 by decide), ur_n _ (show (22 : Int) ≠ 10 by decide), ur_n _ (show (21 : Int) ≠ 10 by decide)]
               rw [h4]
             · simp only [upR_s, upR_n _ (show (83 : Nat) ≠ 96 by decide), upR_n _ (show (96 : Nat) ≠ 83 by decide), ur_s, ur_n _ (show (21 : Int) ≠ 22 by decide), ur_n _ (show (10 : Int) ≠ 22 by decide), ur_n _ (show (10 : Int) ≠ 21 by decide), ur_n _ (show (22 : Int) ≠ 21 by decide), ur_n _ (show (22 : Int) ≠ 10 by decide), ur_n _ (show (21 : Int) ≠ 10 by decide)]
               rw [if_pos (by omega)]
             · intro j a b d
               simp only [upR_s, upR_n _ (show (83 : Nat) ≠ 96 by decide), ur_n _ a, ur_n _ b, ur_n _ d]
             · exact ⟨fun k a b d => by rw [upR_n _ a, upR_n _ a, upR_n _ d, upR_n _ a], fun j a b d e q => by simp only [upR_s, upR_n _ (show (83 : Nat) ≠ 96 by decide), ur_n _ a, ur_n _ e, ur_n _ q], fun i a => by rw [upR_n _ (by omega), upR_n _ (by omega), upR_n _ (by omega), upR_n _ (by omega)]⟩)
      · refine S_iconst qX7_takesE_51 ?_
        refine S_zret hz qX7_takesE_52 (by omega) ?_
        exact k1 (by omega) (by omega) _ x3 hG.2.1
theorem step_nb {g : GC} {X : CX} {Q : Option AV → MM → Prop} {V0 : MM} {T : Int → Int} {L f c g0 : Int} {V1 : MM} {s s' : ST} {w w' : List Int} {b : Int} (hc : 0 ≤ c ∧ c < 60) (hz : Fi g X (some .boolean) Q) (hD : Dp X 5) (hG : TG V0 T L f c g0 V1 s w) (hb : b = 38 ∨ b = 124) (hab : ahS T L s.1 = b) (hS : setW b w s = (s', w'))
    (k : ∀ V', TG V0 T L f c g0 V' (s'.1 + 1, s'.2) (b :: w') → SW g X RX7 cX7_takesE 22 [some (vr 83), some (vi c), some (vi 1), none] [] V') : SW g X RX7 cX7_takesE 22 [some (vr 83), some (vi c), some (vi 0), none] [] V1 := by
  have hT := hG.1
  have hX := hT.1
  have hr := nxm_rg hX
  have x5 := hX.2.2.2.2.1
  have n38 := nx_ah (T := T) (L := L) (p := s.1) (c := 38) x5.2 (by omega)
  have n124 := nx_ah (T := T) (L := L) (p := s.1) (c := 124) x5.2 (by omega)
  have n41 := nx_ah (T := T) (L := L) (p := s.1) (c := 41) x5.2 (by omega)
  have nl := nx_lt (T := T) (L := L) (p := s.1)
  have hg := hG.2.2.1
  have hri := hG.2.2.2
  have hf8 := hT.2.2.2.2.2.2.2.1
  have hnb : nxM T L s.1 = b := (nx_ah x5.2 (by omega)).mpr hab
  have hsp := setW_p b w s
  have hsi := setW_i b w s hri
  refine S_al0 qX7_takesE_22 ?_
  refine S_V0E hD qX7_takesE_23 lX7_222 vX7_next r83 (m_next hX) (K := ?_)
  rw [hnb]
  refine S_is3 qX7_takesE_26 (K := ?_)
  refine S_il2 qX7_takesE_27 ?_
  refine S_if_eq (d := qX7_takesE_28) (kt := fun _ => ?_) (kf := fun c => absurd c (by decide))
  refine S_il3 qX7_takesE_110 ?_
  refine S_bipush (d := qX7_takesE_111) (k := ?_)
  refine S_icmp_eq (d := qX7_takesE_113) (kt := fun c113 => ?_) (kf := fun c113 => ?_)
  · refine S_al0 qX7_takesE_122 ?_
    refine S_il3 qX7_takesE_123 ?_
    refine S_V1V hD qX7_takesE_124 lX7_249 vX7_settle r83 (m_settle (g0 := g0) hb hT hg) (kk := fun V124 h124 => ?_)
    obtain ⟨hT1, hP1⟩ := h124
    rw [hS] at hT1
    rw [hS] at hsp hsi
    replace hT1 : TS V124 T L f s' w' := hT1
    replace hsp : s'.1 = s.1 ∧ s.2.1 ≤ s'.2.1 := hsp
    replace hsi : RInv s' := hsi
    obtain ⟨⟨x1, x2, x3, x4, x5b, x6⟩, h2, h3, h4, h5, h6, h7, h8, h9⟩ := id hT1
    refine S_al0 qX7_takesE_127 ?_
    refine S_getR qX7_takesE_128 fX7_68 e83_19 ?_
    refine S_al0 qX7_takesE_131 ?_
    refine S_getI qX7_takesE_132 fX7_74 e83_21 ?_
    rw [h4]
    refine S_il3 qX7_takesE_135 ?_
    refine S_iast qX7_takesE_136 a96 (K := ?_)
    refine S_al0 qX7_takesE_137 ?_
    refine S_dup (d := qX7_takesE_138) (k := ?_)
    refine S_getI qX7_takesE_139 fX7_74 e83_21 ?_
    refine S_iconst qX7_takesE_142 ?_
    refine S_iadd qX7_takesE_143 ?_
    refine S_putI qX7_takesE_144 fX7_74 e83_21 tX7_21 ?_
    refine S_iconst qX7_takesE_147 ?_
    refine S_is2 qX7_takesE_148 (K := ?_)
    refine S_al0 qX7_takesE_149 ?_
    refine S_dup (d := qX7_takesE_150) (k := ?_)
    refine S_getI qX7_takesE_151 fX7_41 e83_10 ?_
    refine S_iconst qX7_takesE_154 ?_
    refine S_iadd qX7_takesE_155 ?_
    refine S_putI qX7_takesE_156 fX7_41 e83_10 tX7_10 ?_
    refine S_goto qX7_takesE_159 ?_
    refine SW.forget 3 ?_
    refine k _ ((hG.ts hT1 hP1 hsp.2 hsi).ts (hT1.pu (by unfold wsg; omega) ?_ ?_ ?_ ?_ ?_ ?_ (by omega)) (Pf.rf _ _ |>.tr ?_) (Int.le_refl _) ⟨by show 0 ≤ s'.1 + 1 ∧ s'.1 + 1 ≤ 100; omega, hsi.2⟩)
    · simp only [upR_s, upR_n _ (show (83 : Nat) ≠ 96 by decide), upR_n _ (show (96 : Nat) ≠ 83 by decide), ur_s, ur_n _ (show (21 : Int) ≠ 22 by decide), ur_n _ (show (10 : Int) ≠ 22 by decide), ur_n _ (show (10 : Int) ≠ 21 by decide), ur_n _ (show (22 : Int) ≠ 21 by decide), ur_n _ (show (22 : Int) ≠ 10 by decide), ur_n _ (show (21 : Int) ≠ 10 by decide)]
    · intro k a b
      rw [upR_n _ a, upR_n _ a, upR_n _ b]
    · simp only [upR_s, upR_n _ (show (83 : Nat) ≠ 96 by decide), upR_n _ (show (96 : Nat) ≠ 83 by decide), ur_s, ur_n _ (show (21 : Int) ≠ 22 by decide), ur_n _ (show (10 : Int) ≠ 22 by decide), ur_n _ (show (10 : Int) ≠ 21 by decide), ur_n _ (show (22 : Int) ≠ 21 by decide), ur_n _ (show (22 : Int) ≠ 10 by decide), ur_n _ (show (21 : Int) ≠ 10 by decide)]
      rw [x3]
    · simp only [upR_s, upR_n _ (show (83 : Nat) ≠ 96 by decide), upR_n _ (show (96 : Nat) ≠ 83 by decide), ur_s, ur_n _ (show (21 : Int) ≠ 22 by decide), ur_n _ (show (10 : Int) ≠ 22 by decide), ur_n _ (show (10 : Int) ≠ 21 by decide), ur_n _ (show (22 : Int) ≠ 21 by decide), ur_n _ (show (22 : Int) ≠ 10 by decide), ur_n _ (show (21 : Int) ≠ 10 by decide)]
      rw [h4]
    · simp only [upR_s, upR_n _ (show (83 : Nat) ≠ 96 by decide), upR_n _ (show (96 : Nat) ≠ 83 by decide), ur_s, ur_n _ (show (21 : Int) ≠ 22 by decide), ur_n _ (show (10 : Int) ≠ 22 by decide), ur_n _ (show (10 : Int) ≠ 21 by decide), ur_n _ (show (22 : Int) ≠ 21 by decide), ur_n _ (show (22 : Int) ≠ 10 by decide), ur_n _ (show (21 : Int) ≠ 10 by decide)]
      rw [if_neg (by omega), h6, Int.add_zero]
    · intro j a b d
      simp only [upR_s, upR_n _ (show (83 : Nat) ≠ 96 by decide), ur_n _ a, ur_n _ b]
    · exact ⟨fun k a b d => by rw [upR_n _ a, upR_n _ a, upR_n _ d], fun j a b d e q => by simp only [upR_s, upR_n _ (show (83 : Nat) ≠ 96 by decide), ur_n _ a, ur_n _ e], fun i a => by rw [upR_n _ (by omega), upR_n _ (by omega), upR_n _ (by omega)]⟩
  · refine S_il3 qX7_takesE_116 ?_
    refine S_bipush (d := qX7_takesE_117) (k := ?_)
    refine S_icmp_ne (d := qX7_takesE_119) (kt := fun c119 => ?_) (kf := fun c119 => ?_)
    · exfalso; omega
    · refine S_al0 qX7_takesE_122 ?_
      refine S_il3 qX7_takesE_123 ?_
      refine S_V1V hD qX7_takesE_124 lX7_249 vX7_settle r83 (m_settle (g0 := g0) hb hT hg) (kk := fun V124 h124 => ?_)
      obtain ⟨hT1, hP1⟩ := h124
      rw [hS] at hT1
      rw [hS] at hsp hsi
      replace hT1 : TS V124 T L f s' w' := hT1
      replace hsp : s'.1 = s.1 ∧ s.2.1 ≤ s'.2.1 := hsp
      replace hsi : RInv s' := hsi
      obtain ⟨⟨x1, x2, x3, x4, x5b, x6⟩, h2, h3, h4, h5, h6, h7, h8, h9⟩ := id hT1
      refine S_al0 qX7_takesE_127 ?_
      refine S_getR qX7_takesE_128 fX7_68 e83_19 ?_
      refine S_al0 qX7_takesE_131 ?_
      refine S_getI qX7_takesE_132 fX7_74 e83_21 ?_
      rw [h4]
      refine S_il3 qX7_takesE_135 ?_
      refine S_iast qX7_takesE_136 a96 (K := ?_)
      refine S_al0 qX7_takesE_137 ?_
      refine S_dup (d := qX7_takesE_138) (k := ?_)
      refine S_getI qX7_takesE_139 fX7_74 e83_21 ?_
      refine S_iconst qX7_takesE_142 ?_
      refine S_iadd qX7_takesE_143 ?_
      refine S_putI qX7_takesE_144 fX7_74 e83_21 tX7_21 ?_
      refine S_iconst qX7_takesE_147 ?_
      refine S_is2 qX7_takesE_148 (K := ?_)
      refine S_al0 qX7_takesE_149 ?_
      refine S_dup (d := qX7_takesE_150) (k := ?_)
      refine S_getI qX7_takesE_151 fX7_41 e83_10 ?_
      refine S_iconst qX7_takesE_154 ?_
      refine S_iadd qX7_takesE_155 ?_
      refine S_putI qX7_takesE_156 fX7_41 e83_10 tX7_10 ?_
      refine S_goto qX7_takesE_159 ?_
      refine SW.forget 3 ?_
      refine k _ ((hG.ts hT1 hP1 hsp.2 hsi).ts (hT1.pu (by unfold wsg; omega) ?_ ?_ ?_ ?_ ?_ ?_ (by omega)) (Pf.rf _ _ |>.tr ?_) (Int.le_refl _) ⟨by show 0 ≤ s'.1 + 1 ∧ s'.1 + 1 ≤ 100; omega, hsi.2⟩)
      · simp only [upR_s, upR_n _ (show (83 : Nat) ≠ 96 by decide), upR_n _ (show (96 : Nat) ≠ 83 by decide), ur_s, ur_n _ (show (21 : Int) ≠ 22 by decide), ur_n _ (show (10 : Int) ≠ 22 by decide), ur_n _ (show (10 : Int) ≠ 21 by decide), ur_n _ (show (22 : Int) ≠ 21 by decide), ur_n _ (show (22 : Int) ≠ 10 by decide), ur_n _ (show (21 : Int) ≠ 10 by decide)]
      · intro k a b
        rw [upR_n _ a, upR_n _ a, upR_n _ b]
      · simp only [upR_s, upR_n _ (show (83 : Nat) ≠ 96 by decide), upR_n _ (show (96 : Nat) ≠ 83 by decide), ur_s, ur_n _ (show (21 : Int) ≠ 22 by decide), ur_n _ (show (10 : Int) ≠ 22 by decide), ur_n _ (show (10 : Int) ≠ 21 by decide), ur_n _ (show (22 : Int) ≠ 21 by decide), ur_n _ (show (22 : Int) ≠ 10 by decide), ur_n _ (show (21 : Int) ≠ 10 by decide)]
        rw [x3]
      · simp only [upR_s, upR_n _ (show (83 : Nat) ≠ 96 by decide), upR_n _ (show (96 : Nat) ≠ 83 by decide), ur_s, ur_n _ (show (21 : Int) ≠ 22 by decide), ur_n _ (show (10 : Int) ≠ 22 by decide), ur_n _ (show (10 : Int) ≠ 21 by decide), ur_n _ (show (22 : Int) ≠ 21 by decide), ur_n _ (show (22 : Int) ≠ 10 by decide), ur_n _ (show (21 : Int) ≠ 10 by decide)]
        rw [h4]
      · simp only [upR_s, upR_n _ (show (83 : Nat) ≠ 96 by decide), upR_n _ (show (96 : Nat) ≠ 83 by decide), ur_s, ur_n _ (show (21 : Int) ≠ 22 by decide), ur_n _ (show (10 : Int) ≠ 22 by decide), ur_n _ (show (10 : Int) ≠ 21 by decide), ur_n _ (show (22 : Int) ≠ 21 by decide), ur_n _ (show (22 : Int) ≠ 10 by decide), ur_n _ (show (21 : Int) ≠ 10 by decide)]
        rw [if_neg (by omega), h6, Int.add_zero]
      · intro j a b d
        simp only [upR_s, upR_n _ (show (83 : Nat) ≠ 96 by decide), ur_n _ a, ur_n _ b]
      · exact ⟨fun k a b d => by rw [upR_n _ a, upR_n _ a, upR_n _ d], fun j a b d e q => by simp only [upR_s, upR_n _ (show (83 : Nat) ≠ 96 by decide), ur_n _ a, ur_n _ e], fun i a => by rw [upR_n _ (by omega), upR_n _ (by omega), upR_n _ (by omega)]⟩
theorem step_ne {g : GC} {X : CX} {Q : Option AV → MM → Prop} {V0 : MM} {T : Int → Int} {L f c g0 : Int} {V1 : MM} {s s' : ST} {w w' : List Int} (hc : 0 ≤ c ∧ c < 60) (hz : Fi g X (some .boolean) Q) (hD : Dp X 5) (hG : TG V0 T L f c g0 V1 s w) (h38 : ahS T L s.1 ≠ 38) (h124 : ahS T L s.1 ≠ 124) (hS : setW 124 w s = (s', w'))
    (k1 : w' = [] → ∀ V', TG V0 T L f c g0 V' s' [] → V' 94 c = 100 * f + s'.2.1 → Q (some (vi 1)) V')
    (k2 : w' ≠ [] → ahS T L s.1 ≠ 41 → ∀ V', V' 83 10 = s'.1 → Pe V0 V' c g0 → Q (some (vi 0)) V')
    (k3 : ∀ w0, w' = 40 :: w0 → ahS T L s.1 = 41 → ∀ V', TG V0 T L f c g0 V' (popW w0 (s'.1 + 1, s'.2)).1 (popW w0 (s'.1 + 1, s'.2)).2 → SW g X RX7 cX7_takesE 22 [some (vr 83), some (vi c), some (vi 0), none] [] V')
    (hw' : w' = [] ∨ ∃ w0, w' = 40 :: w0) : SW g X RX7 cX7_takesE 22 [some (vr 83), some (vi c), some (vi 0), none] [] V1 := by
  have hT := hG.1
  have hX := hT.1
  have hr := nxm_rg hX
  have x5 := hX.2.2.2.2.1
  have n38 := nx_ah (T := T) (L := L) (p := s.1) (c := 38) x5.2 (by omega)
  have n124 := nx_ah (T := T) (L := L) (p := s.1) (c := 124) x5.2 (by omega)
  have n41 := nx_ah (T := T) (L := L) (p := s.1) (c := 41) x5.2 (by omega)
  have nl := nx_lt (T := T) (L := L) (p := s.1)
  have hg := hG.2.2.1
  have hri := hG.2.2.2
  have hf8 := hT.2.2.2.2.2.2.2.1
  have hsp := setW_p 124 w s
  have hsi := setW_i 124 w s hri
  refine S_al0 qX7_takesE_22 ?_
  refine S_V0E hD qX7_takesE_23 lX7_222 vX7_next r83 (m_next hX) (K := ?_)
  refine S_is3 qX7_takesE_26 (K := ?_)
  refine S_il2 qX7_takesE_27 ?_
  refine S_if_eq (d := qX7_takesE_28) (kt := fun _ => ?_) (kf := fun c => absurd c (by decide))
  refine S_il3 qX7_takesE_110 ?_
  refine S_bipush (d := qX7_takesE_111) (k := ?_)
  refine S_icmp_eq (d := qX7_takesE_113) (kt := fun c113 => ?_) (kf := fun c113 => ?_)
  · exfalso; omega
  · refine S_il3 qX7_takesE_116 ?_
    refine S_bipush (d := qX7_takesE_117) (k := ?_)
    refine S_icmp_ne (d := qX7_takesE_119) (kt := fun c119 => ?_) (kf := fun c119 => ?_)
    · refine S_al0 qX7_takesE_162 ?_
      refine S_bipush (d := qX7_takesE_163) (k := ?_)
      refine S_V1V hD qX7_takesE_165 lX7_249 vX7_settle r83 (m_settle (g0 := g0) (Or.inr rfl) hT hg) (kk := fun V165 h165 => ?_)
      obtain ⟨hT1, hP1⟩ := h165
      rw [hS] at hT1
      rw [hS] at hsp hsi
      replace hsp : s'.1 = s.1 ∧ s.2.1 ≤ s'.2.1 := hsp
      replace hT1 : TS V165 T L f s' w' := hT1
      replace hsi : RInv s' := hsi
      obtain ⟨⟨x1, x2, x3, x4, x5b, x6⟩, h2, h3, h4, h5, h6, h7, h8, h9⟩ := id hT1
      refine S_al0 qX7_takesE_168 ?_
      refine S_getR qX7_takesE_169 fX7_62 e83_17 ?_
      refine S_il1 qX7_takesE_172 ?_
      refine S_al0 qX7_takesE_173 ?_
      refine S_getI qX7_takesE_174 fX7_71 e83_20 ?_
      rw [h2]
      refine S_iast qX7_takesE_177 a94 (K := ?_)
      generalize hU : upR V165 94 (ur (V165 94) c (100 * f + s'.2.1)) = U
      have uk : ∀ k : Nat, k ≠ 94 → U k = V165 k := fun k a => by rw [← hU, upR_n _ a]
      have u94 : U 94 = ur (V165 94) c (100 * f + s'.2.1) := by rw [← hU, upR_s]
      have u83 := uk 83 (by omega)
      have hTU : TS U T L f s' w' := by
        refine ⟨⟨by rw [u83]; exact x1, by rw [uk 89 (by omega)]; exact x2, by rw [u83]; exact x3, x4, x5b, x6⟩, by rw [u83]; exact h2, by rw [uk 95 (by omega)]; exact h3, by rw [u83]; exact h4, by rw [uk 96 (by omega)]; exact h5, by rw [u83]; exact h6, h7, h8, h9⟩
      have hPU : Pe V165 U c g0 := ⟨fun k a b d e => uk k b, fun j a b d e q => by rw [u83], fun i a => by rw [uk 95 (by omega)], fun i a => by rw [u94, ur_n _ a]⟩
      have hPe := (hG.2.1.tr (hP1.pe c)).tr hPU
      have hGU : TG V0 T L f c g0 U s' w' := ⟨hTU, hPe, by omega, hsi⟩
      refine S_al0 qX7_takesE_178 ?_
      refine S_getI qX7_takesE_179 fX7_74 e83_21 ?_
      rw [u83, h4]
      refine S_if_ne (d := qX7_takesE_182) (kt := fun c182 => ?_) (kf := fun c182 => ?_)
      · refine S_il3 qX7_takesE_187 ?_
        refine S_bipush (d := qX7_takesE_188) (k := ?_)
        refine S_icmp_eq (d := qX7_takesE_190) (kt := fun c190 => ?_) (kf := fun c190 => ?_)
        · refine S_al0 qX7_takesE_195 ?_
          refine S_dup (d := qX7_takesE_196) (k := ?_)
          refine S_getI qX7_takesE_197 fX7_74 e83_21 ?_
          rw [u83, h4]
          refine S_iconst qX7_takesE_200 ?_
          refine S_isub qX7_takesE_201 ?_
          refine S_putI qX7_takesE_202 fX7_74 e83_21 tX7_21 ?_
          refine S_al0 qX7_takesE_205 ?_
          refine S_dup (d := qX7_takesE_206) (k := ?_)
          refine S_getI qX7_takesE_207 fX7_77 e83_22 ?_
          refine S_iconst qX7_takesE_210 ?_
          refine S_isub qX7_takesE_211 ?_
          refine S_putI qX7_takesE_212 fX7_77 e83_22 tX7_22 ?_
          refine S_al0 qX7_takesE_215 ?_
          refine S_dup (d := qX7_takesE_216) (k := ?_)
          refine S_getI qX7_takesE_217 fX7_41 e83_10 ?_
          refine S_iconst qX7_takesE_220 ?_
          refine S_iadd qX7_takesE_221 ?_
          refine S_putI qX7_takesE_222 fX7_41 e83_10 tX7_10 ?_
          have hw2 : ∃ w0, w' = 40 :: w0 := by
            rcases hw' with q | q
            · rw [q] at c182; exact absurd rfl c182
            · exact q
          obtain ⟨w0, rfl⟩ := hw2
          have e40 : ((40 :: w0).length : Int) = (w0.length : Int) + 1 := by simp
          have hT2 : TS (upR U 83 (ur (ur (U 83) 21 (w0.length : Int)) 22 (opn w0))) T L f s' w0 := hTU.po (fun k a => upR_n _ a) (by rw [upR_s, ur_n _ (by omega), ur_s, u83, h4]; omega) (by rw [upR_s, ur_s, u83, h6, if_pos (by omega)]; show opn w0 = opn w0 + 1 - 1; omega) (fun j a b => by rw [upR_s, ur_n _ b, ur_n _ a])
          have hA := At.up (upR U 83 (ur (ur (U 83) 21 (w0.length : Int)) 22 (opn w0))) (s'.1 + 1)
          have hT3 := hT2.at hA (hT2.1.at hA (by rw [upR_s, ur_s]) (by omega)) (by omega)
          have hg3 : g0 ≤ 100 * f + ((s'.1 + 1, s'.2) : ST).2.1 := by show g0 ≤ 100 * f + s'.2.1; omega
          have eM : upR (upR (upR U 83 (ur (U 83) 21 (((40 :: w0).length : Int) - 1))) 83 (ur (upR U 83 (ur (U 83) 21 (((40 :: w0).length : Int) - 1)) 83) 22 (upR U 83 (ur (U 83) 21 (((40 :: w0).length : Int) - 1)) 83 22 - 1))) 83 (ur (upR (upR U 83 (ur (U 83) 21 (((40 :: w0).length : Int) - 1))) 83 (ur (upR U 83 (ur (U 83) 21 (((40 :: w0).length : Int) - 1)) 83) 22 (upR U 83 (ur (U 83) 21 (((40 :: w0).length : Int) - 1)) 83 22 - 1)) 83) 10 (upR (upR U 83 (ur (U 83) 21 (((40 :: w0).length : Int) - 1))) 83 (ur (upR U 83 (ur (U 83) 21 (((40 :: w0).length : Int) - 1)) 83) 22 (upR U 83 (ur (U 83) 21 (((40 :: w0).length : Int) - 1)) 83 22 - 1)) 83 10 + 1)) = upR (upR U 83 (ur (ur (U 83) 21 (w0.length : Int)) 22 (opn w0))) 83 (ur (upR U 83 (ur (ur (U 83) 21 (w0.length : Int)) 22 (opn w0)) 83) 10 (s'.1 + 1)) := by
            have e22 : U 83 22 = opn w0 + 1 := by rw [u83, h6]; show opn w0 + (if (40 : Int) = 33 ∨ (40 : Int) = 40 then 1 else 0) = _; rw [if_pos (by omega)]
            have e10 : U 83 10 = s'.1 := by rw [u83]; exact x3
            simp only [upR_s, upR_u, ur_n _ (show (22 : Int) ≠ 21 by decide), ur_n _ (show (10 : Int) ≠ 22 by decide), ur_n _ (show (10 : Int) ≠ 21 by decide), e22, e10, e40, Int.add_sub_cancel]
          rw [eM]
          refine S_al0 qX7_takesE_225 ?_
          refine S_V0V hD qX7_takesE_226 lX7_243 vX7_whole r83 (m_wholeP (g0 := g0) hT3 hg3) (kk := fun V226 h226 => ?_)
          obtain ⟨hT4, hP4⟩ := h226
          refine S_goto qX7_takesE_229 ?_
          refine SW.forget 3 ?_
          have hpp := popW_p w0 (s'.1 + 1, s'.2)
          replace hpp : (popW w0 (s'.1 + 1, s'.2)).1.1 = s'.1 + 1 ∧ s'.2.1 ≤ (popW w0 (s'.1 + 1, s'.2)).1.2.1 := hpp
          have hPX : Pf U (upR (upR U 83 (ur (ur (U 83) 21 (w0.length : Int)) 22 (opn w0))) 83 (ur (upR U 83 (ur (ur (U 83) 21 (w0.length : Int)) 22 (opn w0)) 83) 10 (s'.1 + 1))) g0 := ⟨fun k a b d => by rw [upR_n _ a, upR_n _ a], fun j a b d e q => by rw [upR_s, ur_n _ a, upR_s, ur_n _ q, ur_n _ e], fun i a => by rw [upR_n _ (by omega), upR_n _ (by omega)]⟩
          exact k3 w0 rfl (by omega) _ (hGU.ts hT4 (hPX.tr hP4) hpp.2 (popW_i _ _ ⟨by show 0 ≤ s'.1 + 1 ∧ s'.1 + 1 ≤ 100; omega, hsi.2⟩))
        · refine S_iconst qX7_takesE_193 ?_
          refine S_zret hz qX7_takesE_194 (by omega) ?_
          exact k2 (fun q => c182 (by rw [q]; rfl)) (by omega) _ (by rw [u83]; exact x3) hPe
      · refine S_iconst qX7_takesE_185 ?_
        refine S_zret hz qX7_takesE_186 (by omega) ?_
        rcases hw' with q | ⟨w0, q⟩
        · subst q
          exact k1 rfl _ hGU (by rw [u94, ur_s])
        · exfalso
          rw [q] at c182
          simp at c182
          omega
    · exfalso; omega