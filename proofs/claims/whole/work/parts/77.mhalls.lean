def c0S : CT := (24, 0, 0, fun _ => 0, fun _ => 0)
def s0S : ST := (0, 0, fun _ => 0)
theorem hp_rst (T : Int → Int) (L : Int) : hpS T L = rstS T L 9 c0S s0S := rfl
theorem gt_0 {V W : MM} {T : Int → Int} {L f : Int} (hf : 0 ≤ f ∧ f ≤ 5) (hX : TX W T L 0) (h20 : W 83 20 = 100 * f) (hP : Px V W f) : GT V W T L f 0 c0S s0S := by
  have hr : RInv s0S := ⟨by show (0 : Int) ≤ 0 ∧ (0 : Int) ≤ 100; omega, by show (0 : Int) ≤ 0 ∧ (0 : Int) ≤ 100; omega, fun i hi => by show -3 ≤ (0 : Int) ∧ (0 : Int) ≤ 1799; omega⟩
  refine ⟨hX, by rw [h20]; show 100 * f = 100 * f + 0; omega, fun j hj => by exfalso; replace hj : 0 ≤ j ∧ j < 0 := hj; omega, ⟨hr, Int.le_refl _⟩, ⟨rfl, rfl, fun j hj => by omega, fun fs d => rfl, rfl, ?_⟩, hP⟩
  exact ⟨by show (1 : Int) ≤ 24 ∧ (24 : Int) ≤ 99; omega, by show (0 : Int) ≤ 0 ∧ (0 : Int) ≤ 99; omega, Int.le_refl _, fun i hi => by exfalso; replace hi : 0 ≤ i ∧ i < 0 := hi; omega⟩

/-- halls before f mean the same -/
theorem hsT_px {V V' : MM} {f t : Int} (h : Px V V' f) (hf : 0 ≤ f ∧ f ≤ 5) (ht : t < f) (hM : MHi V t) : hsT V' t = hsT V t ∧ MHi V' t := by
  obtain ⟨m1, m2, m3⟩ := hM
  have en : nclM V' t = nclM V t := by
    unfold nclM
    rw [h.2.2.2.2 t (by omega)]
  have hb : ∀ c, fstM t ≤ c ∧ c < fstM t + nclM V t → 0 ≤ c ∧ c < 10 * f := fun c hc => by
    unfold fstM nclM at hc
    unfold nclM at m2
    split at hc <;> split at m2 <;> omega
  have e1 : ∀ k : Nat, 91 ≤ k ∧ k ≤ 94 → ∀ c, fstM t ≤ c ∧ c < fstM t + nclM V t → V' k c = V k c := fun k a c hc => h.2.2.1 k a c (hb c hc).2
  have e5 : ∀ c, fstM t ≤ c ∧ c < fstM t + nclM V t → V 91 c ≤ 1 → ∀ i, V 93 c ≤ i ∧ i < V 94 c → V' 95 i = V 95 i := fun c hc q i hi => by
    have h1 := (m3 c hc).2.2.2 q
    have h2 := hb c hc
    exact h.2.2.2.1 i (by omega)
  have hs : (fstM t : Int) + ((nclM V t).toNat : Int) = fstM t + nclM V t := by omega
  have el : ∀ w a, lasM V' w (nclM V t).toNat (fstM t) a = lasM V w (nclM V t).toNat (fstM t) a := fun w a => las_c _ _ _ hs (fun j hj => ⟨e1 91 (by omega) j hj, e1 92 (by omega) j hj⟩)
  have est : stepT V' t = stepT V t := by
    funext s d
    unfold stepT
    rw [en]
    exact sum_c _ _ _ hs (fun j hj => ⟨e1 91 (by omega) j hj, e1 92 (by omega) j hj, fun q => hld_c (e1 93 (by omega) j hj) (e1 94 (by omega) j hj) (e5 j hj q) s d⟩)
  refine ⟨?_, m1, by rw [en]; exact m2, fun c hc => ?_⟩
  · unfold hsT widT lasT
    rw [en, el, el, est]
  · rw [en] at hc
    exact clok_c (m3 c hc) (e1 91 (by omega) c hc) (e1 92 (by omega) c hc) (e1 93 (by omega) c hc) (e1 94 (by omega) c hc) (e5 c hc)
/-- the hall read means what the class's reading means -/
theorem hsT_new {V0 V : MM} {T : Int → Int} {L f : Int} {k : Nat} {y : Bool × CT × ST} (hf : 0 ≤ f ∧ f ≤ 5) (hk : k ≤ 10) (h : GT V0 V T L f k y.2.1 y.2.2) (h90 : V 90 f = k) : hsT V f = hsP y ∧ MHi V f := by
  obtain ⟨-, -, -, -, ⟨c1, c2, c3, c4, c5, c6⟩, -⟩ := h
  have en : nclM V f = k := by unfold nclM; rw [if_neg (by omega), h90]
  have ef : fstM f = 10 * f := by unfold fstM; rw [if_neg (by omega)]
  refine ⟨?_, ⟨by omega, by rw [en]; omega, fun c hc => ?_⟩⟩
  · have est : stepT V f = fun s d => stC y.2.1.2.2.2.1 y.2.1.2.2.2.2 y.2.2.2.2 s d y.2.1.2.2.1.toNat 0 0 0 := by
      funext s d
      unfold stepT
      rw [en, ef]
      exact c4 s d
    unfold hsT hsP widT lasT
    rw [en, ef, est, Int.toNat_natCast, ← c2, ← c1]
  · rw [en, ef] at hc
    exact (c3 c hc).1

theorem m_wideT {g : GC} {V : MM} (hM : MHi V (V 83 8)) : Ct g mX7_wide 3 [vr 83] V (RE V (widT V (V 83 8))) := by
  refine Ct.of (ls := [some (vr 83), none]) (plainFor_of_name (by decide +kernel)) rfl (by exact Nat.le_of_ble_eq_true rfl) (fun X hz hD => ?_)
  have hr := las_rg (V := V) (w := 2) (e := fstM (V 83 8) + nclM V (V 83 8)) (nclM V (V 83 8)).toNat (fstM (V 83 8)) 24 (by have := hM.2.1; omega) (fun j hj => (hM.2.2 j hj).2.1) (by omega)
  replace hr : 0 ≤ lasT V (V 83 8) 2 24 ∧ lasT V (V 83 8) 2 24 ≤ 99 := hr
  refine S_al0 qX7_wide_0 ?_
  refine S_iconst qX7_wide_1 ?_
  refine S_bipush (d := qX7_wide_2) (k := ?_)
  refine S_V2E hD qX7_wide_4 lX7_274 vX7_lastOf r83 (m_last hM (by omega)) (K := ?_)
  refine S_is1 qX7_wide_7 (K := ?_)
  refine S_il1 qX7_wide_8 ?_
  refine S_iconst qX7_wide_9 ?_
  refine S_icmp_ge (d := qX7_wide_10) (kt := fun c10 => ?_) (kf := fun c10 => ?_)
  · refine S_il1 qX7_wide_17 ?_
    refine S_iret hz qX7_wide_18 ?_
    refine RE.mk ?_
    unfold widT
    first | (rw [if_pos (by omega)]; done) | (rw [if_neg (by omega)]; done)
  · refine S_iconst qX7_wide_13 ?_
    refine S_goto qX7_wide_14 ?_
    refine S_iret hz qX7_wide_18 ?_
    refine RE.mk ?_
    unfold widT
    first | (rw [if_pos (by omega)]; done) | (rw [if_neg (by omega)]; done)

theorem wr_loop {g : GC} {X : CX} {Q : Option AV → MM → Prop} {W : MM} {w b : Int} (hM : MHi W (W 83 8)) (hw : w = widT W (W 83 8)) (hwr : 1 ≤ w ∧ w ≤ 99) (hwa : ∀ i : Int, 0 ≤ i ∧ i < 48 → 0 ≤ W 88 i ∧ W 88 i < 99) (hz : Fi g X (some .int) Q) (hD : Dp X 4) (hQ : Q (some (vi (W 83 8))) (upR W 88 (wrS w (W 88) 48))) : ∀ (n : Nat) (k : Int), 0 ≤ k → k + n = 48 → SW g X RX7 cX7_hall 58 [some (vr 83), some (vi b), some (vi k)] [] (upR W 88 (wrS w (W 88) k)) := by
  intro n
  induction n with
  | zero =>
    intro k h0 h1
    have e : k = 48 := by omega
    subst e
    refine S_il2 qX7_hall_58 ?_
    refine S_bipush (d := qX7_hall_59) (k := ?_)
    refine S_icmp_ge (d := qX7_hall_61) (kt := fun c61 => ?_) (kf := fun c61 => ?_)
    rotate_left
    · omega
    refine S_al0 qX7_hall_83 ?_
    refine S_getI qX7_hall_84 fX7_35 e83_8 ?_
    rw [upR_n _ (show (83 : Nat) ≠ 88 by decide)]
    refine S_iret hz qX7_hall_87 ?_
    exact hQ
  | succ n ih =>
    intro k h0 h1
    have e83 : upR W 88 (wrS w (W 88) k) 83 = W 83 := upR_n _ (by omega)
    have hc := hsT_c (V := W) (V' := upR W 88 (wrS w (W 88) k)) (t := W 83 8) (fun j a b => upR_n _ (by omega))
    have hM2 : MHi (upR W 88 (wrS w (W 88) k)) (upR W 88 (wrS w (W 88) k) 83 8) := by rw [e83]; exact hc.2 hM
    have ew : widT (upR W 88 (wrS w (W 88) k)) (upR W 88 (wrS w (W 88) k) 83 8) = w := by
      rw [e83]
      exact (congrArg (fun q : HS => q.1) hc.1).trans hw.symm
    have e5 : wrS w (W 88) k k = W 88 k := by unfold wrS; rw [if_neg (by omega)]
    have w1 := hwa k (by omega)
    refine S_il2 qX7_hall_58 ?_
    refine S_bipush (d := qX7_hall_59) (k := ?_)
    refine S_icmp_ge (d := qX7_hall_61) (kt := fun c61 => ?_) (kf := fun c61 => ?_)
    · omega
    refine S_al0 qX7_hall_64 ?_
    refine S_getR qX7_hall_65 fX7_29 e83_6 ?_
    refine S_il2 qX7_hall_68 ?_
    refine S_dup2 (d := qX7_hall_69) (k := ?_)
    refine S_iald qX7_hall_70 a88 (K := ?_)
    rw [upR_s, e5]
    refine S_al0 qX7_hall_71 ?_
    refine S_V0E hD qX7_hall_72 lX7_210 vX7_wide r83 (m_wideT hM2) (K := ?_)
    rw [ew]
    refine S_irem (d := qX7_hall_75) (k := ?_)
    refine S_iast qX7_hall_76 a88 (K := ?_)
    refine S_inc2 qX7_hall_77 (K := ?_)
    refine S_goto qX7_hall_80 ?_
    rw [upR_s, upR_u]
    have e6 := wrS_1 w (W 88) (n := k) h0
    refine SW.cast (ih (k + 1) (by omega) (by omega)) ?_
    rw [← e6]
theorem TX.w {V : MM} {T : Int → Int} {L : Int} (h : TX (upR V 83 (ur (V 83) 10 0)) T L 0) : V 83 9 = L ∧ V 89 = T ∧ (0 ≤ L ∧ L ≤ 100) ∧ ∀ i, 0 ≤ i ∧ i < 100 → 0 ≤ T i ∧ T i ≤ 127 := by
  obtain ⟨x1, x2, x3, x4, x5, x6⟩ := h
  rw [upR_s, ur_n _ (by omega)] at x1
  rw [upR_n _ (by omega)] at x2
  exact ⟨x1, x2, x5, x6⟩

theorem m_goesTextA {g : GC} {V : MM} {T : Int → Int} {L f : Int} (hl : MAl V) (hX : TX (upR V 83 (ur (V 83) 10 0)) T L 0) (hf : 0 ≤ f ∧ f ≤ 5) : Ct g mX7_goesText 7 [vr 83, vi f] V (RI (fun z V' => (z = 1 ∧ (hpS T L).1 = true ∧ ∃ k : Nat, k ≤ 10 ∧ GT V V' T L f k (hpS T L).2.1 (hpS T L).2.2 ∧ V' 90 f = k) ∨ (z = 0 ∧ (hpS T L).1 = false ∧ V' 83 10 = (hpS T L).2.2.1 ∧ Px V V' f))) := by
  refine Ct.of (ls := [some (vr 83), some (vi f), none]) (plainFor_of_name (by decide +kernel)) rfl (by exact Nat.le_of_ble_eq_true rfl) (fun X hz hD => ?_)
  refine S_al0 qX7_goesText_0 ?_
  refine S_iconst qX7_goesText_1 ?_
  refine S_putI qX7_goesText_2 fX7_41 e83_10 tX7_10 ?_
  refine S_al0 qX7_goesText_5 ?_
  refine S_bipush (d := qX7_goesText_6) (k := ?_)
  refine S_il1 qX7_goesText_8 ?_
  refine S_imul qX7_goesText_9 ?_
  refine S_putI qX7_goesText_10 fX7_71 e83_20 tX7_20 ?_
  refine S_iconst qX7_goesText_13 ?_
  refine S_is2 qX7_goesText_14 (K := ?_)
  simp only [upR_s, upR_u]
  generalize hW : upR V 83 (ur (ur (V 83) 10 0) 20 (100 * f)) = W
  have wk : ∀ k : Nat, k ≠ 83 → W k = V k := fun k a => by rw [← hW, upR_n _ a]
  have wj : ∀ j : Int, j ≠ 10 → j ≠ 20 → W 83 j = V 83 j := fun j a b => by rw [← hW, upR_s, ur_n _ b, ur_n _ a]
  have w10 : W 83 10 = 0 := by rw [← hW, upR_s, ur_n _ (by omega), ur_s]
  have w20 : W 83 20 = 100 * f := by rw [← hW, upR_s, ur_s]
  obtain ⟨x1, x2, x5, x6⟩ := hX.w
  have hXW : TX W T L 0 := ⟨by rw [wj 9 (by omega) (by omega)]; exact x1, by rw [wk 89 (by omega)]; exact x2, w10, by omega, x5, x6⟩
  have hP : Px V W f := ⟨fun k a b => wk k a, fun j a b c d e => wj j a c, fun k a i b => by rw [wk k (by omega)], fun i a => by rw [wk 95 (by omega)], fun i a => by rw [wk 90 (by omega)]⟩
  exact gt_loop (res := hpS T L) hf hl hz hD (fun q V' h1 h2 => ⟨_, rfl, Or.inr ⟨rfl, q, h1, h2⟩⟩) (fun q V' k h1 h2 h3 => ⟨_, rfl, Or.inl ⟨rfl, q, k, h1, h2, h3⟩⟩) 9 0 0 c0S s0S W rfl rfl (gt_0 hf hXW w20 hP) (hp_rst T L).symm

theorem m_hall {g : GC} {V : MM} {Z : ZT} (hZ : MA V Z) : Ct g mX7_hall 8 [vr 83] V (RM V (nHall Z).1 (nHall Z).2) := by
  refine Ct.of (ls := [some (vr 83), none, none]) (plainFor_of_name (by decide +kernel)) rfl (by exact Nat.le_of_ble_eq_true rfl) (fun X hz hD => ?_)
  obtain ⟨M, hI0, hn6, hbb, hwz, hkz⟩ := hZ.pf
  have hT := Tm.rf V
  obtain ⟨g1, g2, g3, g4, g5, g6, g7, g8⟩ := id hZ
  have g2' := g2
  obtain ⟨a1, a2, a3⟩ := g2
  obtain ⟨t1, t2, t3, t4⟩ := g3
  refine S_al0 qX7_hall_0 ?_
  refine S_getI qX7_hall_1 fX7_32 e83_7 ?_
  rw [a1]
  refine S_bipush (d := qX7_hall_4) (k := ?_)
  refine S_icmp_ne (d := qX7_hall_6) (kt := fun c6 => ?_) (kf := fun c6 => ?_)
  · refine S_al0 qX7_hall_12 ?_
    refine S_al0 qX7_hall_13 ?_
    refine S_getI qX7_hall_14 fX7_32 e83_7 ?_
    rw [a1]
    have hb10 : TX (upR V 83 (ur (V 83) 10 0)) Z.2.2.2.1.2 Z.2.2.2.1.1 0 := ⟨by rw [upR_s, ur_n _ (by omega)]; exact t1, by rw [upR_n _ (by omega)]; exact t2, by rw [upR_s, ur_s], by omega, t3, t4⟩
    refine S_V1I hD qX7_hall_17 lX7_265 vX7_goesText r83 (m_goesTextA g8 hb10 (by omega)) (kk := fun z17 V17 h17 => ?_)
    rcases h17 with ⟨rfl, ty, k, hk10, hG, h90⟩ | ⟨rfl, ty, h10, hP⟩
    · refine S_is1 qX7_hall_20 (K := ?_)
      have hP := hG.2.2.2.2.2
      refine S_al0 qX7_hall_21 ?_
      refine S_iconst qX7_hall_22 ?_
      refine S_putI qX7_hall_23 fX7_38 e83_9 tX7_9 ?_
      generalize hU : upR V17 83 (ur (V17 83) 9 0) = U
      have uk : ∀ k : Nat, k ≠ 83 → U k = V17 k := fun k a => by rw [← hU, upR_n _ a]
      have uj : ∀ j : Int, j ≠ 9 → U 83 j = V17 83 j := fun j a => by rw [← hU, upR_s, ur_n _ a]
      have u9 : U 83 9 = 0 := by rw [← hU, upR_s, ur_s]
      have sj : ∀ j : Int, j ≠ 10 → j ≠ 11 → j ≠ 20 → j ≠ 21 → j ≠ 22 → j ≠ 9 → U 83 j = V 83 j := fun j a b c d e q => by rw [uj j q, hP.2.1 j a b c d e]
      have sk : ∀ k : Nat, k ≠ 83 → k < 90 ∨ 97 ≤ k → U k = V k := fun k a b => by rw [uk k a, hP.1 k a b]
      have hPU : Px V U Z.2.2.1 ∨ True := Or.inr trivial
      have hcU : ∀ t, hsT U t = hsT V17 t ∧ (MHi V17 t → MHi U t) := fun t => hsT_c (fun k a b => uk k (by omega))
      have hIm : MAi U Z := by
        have e83 : ∀ j : Int, 40 ≤ j ∧ j ≤ 46 → U 83 j = V 83 j := fun j a => sj j (by omega) (by omega) (by omega) (by omega) (by omega) (by omega)
        rcases g5 with ⟨i1, i2⟩ | ⟨I, i1, i2, i3, ⟨i4, i5, i6⟩, i7, i8, i9⟩
        · exact Or.inl ⟨by rw [e83 40 (by omega)]; exact i1, i2⟩
        · have hq := hsT_px hP (by omega) i6 i5
          refine Or.inr ⟨I, by rw [e83 40 (by omega)]; exact i1, i2, ?_, ⟨by rw [e83 41 (by omega), (hcU _).1, hq.1]; exact i4, by rw [e83 41 (by omega)]; exact (hcU _).2 hq.2, by rw [e83 41 (by omega)]; exact i6⟩, i7, ?_, i9⟩
          · rw [← i3]
            unfold fsI
            rw [e83 42 (by omega), e83 43 (by omega), sk 110 (by omega) (by omega), sk 111 (by omega) (by omega), sk 112 (by omega) (by omega), sk 113 (by omega) (by omega), sk 114 (by omega) (by omega)]
          · rw [← i8]
            unfold snI
            rw [e83 44 (by omega), e83 45 (by omega), e83 46 (by omega), sk 115 (by omega) (by omega), sk 116 (by omega) (by omega), sk 117 (by omega) (by omega), sk 118 (by omega) (by omega), sk 119 (by omega) (by omega), sk 120 (by omega) (by omega)]
      refine S_il1 qX7_hall_26 ?_
      refine S_if_ne (d := qX7_hall_27) (kt := fun _ => ?_) (kf := fun c => absurd c (by decide))
      refine S_al0 qX7_hall_38 ?_
      refine S_al0 qX7_hall_39 ?_
      refine S_getI qX7_hall_40 fX7_32 e83_7 ?_
      rw [sj 7 (by omega) (by omega) (by omega) (by omega) (by omega) (by omega), a1]
      refine S_putI qX7_hall_43 fX7_35 e83_8 tX7_8 ?_
      refine S_al0 qX7_hall_46 ?_
      refine S_dup (d := qX7_hall_47) (k := ?_)
      refine S_getI qX7_hall_48 fX7_32 e83_7 ?_
      rw [upR_s, ur_n _ (show (7 : Int) ≠ 8 by decide), sj 7 (by omega) (by omega) (by omega) (by omega) (by omega) (by omega), a1]
      refine S_iconst qX7_hall_51 ?_
      refine S_iadd qX7_hall_52 ?_
      refine S_putI qX7_hall_53 fX7_32 e83_7 tX7_7 ?_
      refine S_iconst qX7_hall_56 ?_
      refine S_is2 qX7_hall_57 (K := ?_)
      simp only [upR_s, upR_u]
      generalize hY : upR U 83 (ur (ur (U 83) 8 Z.2.2.1) 7 (Z.2.2.1 + 1)) = Y
      have yk : ∀ k : Nat, k ≠ 83 → Y k = U k := fun k a => by rw [← hY, upR_n _ a]
      have yj : ∀ j : Int, j ≠ 7 → j ≠ 8 → Y 83 j = U 83 j := fun j a b => by rw [← hY, upR_s, ur_n _ a, ur_n _ b]
      have y8 : Y 83 8 = Z.2.2.1 := by rw [← hY, upR_s, ur_n _ (by omega), ur_s]
      have y7 : Y 83 7 = Z.2.2.1 + 1 := by rw [← hY, upR_s, ur_s]
      obtain ⟨hn1, hn2⟩ := hsT_new (y := hpS Z.2.2.2.1.2 Z.2.2.2.1.1) (by omega) hk10 hG h90
      have hcY : ∀ t, hsT Y t = hsT V17 t ∧ (MHi V17 t → MHi Y t) := fun t => by
        have q1 := hsT_c (V := U) (V' := Y) (t := t) (fun k a b => yk k (by omega))
        exact ⟨q1.1.trans (hcU t).1, fun q => q1.2 ((hcU t).2 q)⟩
      have hMY : MHi Y (Y 83 8) := by rw [y8]; exact (hcY _).2 hn2
      have hsY : hsT Y (Y 83 8) = hsP (hpS Z.2.2.2.1.2 Z.2.2.2.1.1) := by rw [y8, (hcY _).1, hn1]
      have hrY := hsT_rg hMY
      rw [hsY] at hrY
      have hwY : (hsP (hpS Z.2.2.2.1.2 Z.2.2.2.1.1)).1 = widT Y (Y 83 8) := by rw [← hsY]; rfl
      have y88 : Y 88 = V 88 := by rw [yk 88 (by omega), sk 88 (by omega) (by omega)]
      have e88 := M.w88
      rw [← upR_id Y 88]
      have h5 := wr_loop (b := 1) (w := (hsP (hpS Z.2.2.2.1.2 Z.2.2.2.1.1)).1) hMY hwY hrY.1 (fun i hi => by rw [y88, e88]; have := hI0.2.2.2.2.1 i hi; omega) hz (by exact ⟨by have := hD.1; omega, by have := hD.2; omega⟩) ?_ 48 0 (by omega) (by omega)
      · rw [wrS_0] at h5
        exact h5
      rw [y8]
      have zk : ∀ k : Nat, k ≠ 83 → k ≠ 88 → upR Y 88 (wrS (hsP (hpS Z.2.2.2.1.2 Z.2.2.2.1.1)).1 (Y 88) 48) k = U k := fun k a b => by rw [upR_n _ b, yk k a]
      have z83 : upR Y 88 (wrS (hsP (hpS Z.2.2.2.1.2 Z.2.2.2.1.1)).1 (Y 88) 48) 83 = Y 83 := upR_n _ (by omega)
      have z88 : upR Y 88 (wrS (hsP (hpS Z.2.2.2.1.2 Z.2.2.2.1.1)).1 (Y 88) 48) 88 = wrS (hsP (hpS Z.2.2.2.1.2 Z.2.2.2.1.1)).1 (Y 88) 48 := upR_s ..
      generalize upR Y 88 (wrS (hsP (hpS Z.2.2.2.1.2 Z.2.2.2.1.1)).1 (Y 88) 48) = G at zk z83 z88 ⊢
      have gj : ∀ j : Int, j ≠ 7 → j ≠ 8 → G 83 j = U 83 j := fun j a b => by rw [z83, yj j a b]
      have sg : ∀ k : Nat, k ≠ 83 → k ≠ 88 → k < 90 ∨ 97 ≤ k → G k = V k := fun k a b c => by rw [zk k a b, sk k a c]
      have hcG : ∀ t, hsT G t = hsT U t ∧ (MHi U t → MHi G t) := fun t => hsT_c (fun k a b => zk k (by omega) (by omega))
      have hcUY : hsT U Z.2.2.1 = hsP (hpS Z.2.2.2.1.2 Z.2.2.2.1.1) := by rw [(hcU _).1, hn1]
      refine RM.to (Z' := hallZ Z (hsP (hpS Z.2.2.2.1.2 Z.2.2.2.1.1))) ⟨⟨⟨?_, ?_, ?_, wrap_inv hI0 hrY.1.1⟩, g1.2⟩, ⟨by rw [z83, y7]; rfl, by show 0 ≤ Z.2.2.1 + 1 ∧ Z.2.2.1 + 1 ≤ 6; omega, by rw [z83, y8]; show Z.2.2.1 < Z.2.2.1 + 1; omega⟩, ⟨by rw [gj 9 (by omega) (by omega)]; exact u9, by rw [sg 89 (by omega) (by omega) (by omega)]; exact t2, by show (0 : Int) ≤ 0 ∧ (0 : Int) ≤ 100; omega, t4⟩, MAn_c g4 (fun k a b => sg k (by omega) (by omega) (by omega)) (by rw [gj 31 (by omega) (by omega)]; exact sj 31 (by omega) (by omega) (by omega) (by omega) (by omega) (by omega)) (by rw [gj 35 (by omega) (by omega)]; exact sj 35 (by omega) (by omega) (by omega) (by omega) (by omega) (by omega)) (by rw [gj 36 (by omega) (by omega)]; exact sj 36 (by omega) (by omega) (by omega) (by omega) (by omega) (by omega)) (Int.le_refl _) rfl, ?_, MAr_c g6 (by rw [gj 58 (by omega) (by omega)]; exact sj 58 (by omega) (by omega) (by omega) (by omega) (by omega) (by omega)) (sg 121 (by omega) (by omega) (by omega)) rfl, MAg_c g7 (sg 122 (by omega) (by omega) (by omega)) (sg 123 (by omega) (by omega) (by omega)) (sg 124 (by omega) (by omega) (by omega)) rfl, MAl_c g8 (sg 97 (by omega) (by omega) (by omega))⟩ (fun k a => sg k (by omega) (by omega) (by omega)) ?_
      · show wrapF (hsP (hpS Z.2.2.2.1.2 Z.2.2.2.1.1)).1 Z.1 = (G 83 0, G 83 1, G 84, G 85, G 86, G 88, G 87)
        rw [gj 0 (by omega) (by omega), gj 1 (by omega) (by omega), sj 0 (by omega) (by omega) (by omega) (by omega) (by omega) (by omega), sj 1 (by omega) (by omega) (by omega) (by omega) (by omega) (by omega), sg 84 (by omega) (by omega) (by omega), sg 85 (by omega) (by omega) (by omega), sg 86 (by omega) (by omega) (by omega), z88, y88, sg 87 (by omega) (by omega) (by omega), M.n, M.b, M.w84, M.w85, M.w86, M.w88, M.w87]
        rfl
      · show hsP (hpS Z.2.2.2.1.2 Z.2.2.2.1.1) = hsT G (G 83 8)
        rw [z83, y8, (hcG _).1, hcUY]
      · rw [z83, y8]
        exact (hcG _).2 ((hcU _).2 hn2)
      · have e83 : ∀ j : Int, 40 ≤ j ∧ j ≤ 46 → G 83 j = U 83 j := fun j a => gj j (by omega) (by omega)
        rcases MAi_c (Z' := Z) hIm (fun k a => zk k (by omega) (by omega)) e83 rfl rfl with ⟨i1, i2⟩ | ⟨I, i1, i2, i3, ⟨i4, i5, i6⟩, i7⟩
        · exact Or.inl ⟨i1, i2⟩
        · exact Or.inr ⟨I, i1, i2, i3, ⟨i4, i5, by show G 83 41 < Z.2.2.1 + 1; omega⟩, i7⟩
      · unfold nHall
        rw [if_neg (by omega), if_pos ty]
    · refine S_is1 qX7_hall_20 (K := ?_)
      refine S_al0 qX7_hall_21 ?_
      refine S_iconst qX7_hall_22 ?_
      refine S_putI qX7_hall_23 fX7_38 e83_9 tX7_9 ?_
      generalize hU : upR V17 83 (ur (V17 83) 9 0) = U
      have uk : ∀ k : Nat, k ≠ 83 → U k = V17 k := fun k a => by rw [← hU, upR_n _ a]
      have uj : ∀ j : Int, j ≠ 9 → U 83 j = V17 83 j := fun j a => by rw [← hU, upR_s, ur_n _ a]
      have u9 : U 83 9 = 0 := by rw [← hU, upR_s, ur_s]
      have sj : ∀ j : Int, j ≠ 10 → j ≠ 11 → j ≠ 20 → j ≠ 21 → j ≠ 22 → j ≠ 9 → U 83 j = V 83 j := fun j a b c d e q => by rw [uj j q, hP.2.1 j a b c d e]
      have sk : ∀ k : Nat, k ≠ 83 → k < 90 ∨ 97 ≤ k → U k = V k := fun k a b => by rw [uk k a, hP.1 k a b]
      have hPU : Px V U Z.2.2.1 ∨ True := Or.inr trivial
      have hcU : ∀ t, hsT U t = hsT V17 t ∧ (MHi V17 t → MHi U t) := fun t => hsT_c (fun k a b => uk k (by omega))
      have hIm : MAi U Z := by
        have e83 : ∀ j : Int, 40 ≤ j ∧ j ≤ 46 → U 83 j = V 83 j := fun j a => sj j (by omega) (by omega) (by omega) (by omega) (by omega) (by omega)
        rcases g5 with ⟨i1, i2⟩ | ⟨I, i1, i2, i3, ⟨i4, i5, i6⟩, i7, i8, i9⟩
        · exact Or.inl ⟨by rw [e83 40 (by omega)]; exact i1, i2⟩
        · have hq := hsT_px hP (by omega) i6 i5
          refine Or.inr ⟨I, by rw [e83 40 (by omega)]; exact i1, i2, ?_, ⟨by rw [e83 41 (by omega), (hcU _).1, hq.1]; exact i4, by rw [e83 41 (by omega)]; exact (hcU _).2 hq.2, by rw [e83 41 (by omega)]; exact i6⟩, i7, ?_, i9⟩
          · rw [← i3]
            unfold fsI
            rw [e83 42 (by omega), e83 43 (by omega), sk 110 (by omega) (by omega), sk 111 (by omega) (by omega), sk 112 (by omega) (by omega), sk 113 (by omega) (by omega), sk 114 (by omega) (by omega)]
          · rw [← i8]
            unfold snI
            rw [e83 44 (by omega), e83 45 (by omega), e83 46 (by omega), sk 115 (by omega) (by omega), sk 116 (by omega) (by omega), sk 117 (by omega) (by omega), sk 118 (by omega) (by omega), sk 119 (by omega) (by omega), sk 120 (by omega) (by omega)]
      refine S_il1 qX7_hall_26 ?_
      refine S_if_ne (d := qX7_hall_27) (kt := fun c => absurd c (by decide)) (kf := fun _ => ?_)
      refine S_bipush (d := qX7_hall_30) (k := ?_)
      refine S_al0 qX7_hall_32 ?_
      refine S_getI qX7_hall_33 fX7_41 e83_10 ?_
      rw [uj 10 (by omega), h10]
      refine S_isub qX7_hall_36 ?_
      refine S_iret hz qX7_hall_37 ?_
      have hq := hsT_px hP (by omega) a3 M.2.2.1
      have e8 : U 83 8 = V 83 8 := sj 8 (by omega) (by omega) (by omega) (by omega) (by omega) (by omega)
      refine RM.to (Z' := txZ Z (0, Z.2.2.2.1.2)) ⟨⟨⟨?_, ?_, ?_, hI0⟩, g1.2⟩, MAh_c g2' (sj 7 (by omega) (by omega) (by omega) (by omega) (by omega) (by omega)) e8 rfl, ⟨u9, by rw [sk 89 (by omega) (by omega)]; exact t2, by show (0 : Int) ≤ 0 ∧ (0 : Int) ≤ 100; omega, t4⟩, MAn_c g4 (fun k a b => sk k (by omega) (by omega)) (sj 31 (by omega) (by omega) (by omega) (by omega) (by omega) (by omega)) (sj 35 (by omega) (by omega) (by omega) (by omega) (by omega) (by omega)) (sj 36 (by omega) (by omega) (by omega) (by omega) (by omega) (by omega)) (Int.le_refl _) rfl, hIm, MAr_c g6 (sj 58 (by omega) (by omega) (by omega) (by omega) (by omega) (by omega)) (sk 121 (by omega) (by omega)) rfl, MAg_c g7 (sk 122 (by omega) (by omega)) (sk 123 (by omega) (by omega)) (sk 124 (by omega) (by omega)) rfl, MAl_c g8 (sk 97 (by omega) (by omega))⟩ (fun k a => sk k (by omega) (by omega)) ?_
      · show Z.1 = (U 83 0, U 83 1, U 84, U 85, U 86, U 88, U 87)
        rw [sj 0 (by omega) (by omega) (by omega) (by omega) (by omega) (by omega), sj 1 (by omega) (by omega) (by omega) (by omega) (by omega) (by omega), sk 84 (by omega) (by omega), sk 85 (by omega) (by omega), sk 86 (by omega) (by omega), sk 88 (by omega) (by omega), sk 87 (by omega) (by omega)]
        exact M.1
      · show Z.2.1 = hsT U (U 83 8)
        rw [e8, (hcU _).1, hq.1]
        exact M.2.1
      · rw [e8]
        exact (hcU _).2 hq.2
      · unfold nHall
        rw [if_neg (by omega), if_neg (by rw [ty]; decide)]
  · refine S_bipush (d := qX7_hall_9) (k := ?_)
    refine S_iret hz qX7_hall_11 ?_
    refine RM.eq hZ ?_
    unfold nHall
    first | (rw [if_pos (by omega)]; done) | (rw [if_neg (by omega), if_pos (by omega)]; done) | (rw [if_neg (by omega), if_neg (by omega), if_pos (by omega)]; done) | (rw [if_neg (by omega), if_neg (by omega), if_neg (by omega), if_pos (by omega)]; done)
