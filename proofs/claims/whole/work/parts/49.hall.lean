theorem HlC_c2 {V V' : MM} {h : Nat} {hs : HS} (hH : HlC V h hs) (h2 : ∀ k : Nat, h ≤ k → k < h + 4 → V' k = V k) : HlC V' h hs := by
  have e0 := h2 h (by omega) (by omega)
  have e1 := h2 (h + 1) (by omega) (by omega)
  have e2 := h2 (h + 2) (by omega) (by omega)
  have e3 := h2 (h + 3) (by omega) (by omega)
  have es : stepC V' h = stepC V h := by
    funext s d
    unfold stepC
    rw [e0, e1, e2, e3]
  refine ⟨?_, by rw [es, e0]; exact hH.2⟩
  have hI := hH.1
  unfold HInv at hI ⊢
  rw [e0, e1, e2, e3]
  exact hI
theorem FlC.c2 {V V' : MM} {f : Nat} {hs : HS} {s : FS} (h : FlC V f hs s) (h1 : ∀ k : Nat, f ≤ k → k < f + 6 → V' k = V k) (h2 : ∀ k : Nat, (V f 2).toNat ≤ k → k < (V f 2).toNat + 4 → V' k = V k) : FlC V' f hs s := by
  obtain ⟨hf, rfl, hH, h0, hI⟩ := h
  have e0 := h1 f (by omega) (by omega)
  have e : fsC V' f = fsC V f := by
    show (V' f 0, V' f 1, V' (f + 1), V' (f + 2), V' (f + 3), V' (f + 4), V' (f + 5)) = _
    rw [e0, h1 (f + 1) (by omega) (by omega), h1 (f + 2) (by omega) (by omega), h1 (f + 3) (by omega) (by omega), h1 (f + 4) (by omega) (by omega), h1 (f + 5) (by omega) (by omega)]
  refine ⟨hf, e.symm, ?_, by rw [e0]; exact h0, hI⟩
  rw [e0]
  exact HlC_c2 hH h2
def wrapF (w : Int) (s : FS) : FS := (s.1, s.2.1, s.2.2.1, s.2.2.2.1, s.2.2.2.2.1, wrS w s.2.2.2.2.2.1 48, s.2.2.2.2.2.2)
theorem wrap_inv {w w' : Int} {s : FS} (h : FInv w s) (hw : 1 ≤ w') : FInv w' (wrapF w' s) := by
  obtain ⟨h1, h2, h3, h4, h5, h6⟩ := h
  refine ⟨h1, h2, h3, h4, fun i hi => ?_, h6⟩
  show 0 ≤ wrS w' s.2.2.2.2.2.1 48 i ∧ wrS w' s.2.2.2.2.2.1 48 i < w'
  unfold wrS
  rw [if_pos (by omega)]
  exact ⟨Int.emod_nonneg _ (by omega), Int.emod_lt_of_pos _ (by omega)⟩
def hallZ (Z : ZT) (hs : HS) : ZT := (wrapF hs.1 Z.1, hs, Z.2.2.1 + 1, (0, Z.2.2.2.1.2), Z.2.2.2.2)
def nHall (Z : ZT) : Int × ZT := if 6 ≤ Z.2.2.1 then (-4, Z) else if (hpS Z.2.2.2.1.2 Z.2.2.2.1.1).1 = true then (Z.2.2.1, hallZ Z (hsP (hpS Z.2.2.2.1.2 Z.2.2.2.1.1))) else (-10 - (hpS Z.2.2.2.1.2 Z.2.2.2.1.1).2.2.1, txZ Z (0, Z.2.2.2.1.2))
/-- the memory behind the reading -/
theorem rdy {V : MM} {h : Nat} (hh : isH h) (y : Bool × CT × ST) : (∀ k : Nat, k ≠ 4 → k < h ∨ h + 4 ≤ k → rdM (hbM V h y.2.1) h y.2.2 k = V k) ∧ rdM (hbM V h y.2.1) h y.2.2 4 = ur (V 4) 2 y.2.2.1 ∧ rdM (hbM V h y.2.1) h y.2.2 h 0 = y.2.1.1 ∧ rdM (hbM V h y.2.1) h y.2.2 h 1 = y.2.1.2.1 ∧ rdM (hbM V h y.2.1) h y.2.2 h 2 = y.2.1.2.2.1 ∧ rdM (hbM V h y.2.1) h y.2.2 (h + 1) = y.2.1.2.2.2.1 ∧ rdM (hbM V h y.2.1) h y.2.2 (h + 2) = y.2.1.2.2.2.2 ∧ rdM (hbM V h y.2.1) h y.2.2 (h + 3) = y.2.2.2.2 := by
  have hb := isH_b hh
  refine ⟨fun k a b => ?_, ?_, ?_, ?_, ?_, ?_, ?_, ?_⟩
  · rw [rd_n hh _ a (by omega) (by omega), hb_n _ _ _ (by omega) (by omega) (by omega)]
  · rw [rd_4 hh, hb_n _ _ _ (by omega) (by omega) (by omega)]
  · rw [rd_h hh, hb_h, ur_n _ (by omega), ur_n _ (by omega), ur_n _ (by omega), ur_s]
  · rw [rd_h hh, hb_h, ur_n _ (by omega), ur_n _ (by omega), ur_s]
  · rw [rd_h hh, hb_h, ur_n _ (by omega), ur_s]
  · rw [rd_n hh _ (by omega) (by omega) (by omega), hb_1]
  · rw [rd_n hh _ (by omega) (by omega) (by omega), hb_2]
  · rw [rd_c hh]

def HRd (V V' : MM) (h : Nat) (Z : ZT) (y : Bool × CT × ST) : Prop := (∀ k : Nat, k ≠ 4 → k < h ∨ h + 4 ≤ k → V' k = V k) ∧ (V' 4 = ur (V 4) 2 y.2.2.1) ∧ HlC V' h (hsP (hpS Z.2.2.2.1.2 Z.2.2.2.1.1)) ∧ y.1 = (hpS Z.2.2.2.1.2 Z.2.2.2.1.1).1 ∧ y.2.2.1 = (hpS Z.2.2.2.1.2 Z.2.2.2.1.1).2.2.1 ∧ (∀ i : Int, 0 ≤ i ∧ i < 100 → -3 ≤ V' (h + 3) i ∧ V' (h + 3) i ≤ 1799) ∧ (0 ≤ y.2.2.1 ∧ y.2.2.1 ≤ 100)
theorem hrd {V : MM} {Z : ZT} {h : Nat} (hh : isH h) (hZ : CA V Z) : HRd V (rdM (hbM V h (inS (V 5) (V 4 1) (24, 0, 0, V (h + 1), V (h + 2)) (0, 0, V (h + 3))).2.1) h (inS (V 5) (V 4 1) (24, 0, 0, V (h + 1), V (h + 2)) (0, 0, V (h + 3))).2.2) h Z (inS (V 5) (V 4 1) (24, 0, 0, V (h + 1), V (h + 2)) (0, 0, V (h + 3))) := by
  obtain ⟨t1, t2, -⟩ := hZ.2.2.1
  have e := e3_in (T := V 5) (L := V 4 1) (c := (24, 0, 0, V (h + 1), V (h + 2))) (d := (24, 0, 0, fun _ => 0, fun _ => 0)) (s := (0, 0, V (h + 3))) (t := (0, 0, fun _ => 0)) ⟨rfl, rfl, rfl, fun i hi => by exfalso; replace hi : 0 ≤ i ∧ i < 0 := hi; omega⟩ ⟨rfl, rfl, fun i hi => by exfalso; replace hi : 0 ≤ i ∧ i < 0 := hi; omega⟩
  have hR : RInv (0, 0, V (h + 3)) := ⟨by show (0 : Int) ≤ 0 ∧ (0 : Int) ≤ 100; omega, by show (0 : Int) ≤ 0 ∧ (0 : Int) ≤ 100; omega, hZ.2.1.2.2 h hh⟩
  have hC := ci_in (T := V 5) (L := V 4 1) (c := (24, 0, 0, V (h + 1), V (h + 2))) (s := (0, 0, V (h + 3))) hR ⟨by show (1 : Int) ≤ 24 ∧ (24 : Int) ≤ 99; omega, by show (0 : Int) ≤ 0 ∧ (0 : Int) ≤ 99; omega, Int.le_refl _, fun i hi => by exfalso; replace hi : 0 ≤ i ∧ i < 0 := hi; omega⟩
  replace e : e3 (inS (V 5) (V 4 1) (24, 0, 0, V (h + 1), V (h + 2)) (0, 0, V (h + 3))) (hpS (V 5) (V 4 1)) := e
  rw [t2, t1] at e
  rw [t2, t1] at hC ⊢
  generalize inS Z.2.2.2.1.2 Z.2.2.2.1.1 (24, 0, 0, V (h + 1), V (h + 2)) (0, 0, V (h + 3)) = y at e hC ⊢
  obtain ⟨r1, r2, r3, r4, r5, r6, r7, r8⟩ := rdy (V := V) hh y
  obtain ⟨⟨c1, c2, c3, c4⟩, ⟨d1, d2, d3⟩, c5⟩ := id hC
  replace c5 : y.2.1.2.2.1 ≤ 0 + 10 := c5
  refine ⟨r1, r2, ⟨?_, ?_⟩, e.1, e.2.2.1, by rw [r8]; exact d3, d1⟩
  · unfold HInv
    rw [r3, r4, r5, r6, r7, r8]
    exact ⟨hh, c1, c2, ⟨c3, by omega⟩, fun i hi => by have := c4 i hi; omega, d3⟩
  · rw [← hsP_cong e hC.1, r3, r4]
    refine congrArg (fun q => (y.2.1.1, y.2.1.2.1, q)) ?_
    funext s d
    unfold stepC
    rw [r5, r6, r7, r8]

theorem c_hall {g : GC} {V : MM} {Z : ZT} (hZ : CA V Z) : Ct g mX6_hall 25 [vr 0] V (RZ V (nHall Z).1 (nHall Z).2) := by
  refine Ct.of (ls := [some (vr 0), none, none]) (plainFor_of_name (by decide +kernel)) rfl (by exact Nat.le_of_ble_eq_true rfl) (fun X hz hD => ?_)
  obtain ⟨hF, es, e1, e2, hn, hb, hkv, hfo, hwa, hro, hH, hh, h0, eh, hw, hk, hwz⟩ := hZ.fl
  have ew : Z.2.1.1 = V (V 8 2).toNat 0 := by rw [eh]
  have hr := hZ.1.2.1
  obtain ⟨u1, u2, u3⟩ := hZ.2.1
  obtain ⟨t1, t2, t3⟩ := hZ.2.2.1
  refine S_al0 qX6_hall_0 ?_
  refine S_getI qX6_hall_1 fX6_125 e0_7 ?_
  refine S_if_lt (d := qX6_hall_4) (kt := fun c4 => ?_) (kf := fun c4 => ?_)
  · refine S_bipush (d := qX6_hall_16) (k := ?_)
    refine S_iret hz qX6_hall_18 ?_
    refine RZ.eq hZ ?_
    unfold nHall
    rw [if_pos (by omega)]
  · refine S_al0 qX6_hall_7 ?_
    refine S_getI qX6_hall_8 fX6_125 e0_7 ?_
    refine S_bipush (d := qX6_hall_11) (k := ?_)
    refine S_icmp_lt (d := qX6_hall_13) (kt := fun c13 => ?_) (kf := fun c13 => ?_)
    · refine S_al0 qX6_hall_19 ?_
      refine S_getR qX6_hall_20 fX6_39 e0_6 ?_
      refine S_al0 qX6_hall_23 ?_
      refine S_getI qX6_hall_24 fX6_125 e0_7 ?_
      refine S_aaldH qX6_hall_27 a1 (K := ?_)
      refine S_as1 qX6_hall_28 (K := ?_)
      have hh1 := isH_at (i := V 0 7) (by omega)
      have hb1 := isH_b hh1
      have hR := hrd hh1 hZ
      refine S_al0 qX6_hall_29 ?_
      refine S_getR qX6_hall_30 fX6_46 e0_8 ?_
      refine S_al1 qX6_hall_33 ?_
      refine S_V1I hD qX6_hall_34 lX6_128 vX4_readInto r4 (c_readInto hh1 t3 (u3 _ hh1)) (kk := fun z34 V34 h34 => ?_)
      rcases h34 with ⟨rfl, hy, rfl⟩ | ⟨rfl, hy, rfl⟩
      · refine S_is2 qX6_hall_37 (K := ?_)
        refine S_al0 qX6_hall_38 ?_
        refine S_getR qX6_hall_39 fX6_46 e0_8 ?_
        refine S_iconst qX6_hall_42 ?_
        refine S_putI qX6_hall_43 fX6_118 e4_1 tX4_1 ?_
        obtain ⟨q1, q2, q3, q4, q5, q6, q7⟩ := hR
        generalize inS (V 5) (V 4 1) (24, 0, 0, V (47 + 4 * (V 0 7).toNat + 1), V (47 + 4 * (V 0 7).toNat + 2)) (0, 0, V (47 + 4 * (V 0 7).toNat + 3)) = y at hy q1 q2 q3 q4 q5 q6 q7 ⊢
        generalize hW : rdM (hbM V (47 + 4 * (V 0 7).toNat) y.2.1) (47 + 4 * (V 0 7).toNat) y.2.2 = W at q1 q2 q3 q6 ⊢
        have w4 : upR W 4 (ur (W 4) 1 0) 4 = ur (ur (V 4) 2 y.2.2.1) 1 0 := by rw [upR_s, q2]
        have wk : ∀ k : Nat, k ≠ 4 → upR W 4 (ur (W 4) 1 0) k = W k := fun k a => upR_n _ a
        generalize upR W 4 (ur (W 4) 1 0) = W2 at w4 wk ⊢
        have wq : ∀ k : Nat, k ≠ 4 → k < 47 + 4 * (V 0 7).toNat ∨ 47 + 4 * (V 0 7).toNat + 4 ≤ k → W2 k = V k := fun k a b => by rw [wk k a, q1 k a b]
        have w41 : W2 4 1 = 0 := by rw [w4, ur_s]
        have w42 : W2 4 2 = y.2.2.1 := by rw [w4, ur_n _ (by omega), ur_s]
        have hHl : HlC W2 (47 + 4 * (V 0 7).toNat) (hsP (hpS Z.2.2.2.1.2 Z.2.2.2.1.1)) := HlC_c2 q3 (fun k a b => wk k (by omega))
        have hco : ∀ h : Nat, isH h → ∀ i : Int, 0 ≤ i ∧ i < 100 → -3 ≤ W2 (h + 3) i ∧ W2 (h + 3) i ≤ 1799 := fun h a i b => by
          by_cases e : h = 47 + 4 * (V 0 7).toNat
          · rw [e, wk _ (by omega)]
            exact q6 i b
          · have hb := isH_b a
            rw [wq (h + 3) (by omega) (by unfold isH at a hh1; omega)]
            exact u3 h a i b
        have w8 : ∀ k : Nat, 5 ≤ k → k < 43 → W2 k = V k := fun k a b => wq k (by omega) (by omega)
        have w71 : ∀ k : Nat, 71 ≤ k → W2 k = V k := fun k a => wq k (by omega) (by omega)
        have w00 : W2 0 = V 0 := wq 0 (by omega) (by omega)
        have hl8 := hZ.1.2.2
        refine S_il2 qX6_hall_46 ?_
        refine S_if_ne (d := qX6_hall_47) (kt := fun _ => ?_) (kf := fun c => absurd c (by decide))
        refine S_al0 qX6_hall_61 ?_
        refine S_getR qX6_hall_62 fX6_17 e0_0 ?_
        refine S_al1 qX6_hall_65 ?_
        refine S_putH qX6_hall_66 fX6_92 (F_2 F8) tX2_2 ?_
        refine S_al0 qX6_hall_69 ?_
        refine S_getR qX6_hall_70 fX6_17 e0_0 ?_
        have x8 : upR W2 8 (ur (W2 8) 2 ((47 + 4 * (V 0 7).toNat : Nat) : Int)) 8 2 = ((47 + 4 * (V 0 7).toNat : Nat) : Int) := by rw [upR_s, ur_s]
        have xt : (upR W2 8 (ur (W2 8) 2 ((47 + 4 * (V 0 7).toNat : Nat) : Int)) 8 2).toNat = 47 + 4 * (V 0 7).toNat := by rw [x8]; exact Int.toNat_natCast _
        have xk : ∀ k : Nat, k ≠ 8 → upR W2 8 (ur (W2 8) 2 ((47 + 4 * (V 0 7).toNat : Nat) : Int)) k = W2 k := fun k a => upR_n _ a
        have x80 : ∀ j : Int, j ≠ 2 → upR W2 8 (ur (W2 8) 2 ((47 + 4 * (V 0 7).toNat : Nat) : Int)) 8 j = V 8 j := fun j a => by rw [upR_s, ur_n _ a, w8 8 (by omega) (by omega)]
        generalize upR W2 8 (ur (W2 8) 2 ((47 + 4 * (V 0 7).toNat : Nat) : Int)) = W3 at x8 xt xk x80 ⊢
        have x12 : W3 (8 + 4) = V (8 + 4) := by rw [xk (8 + 4) (by omega), w8 (8 + 4) (by omega) (by omega)]
        have hHl3 : HlC W3 (47 + 4 * (V 0 7).toNat) (hsP (hpS Z.2.2.2.1.2 Z.2.2.2.1.1)) := HlC_c2 hHl (fun k a b => xk k (by omega))
        have hw3 := hHl3.1.2.1
        have hew : (hsP (hpS Z.2.2.2.1.2 Z.2.2.2.1.1)).1 = W3 (47 + 4 * (V 0 7).toNat) 0 := by rw [hHl3.2]
        refine S_V0W hD qX6_hall_73 lX6_135 vX2_wrapAll (F_r F8) (c_wrapAll (w := W3 (47 + 4 * (V 0 7).toNat) 0) F8 (by rw [xt]; exact hh1) (by rw [xt]) hw3 (fun i hi => by rw [x12]; exact ⟨(hwa i hi).1.1, (hwa i hi).2⟩)) (K := ?_)
        refine S_al0 qX6_hall_76 ?_
        refine S_dup (d := qX6_hall_77) (k := ?_)
        refine S_getI qX6_hall_78 fX6_125 e0_7 ?_
        refine S_iconst qX6_hall_81 ?_
        refine S_iadd qX6_hall_82 ?_
        refine S_putI qX6_hall_83 fX6_125 e0_7 tX6_7 ?_
        refine S_al0 qX6_hall_86 ?_
        refine S_getI qX6_hall_87 fX6_125 e0_7 ?_
        refine S_iconst qX6_hall_90 ?_
        refine S_isub qX6_hall_91 ?_
        refine S_iret hz qX6_hall_92 ?_
        have y0 : ∀ j : Int, j ≠ 7 → upR (upR W3 (8 + 4) (wrS (W3 (47 + 4 * (V 0 7).toNat) 0) (W3 (8 + 4)) 48)) 0 (ur (upR W3 (8 + 4) (wrS (W3 (47 + 4 * (V 0 7).toNat) 0) (W3 (8 + 4)) 48) 0) 7 (upR W3 (8 + 4) (wrS (W3 (47 + 4 * (V 0 7).toNat) 0) (W3 (8 + 4)) 48) 0 7 + 1)) 0 j = V 0 j := fun j a => by rw [upR_s, ur_n _ a, upR_n _ (by omega), xk 0 (by omega), w00]
        have y07 : upR (upR W3 (8 + 4) (wrS (W3 (47 + 4 * (V 0 7).toNat) 0) (W3 (8 + 4)) 48)) 0 (ur (upR W3 (8 + 4) (wrS (W3 (47 + 4 * (V 0 7).toNat) 0) (W3 (8 + 4)) 48) 0) 7 (upR W3 (8 + 4) (wrS (W3 (47 + 4 * (V 0 7).toNat) 0) (W3 (8 + 4)) 48) 0 7 + 1)) 0 7 = V 0 7 + 1 := by rw [upR_s, ur_s, upR_n _ (by omega), xk 0 (by omega), w00]
        have y12 : upR (upR W3 (8 + 4) (wrS (W3 (47 + 4 * (V 0 7).toNat) 0) (W3 (8 + 4)) 48)) 0 (ur (upR W3 (8 + 4) (wrS (W3 (47 + 4 * (V 0 7).toNat) 0) (W3 (8 + 4)) 48) 0) 7 (upR W3 (8 + 4) (wrS (W3 (47 + 4 * (V 0 7).toNat) 0) (W3 (8 + 4)) 48) 0 7 + 1)) (8 + 4) = wrS (W3 (47 + 4 * (V 0 7).toNat) 0) (V (8 + 4)) 48 := by rw [upR_n _ (by omega), upR_s, x12]
        have yk : ∀ k : Nat, k ≠ 0 → k ≠ 8 + 4 → upR (upR W3 (8 + 4) (wrS (W3 (47 + 4 * (V 0 7).toNat) 0) (W3 (8 + 4)) 48)) 0 (ur (upR W3 (8 + 4) (wrS (W3 (47 + 4 * (V 0 7).toNat) 0) (W3 (8 + 4)) 48) 0) 7 (upR W3 (8 + 4) (wrS (W3 (47 + 4 * (V 0 7).toNat) 0) (W3 (8 + 4)) 48) 0 7 + 1)) k = W3 k := fun k a b => by rw [upR_n _ a, upR_n _ b]
        generalize upR (upR W3 (8 + 4) (wrS (W3 (47 + 4 * (V 0 7).toNat) 0) (W3 (8 + 4)) 48)) 0 (ur (upR W3 (8 + 4) (wrS (W3 (47 + 4 * (V 0 7).toNat) 0) (W3 (8 + 4)) 48) 0) 7 (upR W3 (8 + 4) (wrS (W3 (47 + 4 * (V 0 7).toNat) 0) (W3 (8 + 4)) 48) 0 7 + 1)) = W4 at y0 y07 y12 yk ⊢
        have z : ∀ k : Nat, k ≠ 0 → k ≠ 8 + 4 → k ≠ 4 → k ≠ 8 → k < 47 + 4 * (V 0 7).toNat ∨ 47 + 4 * (V 0 7).toNat + 4 ≤ k → W4 k = V k := fun k a b d e f => by rw [yk k a b, xk k e, wq k d f]
        have z8 : W4 8 2 = ((47 + 4 * (V 0 7).toNat : Nat) : Int) := by rw [yk 8 (by omega) (by omega), x8]
        have z80 : ∀ j : Int, j ≠ 2 → W4 8 j = V 8 j := fun j a => by rw [yk 8 (by omega) (by omega), x80 j a]
        have zt : (W4 8 2).toNat = 47 + 4 * (V 0 7).toNat := by rw [z8]; exact Int.toNat_natCast _
        have hHl4 : HlC W4 (47 + 4 * (V 0 7).toNat) (hsP (hpS Z.2.2.2.1.2 Z.2.2.2.1.1)) := HlC_c2 hHl3 (fun k a b => yk k (by omega) (by omega))
        have hl := hZ.1.2.2
        refine RZ.to (Z' := hallZ Z (hsP (hpS Z.2.2.2.1.2 Z.2.2.2.1.1))) ⟨⟨⟨F8, ?_, by rw [zt]; exact hHl4, by rw [z8]; omega, wrap_inv hF.2.2.2.2 (by show 1 ≤ (hsP (hpS Z.2.2.2.1.2 Z.2.2.2.1.1)).1; rw [hew]; omega)⟩, hZ.1.2.1, ?_⟩, ⟨by rw [y07, u1]; rfl, by show 0 ≤ Z.2.2.1 + 1 ∧ Z.2.2.1 + 1 ≤ 6; omega, fun h a i b => ?_⟩, ⟨by rw [yk 4 (by omega) (by omega), xk 4 (by omega)]; exact w41, by rw [z 5 (by omega) (by omega) (by omega) (by omega) (by omega)]; exact t2, ⟨by rw [yk 4 (by omega) (by omega), xk 4 (by omega), w41]; omega, by rw [z 5 (by omega) (by omega) (by omega) (by omega) (by omega)]; exact t3.2⟩⟩, CAn_c hZ.2.2.2.1 (fun k a b => z k (by omega) (by omega) (by omega) (by omega) (by omega)) (Int.le_refl _) rfl, ?_, CAr_c hZ.2.2.2.2.2.1 (by rw [z 6 (by omega) (by omega) (by omega) (by omega) (by omega)]) (z 7 (by omega) (by omega) (by omega) (by omega) (by omega)) rfl, CAg_c hZ.2.2.2.2.2.2 (fun k a b => z k (by omega) (by omega) (by omega) (by omega) (by omega)) rfl⟩ (fun k hk => z k (by omega) (by omega) (by omega) (by omega) (by omega)) ?_
        · show wrapF (hsP (hpS Z.2.2.2.1.2 Z.2.2.2.1.1)).1 Z.1 = (W4 8 0, W4 8 1, W4 (8 + 1), W4 (8 + 2), W4 (8 + 3), W4 (8 + 4), W4 (8 + 5))
          rw [z80 0 (by omega), z80 1 (by omega), y12, z (8 + 1) (by omega) (by omega) (by omega) (by omega) (by omega), z (8 + 2) (by omega) (by omega) (by omega) (by omega) (by omega), z (8 + 3) (by omega) (by omega) (by omega) (by omega) (by omega), z (8 + 5) (by omega) (by omega) (by omega) (by omega) (by omega), es, hew]
          rfl
        · show hlA (W4 8 2) (Z.2.2.1 + 1)
          rw [z8]
          unfold hlA
          omega
        · have hb := isH_b a
          rw [yk (h + 3) (by omega) (by omega), xk (h + 3) (by omega)]
          exact hco h a i b
        · rcases hZ.2.2.2.2.1 with ⟨i1, i2⟩ | ⟨I, i1, i2, i3, i4, i5, i6, i7⟩
          · exact Or.inl ⟨by rw [y0 5 (by omega)]; exact i1, i2⟩
          · refine Or.inr ⟨I, by rw [y0 5 (by omega)]; exact i1, i2, i3.c2 (fun k a b => z k (by omega) (by omega) (by omega) (by omega) (by omega)) (fun k a b => z k (by unfold hlA at i5; omega) (by unfold hlA at i5; omega) (by unfold hlA at i5; omega) (by unfold hlA at i5; omega) (by unfold hlA at i5; omega)), i4, ?_, by rw [sn_c (b := 36) (fun k a b => z k (by omega) (by omega) (by omega) (by omega) (by omega))]; exact i6, i7⟩
            rw [z 22 (by omega) (by omega) (by omega) (by omega) (by omega)]
            show hlA (V 22 2) (Z.2.2.1 + 1)
            unfold hlA at i5 ⊢
            omega
        · unfold nHall
          rw [if_neg (by omega), ← q4, if_pos hy, y07]
          refine congrArg (fun q => (q, hallZ Z (hsP (hpS Z.2.2.2.1.2 Z.2.2.2.1.1)))) ?_
          omega
      · refine S_is2 qX6_hall_37 (K := ?_)
        refine S_al0 qX6_hall_38 ?_
        refine S_getR qX6_hall_39 fX6_46 e0_8 ?_
        refine S_iconst qX6_hall_42 ?_
        refine S_putI qX6_hall_43 fX6_118 e4_1 tX4_1 ?_
        obtain ⟨q1, q2, q3, q4, q5, q6, q7⟩ := hR
        generalize inS (V 5) (V 4 1) (24, 0, 0, V (47 + 4 * (V 0 7).toNat + 1), V (47 + 4 * (V 0 7).toNat + 2)) (0, 0, V (47 + 4 * (V 0 7).toNat + 3)) = y at hy q1 q2 q3 q4 q5 q6 q7 ⊢
        generalize hW : rdM (hbM V (47 + 4 * (V 0 7).toNat) y.2.1) (47 + 4 * (V 0 7).toNat) y.2.2 = W at q1 q2 q3 q6 ⊢
        have w4 : upR W 4 (ur (W 4) 1 0) 4 = ur (ur (V 4) 2 y.2.2.1) 1 0 := by rw [upR_s, q2]
        have wk : ∀ k : Nat, k ≠ 4 → upR W 4 (ur (W 4) 1 0) k = W k := fun k a => upR_n _ a
        generalize upR W 4 (ur (W 4) 1 0) = W2 at w4 wk ⊢
        have wq : ∀ k : Nat, k ≠ 4 → k < 47 + 4 * (V 0 7).toNat ∨ 47 + 4 * (V 0 7).toNat + 4 ≤ k → W2 k = V k := fun k a b => by rw [wk k a, q1 k a b]
        have w41 : W2 4 1 = 0 := by rw [w4, ur_s]
        have w42 : W2 4 2 = y.2.2.1 := by rw [w4, ur_n _ (by omega), ur_s]
        have hHl : HlC W2 (47 + 4 * (V 0 7).toNat) (hsP (hpS Z.2.2.2.1.2 Z.2.2.2.1.1)) := HlC_c2 q3 (fun k a b => wk k (by omega))
        have hco : ∀ h : Nat, isH h → ∀ i : Int, 0 ≤ i ∧ i < 100 → -3 ≤ W2 (h + 3) i ∧ W2 (h + 3) i ≤ 1799 := fun h a i b => by
          by_cases e : h = 47 + 4 * (V 0 7).toNat
          · rw [e, wk _ (by omega)]
            exact q6 i b
          · have hb := isH_b a
            rw [wq (h + 3) (by omega) (by unfold isH at a hh1; omega)]
            exact u3 h a i b
        have w8 : ∀ k : Nat, 5 ≤ k → k < 43 → W2 k = V k := fun k a b => wq k (by omega) (by omega)
        have w71 : ∀ k : Nat, 71 ≤ k → W2 k = V k := fun k a => wq k (by omega) (by omega)
        have w00 : W2 0 = V 0 := wq 0 (by omega) (by omega)
        have hl8 := hZ.1.2.2
        refine S_il2 qX6_hall_46 ?_
        refine S_if_ne (d := qX6_hall_47) (kt := fun c => absurd c (by decide)) (kf := fun _ => ?_)
        refine S_bipush (d := qX6_hall_50) (k := ?_)
        refine S_al0 qX6_hall_52 ?_
        refine S_getR qX6_hall_53 fX6_46 e0_8 ?_
        refine S_getI qX6_hall_56 fX6_132 e4_2 ?_
        refine S_isub qX6_hall_59 ?_
        refine S_iret hz qX6_hall_60 ?_
        rw [w42]
        refine RZ.to (Z' := txZ Z (0, Z.2.2.2.1.2)) ⟨⟨hF.c2 (fun k a b => w8 k (by omega) (by omega)) (fun k a b => wq k (by unfold hlA at hl8; omega) (by unfold hlA at hl8; omega)), hZ.1.2.1, by rw [w8 8 (by omega) (by omega)]; exact hl8⟩, ⟨by rw [w00]; exact u1, u2, hco⟩, ⟨w41, by rw [w8 5 (by omega) (by omega)]; exact t2, ⟨by omega, by rw [w8 5 (by omega) (by omega)]; exact t3.2⟩⟩, CAn_c hZ.2.2.2.1 (fun k a b => w8 k (by omega) (by omega)) (Int.le_refl _) rfl, ?_, CAr_c hZ.2.2.2.2.2.1 (by rw [w8 6 (by omega) (by omega)]) (w8 7 (by omega) (by omega)) rfl, CAg_c hZ.2.2.2.2.2.2 (fun k a b => w71 k (by omega)) rfl⟩ (fun k hk => w71 k (by omega)) ?_
        · rcases hZ.2.2.2.2.1 with ⟨i1, i2⟩ | ⟨I, i1, i2, i3, i4, i5, i6, i7⟩
          · exact Or.inl ⟨by rw [w00]; exact i1, i2⟩
          · exact Or.inr ⟨I, by rw [w00]; exact i1, i2, i3.c2 (fun k a b => w8 k (by omega) (by omega)) (fun k a b => wq k (by unfold hlA at i5; omega) (by unfold hlA at i5; omega)), i4, by rw [w8 22 (by omega) (by omega)]; exact i5, by rw [sn_c (b := 36) (fun k a b => w8 k (by omega) (by omega))]; exact i6, i7⟩
        · unfold nHall
          rw [if_neg (by omega), ← q4, if_neg (by rw [hy]; decide), ← q5]
    · refine S_bipush (d := qX6_hall_16) (k := ?_)
      refine S_iret hz qX6_hall_18 ?_
      refine RZ.eq hZ ?_
      unfold nHall
      rw [if_pos (by omega)]
