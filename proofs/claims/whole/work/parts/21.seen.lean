def seeB (N : SN) (k : Int) (s : FS) : Bool := allN (fun i => decide (N.2.2.2.1 i = k → s.2.2.2.2.2.1 (8 * N.2.1 i) = N.2.2.1 i)) N.1.toNat
def seeS (hs : HS) (N : SN) : Nat → Int → FS → Bool
  | 0, _, _ => true
  | n + 1, k, s => seeB N k s && seeS hs N n (k + 1) (goS hs false s)
def rouL (n : Int) (fo : Int → Int) (m : Int) : Int → Int := fun i => if 0 ≤ i ∧ i < m then (if i + 1 < n then i + 1 else 0) else fo i
def rouS (s : FS) : FS := (s.1, s.2.1, s.2.2.1, s.2.2.2.1, rouL s.1 s.2.2.2.2.1 s.1, s.2.2.2.2.2.1, s.2.2.2.2.2.2)
def danS (hs : HS) (row : Int → Int) : Nat → Int → FS → FS
  | 0, _, s => s
  | n + 1, i, s => danS hs row n (i + 1) (if row i = 2 then rouS s else goS hs (decide (row i = 1)) s)
theorem rouL_1 (n : Int) (fo : Int → Int) {m x : Int} (h : 0 ≤ m) (hx : x = if m + 1 < n then m + 1 else 0) : ur (rouL n fo m) m x = rouL n fo (m + 1) := by
  funext i
  subst hx
  unfold ur rouL
  by_cases h1 : i = m
  · subst h1; rw [if_pos rfl, if_pos (show 0 ≤ i ∧ i < i + 1 by omega)]
  · rw [if_neg h1]
    by_cases h2 : 0 ≤ i ∧ i < m
    · rw [if_pos h2, if_pos (show 0 ≤ i ∧ i < m + 1 by omega)]
    · rw [if_neg h2, if_neg (by omega)]
theorem rou_inv {w : Int} {s : FS} (h : FInv w s) : FInv w (rouS s) := by
  obtain ⟨h1, h2, h3, h4, h5, h6⟩ := h
  refine ⟨h1, h2, h3, fun d hd => ?_, h5, h6⟩
  replace hd : 0 ≤ d ∧ d < s.1 := hd
  show 0 ≤ rouL s.1 s.2.2.2.2.1 s.1 d ∧ rouL s.1 s.2.2.2.2.1 s.1 d < s.1
  unfold rouL
  rw [if_pos hd]
  split <;> omega
/-- another row of who goes after whom -/
theorem FlC.fo {V : MM} {f : Nat} {hs : HS} {s : FS} (h : FlC V f hs s) (r : Int → Int) (hr : ∀ d, 0 ≤ d ∧ d < s.1 → 0 ≤ r d ∧ r d < s.1) : FlC (upR V (f + 3) r) f hs (s.1, s.2.1, s.2.2.1, s.2.2.2.1, r, s.2.2.2.2.2.1, s.2.2.2.2.2.2) := by
  obtain ⟨hf, rfl, hH, h0, hI⟩ := h
  have hfb := isF_b hf
  obtain ⟨h1, h2, h3, h4, h5, h6⟩ := hI
  have e : upR V (f + 3) r f = V f := upR_n _ (by omega)
  refine ⟨hf, ?_, ?_, by rw [e]; exact h0, ⟨h1, h2, h3, hr, h5, h6⟩⟩
  · show _ = (upR V (f + 3) r f 0, upR V (f + 3) r f 1, upR V (f + 3) r (f + 1), upR V (f + 3) r (f + 2), upR V (f + 3) r (f + 3), upR V (f + 3) r (f + 4), upR V (f + 3) r (f + 5))
    rw [e, upR_n _ (by omega), upR_n _ (by omega), upR_s, upR_n _ (by omega), upR_n _ (by omega)]
  · rw [e]
    exact HlC_cong hH (fun k h1 h2 => upR_n _ (by omega))

theorem round_loop {g : GC} {X : CX} {Q : Option AV → MM → Prop} {f : Nat} {V : MM} (hf : isF f) (hn : 0 ≤ V f 0 ∧ V f 0 ≤ 6) (hz : Fi g X none Q) (hD : Dp X 3) (hQ : Q none (upR V (f + 3) (rouL (V f 0) (V (f + 3)) (V f 0)))) : ∀ (n : Nat) (d : Int) (V1 : MM), 0 ≤ d → d + n = V f 0 → V1 = upR V (f + 3) (rouL (V f 0) (V (f + 3)) d) → SW g X RX1 cX1_followRound 2 [some (vr f), some (vi d)] [] V1 := by
  have hfb := isF_b hf
  intro n
  induction n with
  | zero =>
    intro d V1 h0 h1 hV
    have e0 : V1 f = V f := by rw [hV, upR_n _ (by omega)]
    have e1 := congrFun e0 0
    have e : d = V f 0 := by omega
    subst e
    refine S_il1 qX1_followRound_2 ?_
    refine S_al0 qX1_followRound_3 ?_
    refine S_getI qX1_followRound_4 fX1_60 (F_0 hf) ?_
    refine S_icmp_ge (d := qX1_followRound_7) (kt := fun c7 => ?_) (kf := fun c7 => ?_)
    rotate_left
    · omega
    refine S_vret hz qX1_followRound_38 ?_
    rw [hV]
    exact hQ
  | succ n ih =>
    intro d V1 h0 h1 hV
    have e0 : V1 f = V f := by rw [hV, upR_n _ (by omega)]
    have e1 := congrFun e0 0
    have e3 : V1 (f + 3) = rouL (V f 0) (V (f + 3)) d := by rw [hV, upR_s]
    refine S_il1 qX1_followRound_2 ?_
    refine S_al0 qX1_followRound_3 ?_
    refine S_getI qX1_followRound_4 fX1_60 (F_0 hf) ?_
    refine S_icmp_ge (d := qX1_followRound_7) (kt := fun c7 => ?_) (kf := fun c7 => ?_)
    · omega
    refine S_al0 qX1_followRound_10 ?_
    refine S_il1 qX1_followRound_11 ?_
    refine S_il1 qX1_followRound_12 ?_
    refine S_iconst qX1_followRound_13 ?_
    refine S_iadd qX1_followRound_14 ?_
    refine S_al0 qX1_followRound_15 ?_
    refine S_getI qX1_followRound_16 fX1_60 (F_0 hf) ?_
    refine S_icmp_ge (d := qX1_followRound_19) (kt := fun c19 => ?_) (kf := fun c19 => ?_)
    · refine S_iconst qX1_followRound_28 ?_
      refine S_V2W hD qX1_followRound_29 lX1_63 vX2_follow (F_r hf) (c_follow hf (by omega) (by omega) (by omega)) (K := ?_)
      refine S_inc1 qX1_followRound_32 (K := ?_)
      refine S_goto qX1_followRound_35 ?_
      refine ih (d + 1) _ (by omega) (by omega) ?_
      rw [e3, rouL_1 _ _ h0 (by first | rw [if_pos (by omega)] | rw [if_neg (by omega)]), hV, upR_u]
    · refine S_il1 qX1_followRound_22 ?_
      refine S_iconst qX1_followRound_23 ?_
      refine S_iadd qX1_followRound_24 ?_
      refine S_goto qX1_followRound_25 ?_
      refine S_V2W hD qX1_followRound_29 lX1_63 vX2_follow (F_r hf) (c_follow hf (by omega) (by omega) (by omega)) (K := ?_)
      refine S_inc1 qX1_followRound_32 (K := ?_)
      refine S_goto qX1_followRound_35 ?_
      refine ih (d + 1) _ (by omega) (by omega) ?_
      rw [e3, rouL_1 _ _ h0 (by first | rw [if_pos (by omega)] | rw [if_neg (by omega)]), hV, upR_u]
theorem c_followRound {g : GC} {f : Nat} {V : MM} {hs : HS} {s : FS} (hF : FlC V f hs s) : Ct g mX1_followRound 3 [vr f] V (RV (fun V' => FlC V' f hs (rouS s) ∧ Sm V V' f 7 ∧ V' f 2 = V f 2)) := by
  refine Ct.of (ls := [some (vr f), none]) (plainFor_of_name (by decide +kernel)) rfl (by exact Nat.le_of_ble_eq_true rfl) (fun X hz hD => ?_)
  have hf := hF.1
  have hfb := isF_b hf
  have hn := hF.n6
  have hr := rou_inv hF.2.2.2.2
  have es : s = fsC V f := hF.2.1
  refine S_iconst qX1_followRound_0 ?_
  refine S_is1 qX1_followRound_1 (K := ?_)
  refine round_loop hf hn.2.2.1 hz hD ⟨rfl, ?_, fun k hk => upR_n _ (by omega), by rw [upR_n _ (by omega)]⟩ (V f 0).toNat 0 V (by omega) (by omega) ?_
  · have h := hF.fo (rouL s.1 s.2.2.2.2.1 s.1) hr.2.2.2.1
    rw [es] at h ⊢
    exact h
  · have e : rouL (V f 0) (V (f + 3)) 0 = V (f + 3) := by
      funext i
      unfold rouL
      rw [if_neg (by omega)]
    rw [e, upR_id]

theorem dance_loop {g : GC} {X : CX} {Q : Option AV → MM → Prop} {b f : Nat} {V : MM} {hs : HS} {sf : FS} (hb : isB b) (hn : 0 ≤ V b 4 ∧ V b 4 ≤ 10) (hrow : ∀ i, 0 ≤ i ∧ i < V b 4 → 0 ≤ V (b + 4) i ∧ V (b + 4) i ≤ 2) (hz : Fi g X none Q) (hD : Dp X 7) (hQ : ∀ V', TrC V V' f hs sf → Q none V') : ∀ (n : Nat) (i : Int) (V1 : MM) (s1 : FS), 0 ≤ i → i + n = V b 4 → TrC V V1 f hs s1 → danS hs (V (b + 4)) n i s1 = sf → s1.2.1 + n ≤ 20000 → SW g X RX1 cX1_danceOn 2 [some (vr b), some (vr f), some (vi i)] [] V1 := by
  have hbb := isB_b hb
  intro n
  induction n with
  | zero =>
    intro i V1 s1 h0 h1 hT hg hbt
    have hf := hT.1.1
    have hfb := isF_b hf
    have e0 : V1 b 4 = V b 4 := by rw [hT.2.1 b (by omega)]
    unfold danS at hg
    subst hg
    refine S_il2 qX1_danceOn_2 ?_
    refine S_al0 qX1_danceOn_3 ?_
    refine S_getI qX1_danceOn_4 fX1_40 (B_4 hb) ?_
    refine S_icmp_ge (d := qX1_danceOn_7) (kt := fun c7 => ?_) (kf := fun c7 => ?_)
    rotate_left
    · omega
    refine S_vret hz qX1_danceOn_52 ?_
    exact hQ V1 hT
  | succ n ih =>
    intro i V1 s1 h0 h1 hT hg hbt
    have hf := hT.1.1
    have hfb := isF_b hf
    have hn6 := hT.1.n6
    have e0 : V1 b 4 = V b 4 := by rw [hT.2.1 b (by omega)]
    have e4 : V1 (b + 4) = V (b + 4) := hT.2.1 (b + 4) (by omega)
    have e5 := congrFun e4 i
    have w1 := hrow i (by omega)
    unfold danS at hg
    refine S_il2 qX1_danceOn_2 ?_
    refine S_al0 qX1_danceOn_3 ?_
    refine S_getI qX1_danceOn_4 fX1_40 (B_4 hb) ?_
    refine S_icmp_ge (d := qX1_danceOn_7) (kt := fun c7 => ?_) (kf := fun c7 => ?_)
    · omega
    refine S_al0 qX1_danceOn_10 ?_
    refine S_getR qX1_danceOn_11 fX1_21 (B_5 hb) ?_
    refine S_il2 qX1_danceOn_14 ?_
    refine S_iald qX1_danceOn_15 (Ba_4 hb) (K := ?_)
    refine S_iconst qX1_danceOn_16 ?_
    refine S_icmp_ne (d := qX1_danceOn_17) (kt := fun c17 => ?_) (kf := fun c17 => ?_)
    · refine S_al1 qX1_danceOn_27 ?_
      refine S_al0 qX1_danceOn_28 ?_
      refine S_getR qX1_danceOn_29 fX1_21 (B_5 hb) ?_
      refine S_il2 qX1_danceOn_32 ?_
      refine S_iald qX1_danceOn_33 (Ba_4 hb) (K := ?_)
      refine S_iconst qX1_danceOn_34 ?_
      refine S_icmp_ne (d := qX1_danceOn_35) (kt := fun c35 => ?_) (kf := fun c35 => ?_)
      · refine S_iconst qX1_danceOn_42 ?_
        refine S_V1V hD qX1_danceOn_43 lX1_52 vX2_goBeat (F_r hf) (c_goBeat false hT.1 (by omega)) (kk := fun V43 h43 => ?_)
        have hT2 := hT.go h43
        refine S_inc2 qX1_danceOn_46 (K := ?_)
        refine S_goto qX1_danceOn_49 ?_
        rw [e5] at c17
        first
          | (rw [if_pos c17] at hg
             exact ih (i + 1) _ _ (by omega) (by omega) hT2 hg (by show s1.2.1 + (n : Int) ≤ 20000; omega))
          | (rw [e5] at c35
             rw [if_neg c17] at hg
             first | rw [decide_eq_true c35] at hg | rw [decide_eq_false c35] at hg
             exact ih (i + 1) _ _ (by omega) (by omega) hT2 hg (by show s1.2.1 + 1 + (n : Int) ≤ 20000; omega))
      · refine S_iconst qX1_danceOn_38 ?_
        refine S_goto qX1_danceOn_39 ?_
        refine S_V1V hD qX1_danceOn_43 lX1_52 vX2_goBeat (F_r hf) (c_goBeat true hT.1 (by omega)) (kk := fun V43 h43 => ?_)
        have hT2 := hT.go h43
        refine S_inc2 qX1_danceOn_46 (K := ?_)
        refine S_goto qX1_danceOn_49 ?_
        rw [e5] at c17
        first
          | (rw [if_pos c17] at hg
             exact ih (i + 1) _ _ (by omega) (by omega) hT2 hg (by show s1.2.1 + (n : Int) ≤ 20000; omega))
          | (rw [e5] at c35
             rw [if_neg c17] at hg
             first | rw [decide_eq_true c35] at hg | rw [decide_eq_false c35] at hg
             exact ih (i + 1) _ _ (by omega) (by omega) hT2 hg (by show s1.2.1 + 1 + (n : Int) ≤ 20000; omega))
    · refine S_al1 qX1_danceOn_20 ?_
      refine S_S1V hD qX1_danceOn_21 lX1_56 sX1_followRound (c_followRound hT.1) (kk := fun V21 h21 => ?_)
      have hT2 := hT.go h21
      refine S_goto qX1_danceOn_24 ?_
      refine S_inc2 qX1_danceOn_46 (K := ?_)
      refine S_goto qX1_danceOn_49 ?_
      rw [e5] at c17
      first
        | (rw [if_pos c17] at hg
           exact ih (i + 1) _ _ (by omega) (by omega) hT2 hg (by show s1.2.1 + (n : Int) ≤ 20000; omega))
        | (rw [e5] at c35
           rw [if_neg c17] at hg
           first | rw [decide_eq_true c35] at hg | rw [decide_eq_false c35] at hg
           exact ih (i + 1) _ _ (by omega) (by omega) hT2 hg (by show s1.2.1 + 1 + (n : Int) ≤ 20000; omega))
theorem c_danceOn {g : GC} {b f : Nat} {V : MM} {hs : HS} {s : FS} (hb : isB b) (hF : FlC V f hs s) (hN : NInv s.1 (snC V b)) (hbt : s.2.1 ≤ 10000) : Ct g mX1_danceOn 7 [vr b, vr f] V (RV (fun V' => TrC V V' f hs (danS hs (V (b + 4)) (V b 4).toNat 0 s))) := by
  refine Ct.of (ls := [some (vr b), some (vr f), none]) (plainFor_of_name (by decide +kernel)) rfl (by exact Nat.le_of_ble_eq_true rfl) (fun X hz hD => ?_)
  have hf := hF.1
  obtain ⟨-, -, hr, hbk, -, -⟩ := hN
  replace hr : 0 ≤ V b 4 ∧ V b 4 ≤ 10 := hr
  refine S_iconst qX1_danceOn_0 ?_
  refine S_is2 qX1_danceOn_1 (K := ?_)
  exact dance_loop hb hr hbk hz hD (fun V1 h => ⟨rfl, h⟩) (V b 4).toNat 0 V s (by omega) (by omega) (TrC.rf hF) rfl (by omega)

theorem seen_in {g : GC} {X : CX} {Q : Option AV → MM → Prop} {b f : Nat} {V : MM} {hs : HS} {s : FS} {k : Int} (hb : isB b) (hF : FlC V f hs s) (hN : NInv s.1 (snC V b)) (rk : 0 ≤ k ∧ k ≤ 12) (hz : Fi g X (some .boolean) Q) (hD : Dp X 7) (hk : seeB (snC V b) k s = true → SW g X RX1 cX1_allSeenOn 56 [some (vr b), some (vr f), some (vi k), none] [] V) (hQ : ¬ seeB (snC V b) k s = true → Q (some (vi 0)) V) : ∀ (n : Nat) (i : Int), 0 ≤ i → i + n = V b 0 → (∀ j : Int, 0 ≤ j ∧ j < i → V (b + 3) j = k → V (f + 4) (8 * V (b + 1) j) = V (b + 2) j) → SW g X RX1 cX1_allSeenOn 10 [some (vr b), some (vr f), some (vi k), some (vi i)] [] V := by
  obtain ⟨hr, hbk, -⟩ := hN
  replace hr : 0 ≤ V b 0 ∧ V b 0 ≤ 5 := hr
  replace hbk : ∀ i, 0 ≤ i ∧ i < V b 0 → (0 ≤ V (b + 1) i ∧ V (b + 1) i < s.1) ∧ (0 ≤ V (b + 2) i ∧ V (b + 2) i ≤ 98) ∧ (0 ≤ V (b + 3) i ∧ V (b + 3) i ≤ 12) := hbk
  have hi : seeB (snC V b) k s = true ↔ ∀ i : Int, 0 ≤ i ∧ i < V b 0 → (V (b + 3) i = k → V (f + 4) (8 * V (b + 1) i) = V (b + 2) i) := by
    unfold seeB
    rw [allN_I hr.1, hF.2.1]
    simp only [decide_eq_true_eq]
  have hn6 := hF.n6
  have hw := hF.w99
  have hwa : ∀ i : Int, 0 ≤ i ∧ i < 48 → 0 ≤ V (f + 4) i ∧ V (f + 4) i < 99 := fun i hi => by
    have h5 := hF.2.2.2.2.2.2.2.2.1 i hi
    rw [hF.2.1] at h5
    replace h5 : 0 ≤ V (f + 4) i ∧ V (f + 4) i < hs.1 := h5
    omega
  have hf := hF.1
  intro n
  induction n with
  | zero =>
    intro i h0 h1 hall
    refine S_il3 qX1_allSeenOn_10 ?_
    refine S_al0 qX1_allSeenOn_11 ?_
    refine S_getI qX1_allSeenOn_12 fX1_30 (B_0 hb) ?_
    refine S_icmp_ge (d := qX1_allSeenOn_15) (kt := fun c15 => ?_) (kf := fun c15 => ?_)
    rotate_left
    · omega
    exact SW.forget 3 (hk (hi.mpr (fun j hj => hall j (by omega))))
  | succ n ih =>
    intro i h0 h1 hall
    have w1 := hbk i (by omega)
    have w2 := hwa (8 * V (b + 1) i) (by omega)
    refine S_il3 qX1_allSeenOn_10 ?_
    refine S_al0 qX1_allSeenOn_11 ?_
    refine S_getI qX1_allSeenOn_12 fX1_30 (B_0 hb) ?_
    refine S_icmp_ge (d := qX1_allSeenOn_15) (kt := fun c15 => ?_) (kf := fun c15 => ?_)
    · omega
    refine S_al0 qX1_allSeenOn_18 ?_
    refine S_getR qX1_allSeenOn_19 fX1_18 (B_3 hb) ?_
    refine S_il3 qX1_allSeenOn_22 ?_
    refine S_iald qX1_allSeenOn_23 (Ba_3 hb) (K := ?_)
    refine S_il2 qX1_allSeenOn_24 ?_
    refine S_icmp_ne (d := qX1_allSeenOn_25) (kt := fun c25 => ?_) (kf := fun c25 => ?_)
    · refine S_inc3 qX1_allSeenOn_50 (K := ?_)
      refine S_goto qX1_allSeenOn_53 ?_
      refine ih (i + 1) (by omega) (by omega) (fun j hj => ?_)
      by_cases e : j = i
      · subst e
        first | (intro h6; exact c45) | (intro h6; exact absurd h6 c25)
      · exact hall j (by omega)
    · refine S_al1 qX1_allSeenOn_28 ?_
      refine S_al0 qX1_allSeenOn_29 ?_
      refine S_getR qX1_allSeenOn_30 fX1_11 (B_1 hb) ?_
      refine S_il3 qX1_allSeenOn_33 ?_
      refine S_iald qX1_allSeenOn_34 (Ba_1 hb) (K := ?_)
      refine S_iconst qX1_allSeenOn_35 ?_
      refine S_V2E hD qX1_allSeenOn_36 lX1_46 vX2_wasOf (F_r hf) (c_was0 hf (by omega) (by omega)) (K := ?_)
      refine S_al0 qX1_allSeenOn_39 ?_
      refine S_getR qX1_allSeenOn_40 fX1_15 (B_2 hb) ?_
      refine S_il3 qX1_allSeenOn_43 ?_
      refine S_iald qX1_allSeenOn_44 (Ba_2 hb) (K := ?_)
      refine S_icmp_eq (d := qX1_allSeenOn_45) (kt := fun c45 => ?_) (kf := fun c45 => ?_)
      · refine S_inc3 qX1_allSeenOn_50 (K := ?_)
        refine S_goto qX1_allSeenOn_53 ?_
        refine ih (i + 1) (by omega) (by omega) (fun j hj => ?_)
        by_cases e : j = i
        · subst e
          first | (intro h6; exact c45) | (intro h6; exact absurd h6 c25)
        · exact hall j (by omega)
      · refine S_iconst qX1_allSeenOn_48 ?_
        refine S_zret hz qX1_allSeenOn_49 (by omega) ?_
        exact hQ (fun h => c45 (hi.mp h i (by omega) c25))
theorem seen_out {g : GC} {X : CX} {Q : Option AV → MM → Prop} {b f : Nat} {V : MM} {hs : HS} {N : SN} {xf : Bool} (hb : isB b) (hbe : snC V b = N) (hz : Fi g X (some .boolean) Q) (hD : Dp X 7) (hQ : ∀ V', Sm V V' f 7 → Q (some (vi (b2i xf))) V') : ∀ (n : Nat) (k : Int) (V1 : MM) (s1 : FS), 0 ≤ k → k + n = 13 → TrC V V1 f hs s1 → NInv s1.1 N → seeS hs N n k s1 = xf → s1.2.1 + n ≤ 20000 → SW g X RX1 cX1_allSeenOn 2 [some (vr b), some (vr f), some (vi k), none] [] V1 := by
  have hbb := isB_b hb
  intro n
  induction n with
  | zero =>
    intro k V1 s1 h0 h1 hT hN hg hbt
    have hf := hT.1.1
    unfold seeS at hg
    subst hg
    refine S_il2 qX1_allSeenOn_2 ?_
    refine S_bipush (d := qX1_allSeenOn_3) (k := ?_)
    refine S_icmp_gt (d := qX1_allSeenOn_5) (kt := fun c5 => ?_) (kf := fun c5 => ?_)
    rotate_left
    · omega
    refine S_iconst qX1_allSeenOn_67 ?_
    refine S_zret hz qX1_allSeenOn_68 (by omega) ?_
    exact hQ V1 hT.2.1
  | succ n ih =>
    intro k V1 s1 h0 h1 hT hN hg hbt
    have hf := hT.1.1
    have hfb := isF_b hf
    have hn6 := hT.1.n6
    have eN : snC V1 b = N := by
      rw [← hbe]
      show (V1 b 0, V1 (b + 1), V1 (b + 2), V1 (b + 3), V1 b 4, V1 (b + 4), V1 b 6, V1 (b + 5), V1 (b + 6)) = _
      rw [hT.2.1 b (by omega), hT.2.1 (b + 1) (by omega), hT.2.1 (b + 2) (by omega), hT.2.1 (b + 3) (by omega), hT.2.1 (b + 4) (by omega), hT.2.1 (b + 5) (by omega), hT.2.1 (b + 6) (by omega)]
    have hr : 0 ≤ V1 b 0 ∧ V1 b 0 ≤ 5 := by
      have := hN.1
      rw [← eN] at this
      exact this
    unfold seeS at hg
    refine S_il2 qX1_allSeenOn_2 ?_
    refine S_bipush (d := qX1_allSeenOn_3) (k := ?_)
    refine S_icmp_gt (d := qX1_allSeenOn_5) (kt := fun c5 => ?_) (kf := fun c5 => ?_)
    · omega
    refine S_iconst qX1_allSeenOn_8 ?_
    refine S_is3 qX1_allSeenOn_9 (K := ?_)
    refine seen_in hb hT.1 (by rw [eN]; exact hN) (by omega) hz hD (fun hs1 => ?_) (fun hs1 => ?_) (V1 b 0).toNat 0 (by omega) (by omega) (fun j hj => by omega)
    · rw [eN] at hs1
      rw [hs1, Bool.true_and] at hg
      refine S_al1 qX1_allSeenOn_56 ?_
      refine S_iconst qX1_allSeenOn_57 ?_
      refine S_V1V hD qX1_allSeenOn_58 lX1_52 vX2_goBeat (F_r hf) (c_goBeat false hT.1 (by omega)) (kk := fun V58 h58 => ?_)
      have hT2 := hT.go h58
      refine S_inc2 qX1_allSeenOn_61 (K := ?_)
      refine S_goto qX1_allSeenOn_64 ?_
      exact ih (k + 1) _ _ (by omega) (by omega) hT2 hN hg (by show s1.2.1 + 1 + (n : Int) ≤ 20000; omega)
    · rw [eN] at hs1
      have e : xf = false := by
        rw [← hg]
        cases hq : seeB N k s1
        · rfl
        · exact absurd hq hs1
      have h := hQ V1 hT.2.1
      rw [e] at h
      exact h
theorem c_allSeenOn {g : GC} {b f : Nat} {V : MM} {hs : HS} {s : FS} (hb : isB b) (hF : FlC V f hs s) (hN : NInv s.1 (snC V b)) (hbt : s.2.1 ≤ 10000) : Ct g mX1_allSeenOn 7 [vr b, vr f] V (RI (fun z V' => (z = 1 ∧ seeS hs (snC V b) 13 0 s = true ∨ z = 0 ∧ ¬ seeS hs (snC V b) 13 0 s = true) ∧ Sm V V' f 7)) := by
  refine Ct.of (ls := [some (vr b), some (vr f), none, none]) (plainFor_of_name (by decide +kernel)) rfl (by exact Nat.le_of_ble_eq_true rfl) (fun X hz hD => ?_)
  have hf := hF.1
  refine S_iconst qX1_allSeenOn_0 ?_
  refine S_is2 qX1_allSeenOn_1 (K := ?_)
  refine seen_out (hs := hs) (xf := seeS hs (snC V b) 13 0 s) hb rfl hz hD (fun V1 h => ⟨_, rfl, ?_, h⟩) 13 0 V s (by omega) (by omega) (TrC.rf hF) hN rfl (by omega)
  cases seeS hs (snC V b) 13 0 s <;> simp [b2i]
