/-- what is left of a hall's reading where a clause begins -/
def rstS (T : Int → Int) (L : Int) (m : Nat) (c : CT) (s : ST) : Bool × CT × ST := if (clS T L c s).1 = true then fiE L (clL T L m (clS T L c s).2.1 (clS T L c s).2.2) else clS T L c s
theorem rst_in (T : Int → Int) (L : Int) (c : CT) (s : ST) : inS T L c s = rstS T L 9 c s := rfl
theorem GT.at {V0 V V' : MM} {T : Int → Int} {L f : Int} {n : Nat} {c : CT} {s : ST} (h : GT V0 V T L f n c s) (ha : At V V') (hX : TX V' T L (s.1 + 1)) : GT V0 V' T L f n c (s.1 + 1, s.2) := by
  obtain ⟨h1, h2, h3, h4, h5, h6⟩ := h
  have e : Ea V V' f n (100 * f + s.2.1) := ⟨fun k a j b => by rw [ha.1 k (by omega)], fun i a => by rw [ha.1 95 (by omega)]⟩
  obtain ⟨c1, c2, c3, c4, c5, c6⟩ := h5
  have hl : ∀ w a, lasM V' w n (10 * f) a = lasM V w n (10 * f) a := fun w a => CR_las e w a
  refine ⟨hX, by rw [ha.2 20 (by omega) (by omega)]; exact h2, by rw [ha.1 95 (by omega)]; exact h3, ⟨⟨hX.2.2.2.1, h4.1.2⟩, by show s.2.1 ≤ s.1 + 1; have := h4.2; omega⟩, ⟨by rw [hl]; exact c1, by rw [hl]; exact c2, fun j hj => ?_, fun fs d => ?_, c5, c6⟩, h6.tr (ha.px f)⟩
  · have := c3 j hj
    unfold ClOK at this ⊢
    rw [ha.1 91 (by omega), ha.1 92 (by omega), ha.1 93 (by omega), ha.1 94 (by omega), ha.1 95 (by omega)]
    exact this
  · rw [← c4 fs d]
    exact sum_c (e := 10 * f + n) n (10 * f) 0 rfl (fun j hj => ⟨by rw [ha.1 91 (by omega)], by rw [ha.1 92 (by omega)], fun _ => by unfold hldM; rw [ha.1 93 (by omega), ha.1 94 (by omega), ha.1 95 (by omega)]⟩)
theorem GT.cl {V0 V : MM} {T : Int → Int} {L f : Int} {n : Nat} {c : CT} {s : ST} (h : GT V0 V T L f n c s) (x : Int) : GT V0 (upR V 90 (ur (V 90) f x)) T L f n c s := by
  obtain ⟨⟨x1, x2, x3, x4, x5, x6⟩, h2, h3, h4, ⟨c1, c2, c3, c4, c5, c6⟩, h6⟩ := h
  have hk : ∀ k : Nat, k ≠ 90 → upR V 90 (ur (V 90) f x) k = V k := fun k a => upR_n _ a
  have e : Ea V (upR V 90 (ur (V 90) f x)) f n (100 * f + s.2.1) := ⟨fun k a j b => by rw [hk k (by omega)], fun i a => by rw [hk 95 (by omega)]⟩
  have hl : ∀ w a, lasM (upR V 90 (ur (V 90) f x)) w n (10 * f) a = lasM V w n (10 * f) a := fun w a => CR_las e w a
  refine ⟨⟨by rw [hk 83 (by omega)]; exact x1, by rw [hk 89 (by omega)]; exact x2, by rw [hk 83 (by omega)]; exact x3, x4, x5, x6⟩, by rw [hk 83 (by omega)]; exact h2, by rw [hk 95 (by omega)]; exact h3, h4, ⟨by rw [hl]; exact c1, by rw [hl]; exact c2, fun j hj => ?_, fun fs d => ?_, c5, c6⟩, h6.tr ⟨fun k a b => hk k (by omega), fun j a b c d e => by rw [hk 83 (by omega)], fun k a i b => by rw [hk k (by omega)], fun i a => by rw [hk 95 (by omega)], fun i a => by rw [upR_s, ur_n _ a]⟩⟩
  · have := c3 j hj
    unfold ClOK at this ⊢
    rw [hk 91 (by omega), hk 92 (by omega), hk 93 (by omega), hk 94 (by omega), hk 95 (by omega)]
    exact this
  · rw [← c4 fs d]
    exact sum_c (e := 10 * f + n) n (10 * f) 0 rfl (fun j hj => ⟨by rw [hk 91 (by omega)], by rw [hk 92 (by omega)], fun _ => by unfold hldM; rw [hk 93 (by omega), hk 94 (by omega), hk 95 (by omega)]⟩)

theorem gt_loop {g : GC} {X : CX} {Q : Option AV → MM → Prop} {V0 : MM} {T : Int → Int} {L f : Int} {res : Bool × CT × ST} (hf : 0 ≤ f ∧ f ≤ 5) (hl : MAl V0) (hz : Fi g X (some .boolean) Q) (hD : Dp X 7) (hF : res.1 = false → ∀ V', V' 83 10 = res.2.2.1 → Px V0 V' f → Q (some (vi 0)) V') (hT : res.1 = true → ∀ V' (k : Nat), k ≤ 10 → GT V0 V' T L f k res.2.1 res.2.2 → V' 90 f = k → Q (some (vi 1)) V') : ∀ (m k : Nat) (n : Int) (c : CT) (s : ST) (V1 : MM), n = k → k + m = 9 → GT V0 V1 T L f k c s → rstS T L m c s = res → SW g X RX7 cX7_goesText 15 [some (vr 83), some (vi f), some (vi n)] [] V1 := by
  intro m
  induction m with
  | zero =>
    intro k n c s V1 hn hm hG hx
    have hl1 : MAl V1 := MAl_c hl (hG.2.2.2.2.2.1 97 (by omega) (by omega))
    unfold rstS at hx
    refine S_al0 qX7_goesText_15 ?_
    refine S_bipush (d := qX7_goesText_16) (k := ?_)
    refine S_il1 qX7_goesText_18 ?_
    refine S_imul qX7_goesText_19 ?_
    refine S_il2 qX7_goesText_20 ?_
    refine S_iadd qX7_goesText_21 ?_
    refine S_V1I hD qX7_goesText_22 lX7_262 vX7_takesClause r83 (m_takesClause (n := k) hl1 hG hf (by omega) (by omega)) (kk := fun z22 V22 h22 => ?_)
    rcases h22 with ⟨rfl, tc, hG2⟩ | ⟨rfl, tc, h10, hP2⟩
    · refine S_if_ne (d := qX7_goesText_25) (kt := fun _ => ?_) (kf := fun c => absurd c (by decide))
      rw [if_pos tc] at hx
      refine S_inc2 qX7_goesText_30 (K := ?_)
      refine S_al0 qX7_goesText_33 ?_
      refine S_getR qX7_goesText_34 fX7_50 e83_13 ?_
      refine S_il1 qX7_goesText_37 ?_
      refine S_il2 qX7_goesText_38 ?_
      refine S_iast qX7_goesText_39 a90 (K := ?_)
      have hG3 := hG2.cl (n + 1)
      generalize hW : upR V22 90 (ur (V22 90) f (n + 1)) = W at hG3 ⊢
      have w90 : W 90 f = n + 1 := by rw [← hW, upR_s, ur_s]
      have hX3 := hG3.1
      have hp3 := hX3.2.2.2.1
      have hL3 := hX3.2.2.2.2.1
      refine S_al0 qX7_goesText_40 ?_
      refine S_getI qX7_goesText_41 fX7_41 e83_10 ?_
      rw [hX3.2.2.1]
      refine S_al0 qX7_goesText_44 ?_
      refine S_getI qX7_goesText_45 fX7_38 e83_9 ?_
      rw [hX3.1]
      refine S_icmp_ne (d := qX7_goesText_48) (kt := fun c48 => ?_) (kf := fun c48 => ?_)
      · refine S_il2 qX7_goesText_53 ?_
        refine S_bipush (d := qX7_goesText_54) (k := ?_)
        refine S_icmp_eq (d := qX7_goesText_56) (kt := fun c56 => ?_) (kf := fun c56 => ?_)
        rotate_left
        · omega
        refine S_iconst qX7_goesText_68 ?_
        refine S_zret hz qX7_goesText_69 (by omega) ?_
        have ec : clL T L 0 (clS T L c s).2.1 (clS T L c s).2.2 = (true, (clS T L c s).2.1, (clS T L c s).2.2) := rfl
        rw [ec] at hx
        unfold fiE at hx
        rw [if_pos rfl] at hx
        have er : res = (false, (clS T L c s).2.1, (clS T L c s).2.2) := by rw [← hx]; exact congrArg (fun q => (q, (clS T L c s).2.1, (clS T L c s).2.2)) (decide_eq_false c48)
        rw [er] at hF
        exact hF rfl _ hX3.2.2.1 hG3.2.2.2.2.2
      · refine S_iconst qX7_goesText_51 ?_
        refine S_zret hz qX7_goesText_52 (by omega) ?_
        have h59 : ahS T L (clS T L c s).2.2.1 ≠ 59 := by
          rw [c48]
          unfold ahS
          rw [if_neg (by omega)]
          decide
        have ec : clL T L 0 (clS T L c s).2.1 (clS T L c s).2.2 = (true, (clS T L c s).2.1, (clS T L c s).2.2) := rfl
        rw [ec] at hx
        unfold fiE at hx
        rw [if_pos rfl] at hx
        have er : res = (true, (clS T L c s).2.1, (clS T L c s).2.2) := by rw [← hx]; exact congrArg (fun q => (q, (clS T L c s).2.1, (clS T L c s).2.2)) (decide_eq_true c48)
        rw [er] at hT
        exact hT rfl _ (k + 1) (by omega) hG3 (by rw [w90]; omega)
    · refine S_if_ne (d := qX7_goesText_25) (kt := fun c => absurd c (by decide)) (kf := fun _ => ?_)
      refine S_iconst qX7_goesText_28 ?_
      refine S_zret hz qX7_goesText_29 (by omega) ?_
      rw [if_neg (by rw [tc]; decide)] at hx
      rw [← hx] at hF
      exact hF tc _ h10 hP2
  | succ m ih =>
    intro k n c s V1 hn hm hG hx
    have hl1 : MAl V1 := MAl_c hl (hG.2.2.2.2.2.1 97 (by omega) (by omega))
    unfold rstS at hx
    refine S_al0 qX7_goesText_15 ?_
    refine S_bipush (d := qX7_goesText_16) (k := ?_)
    refine S_il1 qX7_goesText_18 ?_
    refine S_imul qX7_goesText_19 ?_
    refine S_il2 qX7_goesText_20 ?_
    refine S_iadd qX7_goesText_21 ?_
    refine S_V1I hD qX7_goesText_22 lX7_262 vX7_takesClause r83 (m_takesClause (n := k) hl1 hG hf (by omega) (by omega)) (kk := fun z22 V22 h22 => ?_)
    rcases h22 with ⟨rfl, tc, hG2⟩ | ⟨rfl, tc, h10, hP2⟩
    · refine S_if_ne (d := qX7_goesText_25) (kt := fun _ => ?_) (kf := fun c => absurd c (by decide))
      rw [if_pos tc] at hx
      refine S_inc2 qX7_goesText_30 (K := ?_)
      refine S_al0 qX7_goesText_33 ?_
      refine S_getR qX7_goesText_34 fX7_50 e83_13 ?_
      refine S_il1 qX7_goesText_37 ?_
      refine S_il2 qX7_goesText_38 ?_
      refine S_iast qX7_goesText_39 a90 (K := ?_)
      have hG3 := hG2.cl (n + 1)
      generalize hW : upR V22 90 (ur (V22 90) f (n + 1)) = W at hG3 ⊢
      have w90 : W 90 f = n + 1 := by rw [← hW, upR_s, ur_s]
      have hX3 := hG3.1
      have hp3 := hX3.2.2.2.1
      have hL3 := hX3.2.2.2.2.1
      refine S_al0 qX7_goesText_40 ?_
      refine S_getI qX7_goesText_41 fX7_41 e83_10 ?_
      rw [hX3.2.2.1]
      refine S_al0 qX7_goesText_44 ?_
      refine S_getI qX7_goesText_45 fX7_38 e83_9 ?_
      rw [hX3.1]
      refine S_icmp_ne (d := qX7_goesText_48) (kt := fun c48 => ?_) (kf := fun c48 => ?_)
      · refine S_il2 qX7_goesText_53 ?_
        refine S_bipush (d := qX7_goesText_54) (k := ?_)
        refine S_icmp_eq (d := qX7_goesText_56) (kt := fun c56 => ?_) (kf := fun c56 => ?_)
        · omega
        have n59 := nx_ah (T := T) (L := L) (p := (clS T L c s).2.2.1) (c := 59) hL3.2 (by omega)
        refine S_al0 qX7_goesText_59 ?_
        refine S_bipush (d := qX7_goesText_60) (k := ?_)
        refine S_V1I hD qX7_goesText_62 lX7_225 vX7_takes r83 (m_takes hX3 (by omega)) (kk := fun z62 V62 h62 => ?_)
        rcases h62 with ⟨rfl, t62, tp62, hA3, hX4⟩ | ⟨rfl, t62, rfl⟩
        · refine S_if_ne (d := qX7_goesText_65) (kt := fun _ => ?_) (kf := fun c => absurd c (by decide))
          have ec : fiE L (clL T L (m + 1) (clS T L c s).2.1 (clS T L c s).2.2) = rstS T L m (clS T L c s).2.1 ((clS T L c s).2.2.1 + 1, (clS T L c s).2.2.2) := by
            unfold rstS
            show fiE L (if ahS T L (clS T L c s).2.2.1 = 59 then _ else _) = _
            rw [if_pos (n59.mp t62)]
            by_cases q : (clS T L (clS T L c s).2.1 ((clS T L c s).2.2.1 + 1, (clS T L c s).2.2.2)).1 = true
            · rw [if_pos q, if_pos q]
            · rw [if_neg q, if_neg q]
              unfold fiE
              rw [if_neg q]
          rw [ec] at hx
          exact ih (k + 1) (n + 1) _ _ _ (by omega) (by omega) (hG3.at hA3 hX4) hx
        · refine S_if_ne (d := qX7_goesText_65) (kt := fun c => absurd c (by decide)) (kf := fun _ => ?_)
          refine S_iconst qX7_goesText_68 ?_
          refine S_zret hz qX7_goesText_69 (by omega) ?_
          have ec : clL T L (m + 1) (clS T L c s).2.1 (clS T L c s).2.2 = (true, (clS T L c s).2.1, (clS T L c s).2.2) := if_neg (fun q => t62 (n59.mpr q))
          rw [ec] at hx
          unfold fiE at hx
          rw [if_pos rfl] at hx
          have er : res = (false, (clS T L c s).2.1, (clS T L c s).2.2) := by rw [← hx]; exact congrArg (fun q => (q, (clS T L c s).2.1, (clS T L c s).2.2)) (decide_eq_false c48)
          rw [er] at hF
          exact hF rfl _ hX3.2.2.1 hG3.2.2.2.2.2
      · refine S_iconst qX7_goesText_51 ?_
        refine S_zret hz qX7_goesText_52 (by omega) ?_
        have h59 : ahS T L (clS T L c s).2.2.1 ≠ 59 := by
          rw [c48]
          unfold ahS
          rw [if_neg (by omega)]
          decide
        have ec : clL T L (m + 1) (clS T L c s).2.1 (clS T L c s).2.2 = (true, (clS T L c s).2.1, (clS T L c s).2.2) := if_neg h59
        rw [ec] at hx
        unfold fiE at hx
        rw [if_pos rfl] at hx
        have er : res = (true, (clS T L c s).2.1, (clS T L c s).2.2) := by rw [← hx]; exact congrArg (fun q => (q, (clS T L c s).2.1, (clS T L c s).2.2)) (decide_eq_true c48)
        rw [er] at hT
        exact hT rfl _ (k + 1) (by omega) hG3 (by rw [w90]; omega)
    · refine S_if_ne (d := qX7_goesText_25) (kt := fun c => absurd c (by decide)) (kf := fun _ => ?_)
      refine S_iconst qX7_goesText_28 ?_
      refine S_zret hz qX7_goesText_29 (by omega) ?_
      rw [if_neg (by rw [tc]; decide)] at hx
      rw [← hx] at hF
      exact hF tc _ h10 hP2