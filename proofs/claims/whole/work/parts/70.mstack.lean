def WR (row : Int → Int) : List Int → Prop
  | [] => True
  | t :: w => row (w.length : Int) = t ∧ WR row w
theorem WR_up {row : Int → Int} {x : Int} : ∀ {w : List Int} {j : Int}, WR row w → (w.length : Int) ≤ j → WR (ur row j x) w := by
  intro w
  induction w with
  | nil => intro j h1 h2; trivial
  | cons v r ih =>
    intro j h1 h2
    have e : ((v :: r).length : Int) = (r.length : Int) + 1 := by simp
    refine ⟨?_, ih h1.2 (by omega)⟩
    rw [ur_n _ (by omega)]
    exact h1.1
def opn : List Int → Int
  | [] => 0
  | t :: w => opn w + (if t = 33 ∨ t = 40 then 1 else 0)
theorem opn_rg : ∀ w : List Int, 0 ≤ opn w ∧ opn w ≤ w.length := by
  intro w
  induction w with
  | nil => exact ⟨Int.le_refl _, Int.le_refl _⟩
  | cons t w ih =>
    have e : ((t :: w).length : Int) = (w.length : Int) + 1 := by simp
    unfold opn
    split <;> omega
def wsg (t : Int) : Prop := t = 33 ∨ t = 38 ∨ t = 40 ∨ t = 124
def wOK (w : List Int) : Prop := ∀ t ∈ w, wsg t
theorem wOK.tl {t : Int} {w : List Int} (h : wOK (t :: w)) : wsg t ∧ wOK w := ⟨h t List.mem_cons_self, fun x hx => h x (List.mem_cons_of_mem _ hx)⟩
theorem wOK.cs {t : Int} {w : List Int} (ht : wsg t) (h : wOK w) : wOK (t :: w) := fun x hx => by
  rcases List.mem_cons.mp hx with rfl | hx
  · exact ht
  · exact h x hx
/-- the reference amid a condition -/
def TS (V : MM) (T : Int → Int) (L f : Int) (s : ST) (w : List Int) : Prop := TX V T L s.1 ∧ V 83 20 = 100 * f + s.2.1 ∧ (∀ j, 0 ≤ j ∧ j < s.2.1 → V 95 (100 * f + j) = mapc (s.2.2 j)) ∧ V 83 21 = (w.length : Int) ∧ WR (V 96) w ∧ V 83 22 = opn w ∧ (s.2.1 + w.length ≤ s.1 ∧ 0 ≤ s.2.1 ∧ s.1 ≤ 100) ∧ (0 ≤ f ∧ f ≤ 5) ∧ wOK w
/-- signs from g0 on, what waits, have changed -/
def Pf (V V' : MM) (g0 : Int) : Prop := (∀ k : Nat, k ≠ 83 → k ≠ 95 → k ≠ 96 → V' k = V k) ∧ (∀ j : Int, j ≠ 10 → j ≠ 11 → j ≠ 20 → j ≠ 21 → j ≠ 22 → V' 83 j = V 83 j) ∧ ∀ i : Int, i < g0 → V' 95 i = V 95 i
theorem Pf.rf (V : MM) (g0 : Int) : Pf V V g0 := ⟨fun _ _ _ _ => rfl, fun _ _ _ _ _ _ => rfl, fun _ _ => rfl⟩
theorem Pf.tr {V V1 V2 : MM} {g0 : Int} (h : Pf V V1 g0) (h2 : Pf V1 V2 g0) : Pf V V2 g0 := ⟨fun k a b c => (h2.1 k a b c).trans (h.1 k a b c), fun j a b c d e => (h2.2.1 j a b c d e).trans (h.2.1 j a b c d e), fun i a => (h2.2.2 i a).trans (h.2.2 i a)⟩
theorem At.pf {V V' : MM} (h : At V V') (g0 : Int) : Pf V V' g0 := ⟨fun k a b c => h.1 k a, fun j a b c d e => h.2 j a b, fun i a => by rw [h.1 95 (by omega)]⟩
theorem TS.at {V V' : MM} {T : Int → Int} {L f p : Int} {s : ST} {w : List Int} (h : TS V T L f s w) (ha : At V V') (hX : TX V' T L p) (hp : s.1 ≤ p) : TS V' T L f (p, s.2) w := by
  obtain ⟨h1, h2, h3, h4, h5, h6, h7, h8, h9⟩ := h
  have hp2 := hX.2.2.2.1
  exact ⟨hX, by rw [ha.2 20 (by omega) (by omega)]; exact h2, by rw [ha.1 95 (by omega)]; exact h3, by rw [ha.2 21 (by omega) (by omega)]; exact h4, by rw [ha.1 96 (by omega)]; exact h5, by rw [ha.2 22 (by omega) (by omega)]; exact h6, ⟨by show s.2.1 + w.length ≤ p; omega, h7.2.1, hp2.2⟩, h8, h9⟩
/-- a sign is given out -/
def emM (V : MM) (x : Int) : MM := upR (upR V 95 (ur (V 95) (V 83 20) x)) 83 (ur (V 83) 20 (V 83 20 + 1))
theorem em_83 (V : MM) (x : Int) : emM V x 83 = ur (V 83) 20 (V 83 20 + 1) := upR_s ..
theorem em_95 (V : MM) (x : Int) : emM V x 95 = ur (V 95) (V 83 20) x := by unfold emM; rw [upR_n _ (by omega), upR_s]
theorem em_k {V : MM} {x : Int} {k : Nat} (a : k ≠ 83) (b : k ≠ 95) : emM V x k = V k := by unfold emM; rw [upR_n _ a, upR_n _ b]
theorem em_pf {V : MM} {x g0 : Int} (h : g0 ≤ V 83 20) : Pf V (emM V x) g0 := ⟨fun k a b c => em_k a b, fun j a b c d e => by rw [em_83, ur_n _ c], fun i a => by rw [em_95, ur_n _ (by omega)]⟩
/-- the same stack, one code more; one char must have been read for it -/
theorem TS.em {V : MM} {T : Int → Int} {L f c x : Int} {s : ST} {w : List Int} (h : TS V T L f s w) (hx : x = mapc c) (hl : s.2.1 + w.length + 1 ≤ s.1) : TS (emM V x) T L f (addS c s) w := by
  obtain ⟨⟨x1, x2, x3, x4, x5, x6⟩, h2, h3, h4, h5, h6, h7, h8, h9⟩ := h
  rw [ad_1 (by omega)]
  refine ⟨⟨by rw [em_83, ur_n _ (by omega)]; exact x1, by rw [em_k (by omega) (by omega)]; exact x2, by rw [em_83, ur_n _ (by omega)]; exact x3, x4, x5, x6⟩, by rw [em_83, ur_s, h2]; show 100 * f + s.2.1 + 1 = 100 * f + (s.2.1 + 1); omega, fun j hj => ?_, by rw [em_83, ur_n _ (by omega)]; exact h4, by rw [em_k (by omega) (by omega)]; exact h5, by rw [em_83, ur_n _ (by omega)]; exact h6, ⟨by show s.2.1 + 1 + w.length ≤ s.1; omega, by show 0 ≤ s.2.1 + 1; omega, h7.2.2⟩, h8, h9⟩
  replace hj : 0 ≤ j ∧ j < s.2.1 + 1 := hj
  show emM V x 95 (100 * f + j) = mapc (ur s.2.2 s.2.1 c j)
  rw [em_95, h2]
  by_cases e : j = s.2.1
  · rw [e, ur_s, ur_s, hx]
  · rw [ur_n _ (by omega), ur_n _ e]
    exact h3 j (by omega)
def popW : List Int → ST → ST × List Int
  | [], s => (s, [])
  | t :: w, s => if t = 33 then popW w (addS (-1) s) else (s, t :: w)
def setW (b : Int) : List Int → ST → ST × List Int
  | [], s => (s, [])
  | t :: w, s => if t = 38 ∨ (t = 124 ∧ b ≠ 38) then setW b w (addS (if t = 38 then -2 else -3) s) else (s, t :: w)
/-- what waits, the last taken away -/
theorem TS.po {V V' : MM} {T : Int → Int} {L f t : Int} {s : ST} {w : List Int} (h : TS V T L f s (t :: w)) (hk : ∀ k : Nat, k ≠ 83 → V' k = V k) (h21 : V' 83 21 = V 83 21 - 1) (h22 : V' 83 22 = V 83 22 - (if t = 33 ∨ t = 40 then 1 else 0)) (hj : ∀ j : Int, j ≠ 21 → j ≠ 22 → V' 83 j = V 83 j) : TS V' T L f s w := by
  obtain ⟨⟨x1, x2, x3, x4, x5, x6⟩, h2, h3, h4, h5, h6, h7, h8, h9⟩ := h
  have e : ((t :: w).length : Int) = (w.length : Int) + 1 := by simp
  refine ⟨⟨by rw [hj 9 (by omega) (by omega)]; exact x1, by rw [hk 89 (by omega)]; exact x2, by rw [hj 10 (by omega) (by omega)]; exact x3, x4, x5, x6⟩, by rw [hj 20 (by omega) (by omega)]; exact h2, by rw [hk 95 (by omega)]; exact h3, by rw [h21, h4]; omega, by rw [hk 96 (by omega)]; exact h5.2, ?_, ⟨by omega, h7.2⟩, h8, h9.tl.2⟩
  rw [h22, h6]
  show opn w + (if t = 33 ∨ t = 40 then 1 else 0) - _ = _
  omega
theorem TS.pu {V : MM} {T : Int → Int} {L f t : Int} {s : ST} {w : List Int} (h : TS V T L f s w) {V' : MM} (ht : wsg t) (h96 : V' 96 = ur (V 96) (w.length : Int) t) (hk : ∀ k : Nat, k ≠ 83 → k ≠ 96 → V' k = V k) (h10 : V' 83 10 = s.1 + 1) (h21 : V' 83 21 = (w.length : Int) + 1) (h22 : V' 83 22 = opn w + (if t = 33 ∨ t = 40 then 1 else 0)) (hj : ∀ j : Int, j ≠ 10 → j ≠ 21 → j ≠ 22 → V' 83 j = V 83 j) (hp : s.1 + 1 ≤ 100) : TS V' T L f (s.1 + 1, s.2) (t :: w) := by
  obtain ⟨⟨x1, x2, x3, x4, x5, x6⟩, h2, h3, h4, h5, h6, h7, h8, h9⟩ := h
  have e : ((t :: w).length : Int) = (w.length : Int) + 1 := by simp
  refine ⟨⟨by rw [hj 9 (by omega) (by omega) (by omega)]; exact x1, by rw [hk 89 (by omega) (by omega)]; exact x2, h10, by show 0 ≤ s.1 + 1 ∧ s.1 + 1 ≤ 100; omega, x5, x6⟩, by rw [hj 20 (by omega) (by omega) (by omega)]; exact h2, by rw [hk 95 (by omega) (by omega)]; exact h3, by rw [h21]; omega, ⟨by rw [h96, ur_s], by rw [h96]; exact WR_up h5 (Int.le_refl _)⟩, h22, ⟨by show s.2.1 + ((t :: w).length : Int) ≤ s.1 + 1; omega, h7.2.1, hp⟩, h8, h9.cs ht⟩

theorem m_emits {g : GC} {V : MM} {x : Int} (h : 0 ≤ V 83 20 ∧ V 83 20 < 600) : Ct g mX7_emits 1 [vr 83, vi x] V (RW (emM V x)) := by
  refine Ct.of (ls := [some (vr 83), some (vi x)]) (plainFor_of_name (by decide +kernel)) rfl (by exact Nat.le_of_ble_eq_true rfl) (fun X hz hD => ?_)
  refine S_al0 qX7_emits_0 ?_
  refine S_getR qX7_emits_1 fX7_65 e83_18 ?_
  refine S_al0 qX7_emits_4 ?_
  refine S_getI qX7_emits_5 fX7_71 e83_20 ?_
  refine S_il1 qX7_emits_8 ?_
  refine S_iast qX7_emits_9 a95 (K := ?_)
  refine S_al0 qX7_emits_10 ?_
  refine S_dup (d := qX7_emits_11) (k := ?_)
  refine S_getI qX7_emits_12 fX7_71 e83_20 ?_
  refine S_iconst qX7_emits_15 ?_
  refine S_iadd qX7_emits_16 ?_
  refine S_putI qX7_emits_17 fX7_71 e83_20 tX7_20 ?_
  refine S_vret hz qX7_emits_20 ?_
  refine RW.mk ?_
  unfold emM
  simp only [upR_n _ (show (83 : Nat) ≠ 95 by decide)]

theorem whole_loop {g : GC} {X : CX} {Q : Option AV → MM → Prop} {T : Int → Int} {L f g0 : Int} {V : MM} {res : ST × List Int} (hz : Fi g X none Q) (hD : Dp X 2) (hQ : ∀ V', TS V' T L f res.1 res.2 → Pf V V' g0 → Q none V') : ∀ (w : List Int) (s : ST) (V1 : MM), TS V1 T L f s w → g0 ≤ 100 * f + s.2.1 → Pf V V1 g0 → popW w s = res → SW g X RX7 cX7_whole 0 [some (vr 83)] [] V1 := by
  intro w
  induction w with
  | nil =>
    intro s V1 hT hg hP hx
    obtain ⟨⟨x1, x2, x3, x4, x5, x6⟩, h2, h3, h4, h5, h6, h7, h8, h9⟩ := id hT
    replace h4 : V1 83 21 = 0 := h4
    unfold popW at hx
    subst hx
    refine S_al0 qX7_whole_0 ?_
    refine S_getI qX7_whole_1 fX7_74 e83_21 ?_
    refine S_if_le (d := qX7_whole_4) (kt := fun c4 => ?_) (kf := fun c4 => ?_)
    rotate_left
    · omega
    refine S_vret hz qX7_whole_52 ?_
    exact hQ _ hT hP
  | cons t w ih =>
    intro s V1 hT hg hP hx
    obtain ⟨⟨x1, x2, x3, x4, x5, x6⟩, h2, h3, h4, h5, h6, h7, h8, h9⟩ := id hT
    have e : ((t :: w).length : Int) = (w.length : Int) + 1 := by simp
    have h96 : V1 96 (V1 83 21 - 1) = t := by rw [show V1 83 21 - 1 = (w.length : Int) by omega]; exact h5.1
    have hwg : wsg t := h9.tl.1
    have hor := opn_rg (t :: w)
    have ht : t = 33 ∨ t = 38 ∨ t = 40 ∨ t = 124 := hwg
    unfold popW at hx
    refine S_al0 qX7_whole_0 ?_
    refine S_getI qX7_whole_1 fX7_74 e83_21 ?_
    refine S_if_le (d := qX7_whole_4) (kt := fun c4 => ?_) (kf := fun c4 => ?_)
    · omega
    refine S_al0 qX7_whole_7 ?_
    refine S_getR qX7_whole_8 fX7_68 e83_19 ?_
    refine S_al0 qX7_whole_11 ?_
    refine S_getI qX7_whole_12 fX7_74 e83_21 ?_
    refine S_iconst qX7_whole_15 ?_
    refine S_isub qX7_whole_16 ?_
    refine S_iald qX7_whole_17 a96 (K := ?_)
    rw [h96]
    refine S_bipush (d := qX7_whole_18) (k := ?_)
    refine S_icmp_ne (d := qX7_whole_20) (kt := fun c20 => ?_) (kf := fun c20 => ?_)
    · refine S_vret hz qX7_whole_52 ?_
      rw [if_neg (by omega)] at hx
      subst hx
      exact hQ _ hT hP
    · refine S_al0 qX7_whole_23 ?_
      refine S_bipush (d := qX7_whole_24) (k := ?_)
      refine S_V1W hD qX7_whole_26 lX7_232 vX7_emits r83 (m_emits (by omega)) (K := ?_)
      refine S_al0 qX7_whole_29 ?_
      refine S_dup (d := qX7_whole_30) (k := ?_)
      refine S_getI qX7_whole_31 fX7_74 e83_21 ?_
      refine S_iconst qX7_whole_34 ?_
      refine S_isub qX7_whole_35 ?_
      refine S_putI qX7_whole_36 fX7_74 e83_21 tX7_21 ?_
      refine S_al0 qX7_whole_39 ?_
      refine S_dup (d := qX7_whole_40) (k := ?_)
      refine S_getI qX7_whole_41 fX7_77 e83_22 ?_
      refine S_iconst qX7_whole_44 ?_
      refine S_isub qX7_whole_45 ?_
      refine S_putI qX7_whole_46 fX7_77 e83_22 tX7_22 ?_
      refine S_goto qX7_whole_49 ?_
      rw [if_pos (by omega)] at hx
      have hE := em_pf (V := V1) (x := -33) (g0 := g0) (by omega)
      generalize hW : emM V1 (-33) = W
      have wj : ∀ j : Int, j ≠ 20 → W 83 j = V1 83 j := fun j a => by rw [← hW, em_83, ur_n _ a]
      rw [hW] at hE
      refine SW.cast (V' := upR W 83 (ur (ur (W 83) 21 (W 83 21 - 1)) 22 (W 83 22 - 1))) ?_ ?_
      rotate_left
      · rw [upR_s, upR_u, ur_n _ (show (22 : Int) ≠ 21 by decide)]
      have hT2 : TS (upR V1 83 (ur (ur (V1 83) 21 (V1 83 21 - 1)) 22 (V1 83 22 - 1))) T L f s w := hT.po (fun k a => upR_n _ a) (by rw [upR_s, ur_n _ (by omega), ur_s]) (by rw [upR_s, ur_s, if_pos (by omega)]) (fun j a b => by rw [upR_s, ur_n _ b, ur_n _ a])
      have hT3 := hT2.em (c := -1) (x := -33) (by decide) (by omega)
      have eM : emM (upR V1 83 (ur (ur (V1 83) 21 (V1 83 21 - 1)) 22 (V1 83 22 - 1))) (-33) = upR W 83 (ur (ur (W 83) 21 (W 83 21 - 1)) 22 (W 83 22 - 1)) := by
        rw [wj 21 (by omega), wj 22 (by omega), ← hW]
        funext k
        by_cases k1 : k = 83
        · subst k1
          rw [em_83, upR_s, upR_s, em_83]
          funext j
          unfold ur
          (repeat' split) <;> first | rfl | omega
        · rw [upR_n _ k1]
          by_cases k2 : k = 95
          · subst k2
            rw [em_95, em_95, upR_n _ (by omega), upR_s, ur_n _ (by omega), ur_n _ (by omega)]
          · rw [em_k k1 k2, em_k k1 k2, upR_n _ k1]
      rw [eM] at hT3
      have hs2 : (addS (-1) s).2.1 = s.2.1 + 1 := by rw [ad_1 (by omega)]
      refine ih _ _ hT3 (by omega) (hP.tr (hE.tr ⟨fun k a b c => upR_n _ a, fun j a b c d e => by rw [upR_s, ur_n _ e, ur_n _ d], fun i a => by rw [upR_n _ (by omega)]⟩)) hx
theorem m_wholeP {g : GC} {V : MM} {T : Int → Int} {L f g0 : Int} {s : ST} {w : List Int} (hT : TS V T L f s w) (hg : g0 ≤ 100 * f + s.2.1) : Ct g mX7_whole 2 [vr 83] V (RV (fun V' => TS V' T L f (popW w s).1 (popW w s).2 ∧ Pf V V' g0)) := by
  refine Ct.of (ls := [some (vr 83)]) (plainFor_of_name (by decide +kernel)) rfl (by exact Nat.le_of_ble_eq_true rfl) (fun X hz hD => ?_)
  exact whole_loop (res := popW w s) hz hD (fun V' a b => ⟨rfl, a, b⟩) w s V hT hg (Pf.rf V g0) rfl

theorem settle_loop {g : GC} {X : CX} {Q : Option AV → MM → Prop} {T : Int → Int} {L f g0 b : Int} {V : MM} {res : ST × List Int} (hb : b = 38 ∨ b = 124) (hz : Fi g X none Q) (hD : Dp X 2) (hQ : ∀ V', TS V' T L f res.1 res.2 → Pf V V' g0 → Q none V') : ∀ (w : List Int) (s : ST) (V1 : MM), TS V1 T L f s w → g0 ≤ 100 * f + s.2.1 → Pf V V1 g0 → setW b w s = res → SW g X RX7 cX7_settle 0 [some (vr 83), some (vi b)] [] V1 := by
  intro w
  induction w with
  | nil =>
    intro s V1 hT hg hP hx
    obtain ⟨⟨x1, x2, x3, x4, x5, x6⟩, h2, h3, h4, h5, h6, h7, h8, h9⟩ := id hT
    replace h4 : V1 83 21 = 0 := h4
    unfold setW at hx
    subst hx
    refine S_al0 qX7_settle_0 ?_
    refine S_getI qX7_settle_1 fX7_74 e83_21 ?_
    refine S_if_le (d := qX7_settle_4) (kt := fun c4 => ?_) (kf := fun c4 => ?_)
    rotate_left
    · omega
    refine S_vret hz qX7_settle_72 ?_
    exact hQ _ hT hP
  | cons t w ih =>
    intro s V1 hT hg hP hx
    obtain ⟨⟨x1, x2, x3, x4, x5, x6⟩, h2, h3, h4, h5, h6, h7, h8, h9⟩ := id hT
    have e : ((t :: w).length : Int) = (w.length : Int) + 1 := by simp
    have h96 : V1 96 (V1 83 21 - 1) = t := by rw [show V1 83 21 - 1 = (w.length : Int) by omega]; exact h5.1
    have h96b : V1 96 (w.length : Int) = t := h5.1
    have hwg : wsg t := h9.tl.1
    have ht : t = 33 ∨ t = 38 ∨ t = 40 ∨ t = 124 := hwg
    unfold setW at hx
    refine S_al0 qX7_settle_0 ?_
    refine S_getI qX7_settle_1 fX7_74 e83_21 ?_
    refine S_if_le (d := qX7_settle_4) (kt := fun c4 => ?_) (kf := fun c4 => ?_)
    · omega
    refine S_al0 qX7_settle_7 ?_
    refine S_getR qX7_settle_8 fX7_68 e83_19 ?_
    refine S_al0 qX7_settle_11 ?_
    refine S_getI qX7_settle_12 fX7_74 e83_21 ?_
    refine S_iconst qX7_settle_15 ?_
    refine S_isub qX7_settle_16 ?_
    refine S_iald qX7_settle_17 a96 (K := ?_)
    rw [h96]
    refine S_bipush (d := qX7_settle_18) (k := ?_)
    refine S_icmp_eq (d := qX7_settle_20) (kt := fun c20 => ?_) (kf := fun c20 => ?_)
    · refine S_al0 qX7_settle_45 ?_
      refine S_dup (d := qX7_settle_46) (k := ?_)
      refine S_getI qX7_settle_47 fX7_74 e83_21 ?_
      refine S_iconst qX7_settle_50 ?_
      refine S_isub qX7_settle_51 ?_
      refine S_putI qX7_settle_52 fX7_74 e83_21 tX7_21 ?_
      refine S_al0 qX7_settle_55 ?_
      refine S_al0 qX7_settle_56 ?_
      refine S_getR qX7_settle_57 fX7_68 e83_19 ?_
      refine S_al0 qX7_settle_60 ?_
      refine S_getI qX7_settle_61 fX7_74 e83_21 ?_
      rw [upR_s, ur_s, show V1 83 21 - 1 = (w.length : Int) by omega]
      refine S_iald qX7_settle_64 a96 (K := ?_)
      rw [upR_n _ (show (96 : Nat) ≠ 83 by decide), h96b]
      refine S_ineg qX7_settle_65 ?_
      refine S_V1W hD qX7_settle_66 lX7_232 vX7_emits r83 (m_emits (by rw [upR_s, ur_n _ (by decide)]; omega)) (K := ?_)
      refine S_goto qX7_settle_69 ?_
      rw [if_pos (by omega)] at hx
      have hT2 : TS (upR V1 83 (ur (V1 83) 21 (w.length : Int))) T L f s w := hT.po (fun k a => upR_n _ a) (by rw [upR_s, ur_s]; omega) (by rw [upR_s, ur_n _ (by omega), if_neg (by omega)]; omega) (fun j a b => by rw [upR_s, ur_n _ a])
      have hT3 := hT2.em (c := if t = 38 then -2 else -3) (x := -t) (by rcases (show t = 38 ∨ t = 124 by omega) with q | q <;> rw [q] <;> decide) (by omega)
      have hE := em_pf (V := upR V1 83 (ur (V1 83) 21 (w.length : Int))) (x := -t) (g0 := g0) (by rw [upR_s, ur_n _ (by omega)]; omega)
      have hs2 : (addS (if t = 38 then -2 else -3) s).2.1 = s.2.1 + 1 := by rw [ad_1 (by omega)]
      exact ih _ _ hT3 (by omega) (hP.tr (Pf.tr ⟨fun k a b c => upR_n _ a, fun j a b c d e => by rw [upR_s, ur_n _ d], fun i a => by rw [upR_n _ (by omega)]⟩ hE)) hx
    · refine S_al0 qX7_settle_23 ?_
      refine S_getR qX7_settle_24 fX7_68 e83_19 ?_
      refine S_al0 qX7_settle_27 ?_
      refine S_getI qX7_settle_28 fX7_74 e83_21 ?_
      refine S_iconst qX7_settle_31 ?_
      refine S_isub qX7_settle_32 ?_
      refine S_iald qX7_settle_33 a96 (K := ?_)
      rw [h96]
      refine S_bipush (d := qX7_settle_34) (k := ?_)
      refine S_icmp_ne (d := qX7_settle_36) (kt := fun c36 => ?_) (kf := fun c36 => ?_)
      · refine S_vret hz qX7_settle_72 ?_
        rw [if_neg (by omega)] at hx
        subst hx
        exact hQ _ hT hP
      · refine S_il1 qX7_settle_39 ?_
        refine S_bipush (d := qX7_settle_40) (k := ?_)
        refine S_icmp_eq (d := qX7_settle_42) (kt := fun c42 => ?_) (kf := fun c42 => ?_)
        · refine S_vret hz qX7_settle_72 ?_
          rw [if_neg (by omega)] at hx
          subst hx
          exact hQ _ hT hP
        · refine S_al0 qX7_settle_45 ?_
          refine S_dup (d := qX7_settle_46) (k := ?_)
          refine S_getI qX7_settle_47 fX7_74 e83_21 ?_
          refine S_iconst qX7_settle_50 ?_
          refine S_isub qX7_settle_51 ?_
          refine S_putI qX7_settle_52 fX7_74 e83_21 tX7_21 ?_
          refine S_al0 qX7_settle_55 ?_
          refine S_al0 qX7_settle_56 ?_
          refine S_getR qX7_settle_57 fX7_68 e83_19 ?_
          refine S_al0 qX7_settle_60 ?_
          refine S_getI qX7_settle_61 fX7_74 e83_21 ?_
          rw [upR_s, ur_s, show V1 83 21 - 1 = (w.length : Int) by omega]
          refine S_iald qX7_settle_64 a96 (K := ?_)
          rw [upR_n _ (show (96 : Nat) ≠ 83 by decide), h96b]
          refine S_ineg qX7_settle_65 ?_
          refine S_V1W hD qX7_settle_66 lX7_232 vX7_emits r83 (m_emits (by rw [upR_s, ur_n _ (by decide)]; omega)) (K := ?_)
          refine S_goto qX7_settle_69 ?_
          rw [if_pos (by omega)] at hx
          have hT2 : TS (upR V1 83 (ur (V1 83) 21 (w.length : Int))) T L f s w := hT.po (fun k a => upR_n _ a) (by rw [upR_s, ur_s]; omega) (by rw [upR_s, ur_n _ (by omega), if_neg (by omega)]; omega) (fun j a b => by rw [upR_s, ur_n _ a])
          have hT3 := hT2.em (c := if t = 38 then -2 else -3) (x := -t) (by rcases (show t = 38 ∨ t = 124 by omega) with q | q <;> rw [q] <;> decide) (by omega)
          have hE := em_pf (V := upR V1 83 (ur (V1 83) 21 (w.length : Int))) (x := -t) (g0 := g0) (by rw [upR_s, ur_n _ (by omega)]; omega)
          have hs2 : (addS (if t = 38 then -2 else -3) s).2.1 = s.2.1 + 1 := by rw [ad_1 (by omega)]
          exact ih _ _ hT3 (by omega) (hP.tr (Pf.tr ⟨fun k a b c => upR_n _ a, fun j a b c d e => by rw [upR_s, ur_n _ d], fun i a => by rw [upR_n _ (by omega)]⟩ hE)) hx
theorem m_settle {g : GC} {V : MM} {T : Int → Int} {L f g0 b : Int} {s : ST} {w : List Int} (hb : b = 38 ∨ b = 124) (hT : TS V T L f s w) (hg : g0 ≤ 100 * f + s.2.1) : Ct g mX7_settle 2 [vr 83, vi b] V (RV (fun V' => TS V' T L f (setW b w s).1 (setW b w s).2 ∧ Pf V V' g0)) := by
  refine Ct.of (ls := [some (vr 83), some (vi b)]) (plainFor_of_name (by decide +kernel)) rfl (by exact Nat.le_of_ble_eq_true rfl) (fun X hz hD => ?_)
  exact settle_loop (res := setW b w s) hb hz hD (fun V' a b => ⟨rfl, a, b⟩) w s V hT hg (Pf.rf V g0) rfl

def plcM (c : Int) : Int := if c = 97 then 4 else if c = 98 then 5 else if c = 100 then 0 else if c = 107 then 1 else if c = 112 then 3 else if c = 118 then 2 else -1

theorem m_place {g : GC} {V : MM} {c : Int} (hc : -1 ≤ c ∧ c ≤ 127) : Ct g mX7_place 1 [vr 83, vi c] V (RE V (plcM c)) := by
  refine Ct.of (ls := [some (vr 83), some (vi c)]) (plainFor_of_name (by decide +kernel)) rfl (by exact Nat.le_of_ble_eq_true rfl) (fun X hz hD => ?_)
  refine S_il1 qX7_place_0 ?_
  by_cases s1_97 : c = 97
  · refine S_lookup (tgt := 68) (off := 67) qX7_place_1 (by decide +kernel) (by omega) (by rw [s1_97]; decide +kernel) (by decide) ?_
    refine S_iconst qX7_place_68 ?_
    refine S_iret hz qX7_place_69 ?_
    refine RE.mk ?_
    unfold plcM
    (repeat' split) <;> first | rfl | (exfalso; omega)
  by_cases s1_98 : c = 98
  · refine S_lookup (tgt := 70) (off := 69) qX7_place_1 (by decide +kernel) (by omega) (by rw [s1_98]; decide +kernel) (by decide) ?_
    refine S_iconst qX7_place_70 ?_
    refine S_iret hz qX7_place_71 ?_
    refine RE.mk ?_
    unfold plcM
    (repeat' split) <;> first | rfl | (exfalso; omega)
  by_cases s1_100 : c = 100
  · refine S_lookup (tgt := 60) (off := 59) qX7_place_1 (by decide +kernel) (by omega) (by rw [s1_100]; decide +kernel) (by decide) ?_
    refine S_iconst qX7_place_60 ?_
    refine S_iret hz qX7_place_61 ?_
    refine RE.mk ?_
    unfold plcM
    (repeat' split) <;> first | rfl | (exfalso; omega)
  by_cases s1_107 : c = 107
  · refine S_lookup (tgt := 62) (off := 61) qX7_place_1 (by decide +kernel) (by omega) (by rw [s1_107]; decide +kernel) (by decide) ?_
    refine S_iconst qX7_place_62 ?_
    refine S_iret hz qX7_place_63 ?_
    refine RE.mk ?_
    unfold plcM
    (repeat' split) <;> first | rfl | (exfalso; omega)
  by_cases s1_112 : c = 112
  · refine S_lookup (tgt := 66) (off := 65) qX7_place_1 (by decide +kernel) (by omega) (by rw [s1_112]; decide +kernel) (by decide) ?_
    refine S_iconst qX7_place_66 ?_
    refine S_iret hz qX7_place_67 ?_
    refine RE.mk ?_
    unfold plcM
    (repeat' split) <;> first | rfl | (exfalso; omega)
  by_cases s1_118 : c = 118
  · refine S_lookup (tgt := 64) (off := 63) qX7_place_1 (by decide +kernel) (by omega) (by rw [s1_118]; decide +kernel) (by decide) ?_
    refine S_iconst qX7_place_64 ?_
    refine S_iret hz qX7_place_65 ?_
    refine RE.mk ?_
    unfold plcM
    (repeat' split) <;> first | rfl | (exfalso; omega)
  refine S_lookup (tgt := 72) (off := 71) qX7_place_1 (by decide +kernel) (by omega) (by simp [Op.lookupswitch.offset, s1_97, Ne.symm s1_97, s1_98, Ne.symm s1_98, s1_100, Ne.symm s1_100, s1_107, Ne.symm s1_107, s1_112, Ne.symm s1_112, s1_118, Ne.symm s1_118]) (by decide) ?_
  refine S_iconst qX7_place_72 ?_
  refine S_iret hz qX7_place_73 ?_
  refine RE.mk ?_
  unfold plcM
  (repeat' split) <;> first | rfl | (exfalso; omega)
