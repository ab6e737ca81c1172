def OneSim (g : GC) (X : CX) (Q : Option AV → MM → Prop) (V0 : MM) (T : Int → Int) (L f c g0 : Int) (one : ST → Bool × ST) (o : Int) : Prop := ∀ (s : ST) (w : List Int), opn w = o → ((one s).1 = false → ∀ V', V' 83 10 = (one s).2.1 → Pe V0 V' c g0 → Q (some (vi 0)) V') → ((one s).1 = true → ∀ V', TG V0 T L f c g0 V' (popW w (one s).2).1 (popW w (one s).2).2 → SW g X RX7 cX7_takesE 22 [some (vr 83), some (vi c), some (vi 0), none] [] V') → ∀ V1, TG V0 T L f c g0 V1 s w → SW g X RX7 cX7_takesE 22 [some (vr 83), some (vi c), some (vi 1), none] [] V1
def NPa (V0 : MM) (T : Int → Int) (L f c g0 : Int) (V : MM) (s' : ST) (bs : List Int) : Prop := TG V0 T L f c g0 V s' bs ∨ ∃ s2, s' = addS (-2) s2 ∧ TG V0 T L f c g0 V s2 (38 :: bs)
def NPo (V0 : MM) (T : Int → Int) (L f c g0 : Int) (V : MM) (s' : ST) (w : List Int) : Prop := NPa V0 T L f c g0 V s' w ∨ ∃ s3, s' = addS (-3) s3 ∧ NPa V0 T L f c g0 V s3 (124 :: w)
theorem ad_p (c : Int) (s : ST) : (addS c s).1 = s.1 := by unfold addS; split <;> rfl
/-- nothing to settle -/
def St38 (w : List Int) : Prop := ∀ s, setW 38 w s = (s, w)
def St124 (w : List Int) : Prop := ∀ s, setW 124 w s = (s, w)
theorem st_nil : St38 [] ∧ St124 [] := ⟨fun _ => rfl, fun _ => rfl⟩
theorem st_br (w : List Int) : St38 (40 :: w) ∧ St124 (40 :: w) := ⟨fun s => if_neg (by decide), fun s => if_neg (by decide)⟩
theorem st_or (w : List Int) : St38 (124 :: w) := fun s => if_neg (by decide)
theorem npa_38 {V0 : MM} {T : Int → Int} {L f c g0 : Int} {V : MM} {s' : ST} {bs : List Int} (hb : St38 bs) (h : NPa V0 T L f c g0 V s' bs) : ∃ s0 w0, TG V0 T L f c g0 V s0 w0 ∧ setW 38 w0 s0 = (s', bs) ∧ s0.1 = s'.1 := by
  rcases h with h | ⟨s2, rfl, h⟩
  · exact ⟨s', bs, h, hb s', rfl⟩
  · refine ⟨s2, 38 :: bs, h, ?_, (ad_p _ _).symm⟩
    show (if (38 : Int) = 38 ∨ ((38 : Int) = 124 ∧ (38 : Int) ≠ 38) then setW 38 bs (addS (if (38 : Int) = 38 then -2 else -3) s2) else (s2, 38 :: bs)) = _
    rw [if_pos (by decide), if_pos rfl]
    exact hb _
theorem npa_124 {V0 : MM} {T : Int → Int} {L f c g0 : Int} {V : MM} {s' : ST} {bs : List Int} (h : NPa V0 T L f c g0 V s' bs) : ∃ s0 w0, TG V0 T L f c g0 V s0 w0 ∧ setW 124 w0 s0 = setW 124 bs s' ∧ s0.1 = s'.1 := by
  rcases h with h | ⟨s2, rfl, h⟩
  · exact ⟨s', bs, h, rfl, rfl⟩
  · refine ⟨s2, 38 :: bs, h, ?_, (ad_p _ _).symm⟩
    show (if (38 : Int) = 38 ∨ ((38 : Int) = 124 ∧ (124 : Int) ≠ 38) then setW 124 bs (addS (if (38 : Int) = 38 then -2 else -3) s2) else (s2, 38 :: bs)) = _
    rw [if_pos (by decide), if_pos rfl]
theorem npo_124 {V0 : MM} {T : Int → Int} {L f c g0 : Int} {V : MM} {s' : ST} {w : List Int} (hw : St124 w) (h : NPo V0 T L f c g0 V s' w) : ∃ s0 w0, TG V0 T L f c g0 V s0 w0 ∧ setW 124 w0 s0 = (s', w) ∧ s0.1 = s'.1 := by
  rcases h with h | ⟨s3, rfl, h⟩
  · obtain ⟨s0, w0, a, b, d⟩ := npa_124 h
    exact ⟨s0, w0, a, by rw [b]; exact hw _, d⟩
  · obtain ⟨s0, w0, a, b, d⟩ := npa_124 h
    refine ⟨s0, w0, a, ?_, by rw [d, ad_p]⟩
    rw [b]
    show (if (124 : Int) = 38 ∨ ((124 : Int) = 124 ∧ (124 : Int) ≠ 38) then setW 124 w (addS (if (124 : Int) = 38 then -2 else -3) s3) else (s3, 124 :: w)) = _
    rw [if_pos (by decide), if_neg (by decide)]
    exact hw _
theorem tg_p {V0 : MM} {T : Int → Int} {L f c g0 : Int} {V : MM} {s : ST} {w : List Int} (h : TG V0 T L f c g0 V s w) : 0 ≤ s.1 ∧ s.1 ≤ 100 := h.2.2.2.1
section SIM
variable {g : GC} {X : CX} {Q : Option AV → MM → Prop} {V0 : MM} {T : Int → Int} {L f c g0 : Int}
theorem all_lp {one : ST → Bool × ST} {o : Int} (hc : 0 ≤ c ∧ c < 60) (hz : Fi g X (some .boolean) Q) (hD : Dp X 5) (H : OneSim g X Q V0 T L f c g0 one o) (gp : ∀ s, OKs s → (one s).1 = true → s.1 < (one s).2.1) {bs : List Int} (hb : St38 bs) (ho : opn bs = o) : ∀ (n : Nat) (s' : ST), 101 ≤ s'.1 + n → ((lpS T L one 38 (-2) n s').1 = false → ∀ V', V' 83 10 = (lpS T L one 38 (-2) n s').2.1 → Pe V0 V' c g0 → Q (some (vi 0)) V') → ((lpS T L one 38 (-2) n s').1 = true → ahS T L (lpS T L one 38 (-2) n s').2.1 ≠ 38 → ∀ V', NPa V0 T L f c g0 V' (lpS T L one 38 (-2) n s').2 bs → SW g X RX7 cX7_takesE 22 [some (vr 83), some (vi c), some (vi 0), none] [] V') → ∀ V1, NPa V0 T L f c g0 V1 s' bs → SW g X RX7 cX7_takesE 22 [some (vr 83), some (vi c), some (vi 0), none] [] V1 := by
  intro n
  induction n with
  | zero =>
    intro s' hn hF hN V1 h
    obtain ⟨s0, w0, a, b, d⟩ := npa_38 hb h
    have := tg_p a
    omega
  | succ n ih =>
    intro s' hn hF hN V1 h
    unfold lpS at hF hN
    by_cases a1 : ahS T L s'.1 = 38
    · rw [if_pos a1] at hF hN
      obtain ⟨s0, w0, a, b, d⟩ := npa_38 hb h
      refine step_nb hc hz hD a (Or.inl rfl) (by rw [d]; exact a1) b (fun V' h2 => ?_)
      refine H (s'.1 + 1, s'.2) (38 :: bs) (by show opn bs + (if (38 : Int) = 33 ∨ (38 : Int) = 40 then 1 else 0) = o; rw [if_neg (by decide)]; omega) (fun q V2 h3 h4 => ?_) (fun q V2 h3 => ?_) V' h2
      · rw [if_neg (by rw [q]; decide)] at hF
        exact hF rfl V2 h3 h4
      · rw [if_pos q] at hF hN
        have hg := gp _ h2.ok q
        replace hg : s'.1 + 1 < (one (s'.1 + 1, s'.2)).2.1 := hg
        refine ih _ (by rw [ad_p]; omega) hF hN V2 (Or.inr ⟨_, rfl, ?_⟩)
        have e : popW (38 :: bs) (one (s'.1 + 1, s'.2)).2 = ((one (s'.1 + 1, s'.2)).2, 38 :: bs) := if_neg (by decide)
        rw [e] at h3
        exact h3
    · rw [if_neg a1] at hF hN
      exact hN rfl a1 V1 h
theorem all_sim {one : ST → Bool × ST} {o : Int} (hc : 0 ≤ c ∧ c < 60) (hz : Fi g X (some .boolean) Q) (hD : Dp X 5) (H : OneSim g X Q V0 T L f c g0 one o) (gp : ∀ s, OKs s → (one s).1 = true → s.1 < (one s).2.1) {bs : List Int} (hb : St38 bs) (hpop : ∀ s, popW bs s = (s, bs)) (ho : opn bs = o) (s : ST) (hF : (seS T L one 38 (-2) s).1 = false → ∀ V', V' 83 10 = (seS T L one 38 (-2) s).2.1 → Pe V0 V' c g0 → Q (some (vi 0)) V') (hN : (seS T L one 38 (-2) s).1 = true → ahS T L (seS T L one 38 (-2) s).2.1 ≠ 38 → ∀ V', NPa V0 T L f c g0 V' (seS T L one 38 (-2) s).2 bs → SW g X RX7 cX7_takesE 22 [some (vr 83), some (vi c), some (vi 0), none] [] V') (V1 : MM) (h : TG V0 T L f c g0 V1 s bs) : SW g X RX7 cX7_takesE 22 [some (vr 83), some (vi c), some (vi 1), none] [] V1 := by
  unfold seS at hF hN
  refine H s bs ho (fun q V2 h3 h4 => ?_) (fun q V2 h3 => ?_) V1 h
  · rw [if_neg (by rw [q]; decide)] at hF
    exact hF rfl V2 h3 h4
  · rw [if_pos q] at hF hN
    have hg := gp _ h.ok q
    have hp := tg_p h
    rw [hpop] at h3
    exact all_lp hc hz hD H gp hb ho 100 _ (by omega) hF hN V2 (Or.inl h3)
theorem any_lp {one : ST → Bool × ST} {o : Int} (hc : 0 ≤ c ∧ c < 60) (hz : Fi g X (some .boolean) Q) (hD : Dp X 5) (H : OneSim g X Q V0 T L f c g0 one o) (gp : ∀ s, OKs s → (one s).1 = true → s.1 < (one s).2.1) (gq : ∀ s, OKs s → (seS T L one 38 (-2) s).1 = true → s.1 < (seS T L one 38 (-2) s).2.1) {w : List Int} (hw : St124 w) (ho : opn w = o) : ∀ (n : Nat) (s' : ST), 101 ≤ s'.1 + n → ahS T L s'.1 ≠ 38 → ((lpS T L (seS T L one 38 (-2)) 124 (-3) n s').1 = false → ∀ V', V' 83 10 = (lpS T L (seS T L one 38 (-2)) 124 (-3) n s').2.1 → Pe V0 V' c g0 → Q (some (vi 0)) V') → ((lpS T L (seS T L one 38 (-2)) 124 (-3) n s').1 = true → ahS T L (lpS T L (seS T L one 38 (-2)) 124 (-3) n s').2.1 ≠ 38 → ahS T L (lpS T L (seS T L one 38 (-2)) 124 (-3) n s').2.1 ≠ 124 → ∀ V', NPo V0 T L f c g0 V' (lpS T L (seS T L one 38 (-2)) 124 (-3) n s').2 w → SW g X RX7 cX7_takesE 22 [some (vr 83), some (vi c), some (vi 0), none] [] V') → ∀ V1, NPo V0 T L f c g0 V1 s' w → SW g X RX7 cX7_takesE 22 [some (vr 83), some (vi c), some (vi 0), none] [] V1 := by
  intro n
  induction n with
  | zero =>
    intro s' hn h38 hF hN V1 h
    obtain ⟨s0, w0, a, b, d⟩ := npo_124 hw h
    have := tg_p a
    omega
  | succ n ih =>
    intro s' hn h38 hF hN V1 h
    unfold lpS at hF hN
    by_cases a1 : ahS T L s'.1 = 124
    · rw [if_pos a1] at hF hN
      obtain ⟨s0, w0, a, b, d⟩ := npo_124 hw h
      refine step_nb hc hz hD a (Or.inr rfl) (by rw [d]; exact a1) b (fun V' h2 => ?_)
      refine all_sim hc hz hD H gp (st_or w) (fun s => if_neg (by decide)) (by show opn w + (if (124 : Int) = 33 ∨ (124 : Int) = 40 then 1 else 0) = o; rw [if_neg (by decide)]; omega) (s'.1 + 1, s'.2) (fun q V2 h3 h4 => ?_) (fun q q38 V2 h3 => ?_) V' h2
      · rw [if_neg (by rw [q]; decide)] at hF
        exact hF rfl V2 h3 h4
      · rw [if_pos q] at hF hN
        have hg := gq _ h2.ok q
        replace hg : s'.1 + 1 < (seS T L one 38 (-2) (s'.1 + 1, s'.2)).2.1 := hg
        exact ih _ (by rw [ad_p]; omega) (by rw [ad_p]; exact q38) hF hN V2 (Or.inr ⟨_, rfl, h3⟩)
    · rw [if_neg a1] at hF hN
      exact hN rfl h38 a1 V1 h
theorem any_sim {one : ST → Bool × ST} {o : Int} (hc : 0 ≤ c ∧ c < 60) (hz : Fi g X (some .boolean) Q) (hD : Dp X 5) (H : OneSim g X Q V0 T L f c g0 one o) (gp : ∀ s, OKs s → (one s).1 = true → s.1 < (one s).2.1) (gq : ∀ s, OKs s → (seS T L one 38 (-2) s).1 = true → s.1 < (seS T L one 38 (-2) s).2.1) {w : List Int} (hw3 : St38 w) (hw : St124 w) (hpop : ∀ s, popW w s = (s, w)) (ho : opn w = o) (s : ST) (hF : (anyS T L one s).1 = false → ∀ V', V' 83 10 = (anyS T L one s).2.1 → Pe V0 V' c g0 → Q (some (vi 0)) V') (hN : (anyS T L one s).1 = true → ahS T L (anyS T L one s).2.1 ≠ 38 → ahS T L (anyS T L one s).2.1 ≠ 124 → ∀ V', NPo V0 T L f c g0 V' (anyS T L one s).2 w → SW g X RX7 cX7_takesE 22 [some (vr 83), some (vi c), some (vi 0), none] [] V') (V1 : MM) (h : TG V0 T L f c g0 V1 s w) : SW g X RX7 cX7_takesE 22 [some (vr 83), some (vi c), some (vi 1), none] [] V1 := by
  have e : anyS T L one s = if (seS T L one 38 (-2) s).1 = true then lpS T L (seS T L one 38 (-2)) 124 (-3) 100 (seS T L one 38 (-2) s).2 else (false, (seS T L one 38 (-2) s).2) := rfl
  rw [e] at hF hN
  refine all_sim hc hz hD H gp hw3 hpop ho s (fun q V2 h3 h4 => ?_) (fun q q38 V2 h3 => ?_) V1 h
  · rw [if_neg (by rw [q]; decide)] at hF
    exact hF rfl V2 h3 h4
  · rw [if_pos q] at hF hN
    have hg := gq _ h.ok q
    have hp := tg_p h
    exact any_lp hc hz hD H gp gq hw ho 100 _ (by omega) q38 hF hN V2 (Or.inl h3)
theorem gp_one (r : Nat) (hr : r ≤ 4) (s : ST) (h : OKs s) (q : (oneS T L r s).1 = true) : s.1 < (oneS T L r s).2.1 := ((gd_one r hr s h).2.2 q).1
theorem gq_one (r : Nat) (hr : r ≤ 4) (s : ST) (h : OKs s) (q : (seS T L (oneS T L r) 38 (-2) s).1 = true) : s.1 < (seS T L (oneS T L r) 38 (-2) s).2.1 :=
  ((gd_se (K := 56 - 2 * r) (by omega) (Or.inl rfl) (by omega) (fun s hs => by have := gd_one (T := T) (L := L) r hr s hs; rw [show 56 - 2 * r + 1 = 57 - 2 * r by omega]; exact this) (one_inv r) s h).2.2 q).1
theorem one_sim (hc : 0 ≤ c ∧ c < 60) (hz : Fi g X (some .boolean) Q) (hD : Dp X 5) : ∀ (r : Nat), r ≤ 4 → OneSim g X Q V0 T L f c g0 (oneS T L r) (4 - r) := by
  intro r
  induction r with
  | zero =>
    intro hr s w ho hF hN V1 h
    replace ho : opn w = 4 := by omega
    unfold oneS at hF hN
    refine step_w hc hz hD h (by omega) (fun a1 a2 V' h1 h2 => ?_) (fun b a1 a2 a3 V' h1 => by omega) (fun a1 a2 V' h1 => ?_) (fun a1 a2 V' h1 h2 => ?_)
    · rw [if_pos a1] at hF
      exact hF rfl V' h1 h2
    · rw [if_neg a1] at hN
      exact hN a2 V' h1
    · rw [if_neg a1] at hF
      exact hF a2 V' h1 h2
  | succ r ih =>
    intro hr s w ho hF hN V1 h
    have hi := ih (by omega)
    unfold oneS at hF hN
    refine step_w hc hz hD h (by omega) (fun a1 a2 V' h1 h2 => by omega) (fun b a1 a2 a3 V' h1 => ?_) (fun a1 a2 V' h1 => ?_) (fun a1 a2 V' h1 h2 => ?_)
    · rcases a1 with rfl | rfl
      · rw [if_neg (by omega), if_pos a2] at hF hN
        refine hi (s.1 + 1, s.2) (33 :: w) (by show opn w + (if (33 : Int) = 33 ∨ (33 : Int) = 40 then 1 else 0) = _; rw [if_pos (by decide)]; omega) (fun q V2 h3 h4 => ?_) (fun q V2 h3 => ?_) V' h1
        · unfold noS at hF
          rw [if_neg (by rw [q]; decide)] at hF
          exact hF rfl V2 h3 h4
        · unfold noS at hN
          rw [if_pos q] at hN
          have e : popW (33 :: w) (oneS T L r (s.1 + 1, s.2)).2 = popW w (addS (-1) (oneS T L r (s.1 + 1, s.2)).2) := if_pos rfl
          rw [e] at h3
          exact hN rfl V2 h3
      · rw [if_pos a2] at hF hN
        refine any_sim hc hz hD hi (gp_one r (by omega)) (gq_one r (by omega)) (st_br w).1 (st_br w).2 (fun s => if_neg (by decide)) (by show opn w + (if (40 : Int) = 33 ∨ (40 : Int) = 40 then 1 else 0) = _; rw [if_pos (by decide)]; omega) (s.1 + 1, s.2) (fun q V2 h3 h4 => ?_) (fun q q38 q124 V2 h3 => ?_) V' h1
        · unfold brS at hF
          rw [if_neg (by rw [q]; decide)] at hF
          exact hF rfl V2 h3 h4
        · unfold brS at hF hN
          rw [if_pos q] at hF hN
          obtain ⟨s0, w0, a, b, d⟩ := npo_124 (st_br w).2 h3
          rw [← d] at q38 q124 hF hN
          refine step_ne hc hz hD a q38 q124 b (fun e => by cases e) (fun e1 e2 V3 h4 h5 => ?_) (fun w1 e1 e2 V3 h4 => ?_) (Or.inr ⟨w, rfl⟩)
          · rw [if_neg e2] at hF
            exact hF rfl V3 h4 h5
          · rw [if_pos e2] at hN
            have ew : w1 = w := by injection e1 with _ e3; exact e3.symm
            subst ew
            rw [← d] at h4
            exact hN rfl V3 h4
    · rw [if_neg (by omega), if_neg (by omega)] at hN
      exact hN a2 V' h1
    · rw [if_neg (by omega), if_neg (by omega)] at hF
      exact hF a2 V' h1 h2
end SIM

theorem m_takesE {g : GC} {V : MM} {T : Int → Int} {L f c : Int} {s : ST} (hc : 0 ≤ c ∧ c < 60) (hX : TX V T L s.1) (h20 : V 83 20 = 100 * f + s.2.1) (h95 : ∀ j, 0 ≤ j ∧ j < s.2.1 → V 95 (100 * f + j) = mapc (s.2.2 j)) (hok : OKs s) (hf : 0 ≤ f ∧ f ≤ 5) : Ct g mX7_takesE 5 [vr 83, vi c] V (RI (fun z V' => (z = 1 ∧ (coS T L s).1 = true ∧ TS V' T L f (coS T L s).2 [] ∧ Pe (upR V 93 (ur (V 93) c (100 * f + s.2.1))) V' c (100 * f + s.2.1) ∧ V' 94 c = 100 * f + (coS T L s).2.2.1) ∨ (z = 0 ∧ (coS T L s).1 = false ∧ V' 83 10 = (coS T L s).2.1 ∧ Pe (upR V 93 (ur (V 93) c (100 * f + s.2.1))) V' c (100 * f + s.2.1)))) := by
  refine Ct.of (ls := [some (vr 83), some (vi c), none, none]) (plainFor_of_name (by decide +kernel)) rfl (by exact Nat.le_of_ble_eq_true rfl) (fun X hz hD => ?_)
  refine S_al0 qX7_takesE_0 ?_
  refine S_iconst qX7_takesE_1 ?_
  refine S_putI qX7_takesE_2 fX7_74 e83_21 tX7_21 ?_
  refine S_al0 qX7_takesE_5 ?_
  refine S_iconst qX7_takesE_6 ?_
  refine S_putI qX7_takesE_7 fX7_77 e83_22 tX7_22 ?_
  refine S_al0 qX7_takesE_10 ?_
  refine S_getR qX7_takesE_11 fX7_59 e83_16 ?_
  refine S_il1 qX7_takesE_14 ?_
  refine S_al0 qX7_takesE_15 ?_
  refine S_getI qX7_takesE_16 fX7_71 e83_20 ?_
  simp only [upR_s, ur_n _ (show (20 : Int) ≠ 22 by decide), ur_n _ (show (20 : Int) ≠ 21 by decide), h20]
  refine S_iast qX7_takesE_19 a93 (K := ?_)
  refine S_iconst qX7_takesE_20 ?_
  refine S_is2 qX7_takesE_21 (K := ?_)
  generalize hU : upR (upR (upR V 83 (ur (V 83) 21 0)) 83 (ur (ur (V 83) 21 0) 22 0)) 93 (ur (upR (upR V 83 (ur (V 83) 21 0)) 83 (ur (ur (V 83) 21 0) 22 0) 93) c (100 * f + s.2.1)) = U
  have uk : ∀ k : Nat, k ≠ 83 → k ≠ 93 → U k = V k := fun k a b => by rw [← hU, upR_n _ b, upR_n _ a, upR_n _ a]
  have uj : ∀ j : Int, j ≠ 21 → j ≠ 22 → U 83 j = V 83 j := fun j a b => by rw [← hU, upR_n _ (by omega), upR_s, ur_n _ b, ur_n _ a]
  have u21 : U 83 21 = 0 := by rw [← hU, upR_n _ (by omega), upR_s, ur_n _ (by omega), ur_s]
  have u22 : U 83 22 = 0 := by rw [← hU, upR_n _ (by omega), upR_s, ur_s]
  have u93 : U 93 = ur (V 93) c (100 * f + s.2.1) := by rw [← hU, upR_s, upR_n _ (by omega), upR_n _ (by omega)]
  obtain ⟨x1, x2, x3, x4, x5, x6⟩ := hX
  obtain ⟨hri, hle⟩ := id hok
  have hTU : TS U T L f s [] := ⟨⟨by rw [uj 9 (by omega) (by omega)]; exact x1, by rw [uk 89 (by omega) (by omega)]; exact x2, by rw [uj 10 (by omega) (by omega)]; exact x3, x4, x5, x6⟩, by rw [uj 20 (by omega) (by omega)]; exact h20, by rw [uk 95 (by omega) (by omega)]; exact h95, u21, trivial, u22, ⟨by show s.2.1 + 0 ≤ s.1; omega, hri.2.1.1, x4.2⟩, hf, fun t ht => by cases ht⟩
  have hPU : Pe (upR V 93 (ur (V 93) c (100 * f + s.2.1))) U c (100 * f + s.2.1) := by
    refine ⟨fun k a b d e => ?_, fun j a b d e q => by rw [uj j e q, upR_n _ (by omega)], fun i a => by rw [uk 95 (by omega) (by omega), upR_n _ (by omega)], fun i a => by rw [uk 94 (by omega) (by omega), upR_n _ (by omega)]⟩
    by_cases k93 : k = 93
    · rw [k93, u93, upR_s]
    · rw [uk k a k93, upR_n _ k93]
  have hGU : TG (upR V 93 (ur (V 93) c (100 * f + s.2.1))) T L f c (100 * f + s.2.1) U s [] := ⟨hTU, hPU, Int.le_refl _, hri⟩
  refine SW.forget 3 ?_
  refine any_sim hc hz hD (one_sim hc hz hD 4 (by omega)) (gp_one 4 (by omega)) (gq_one 4 (by omega)) st_nil.1 st_nil.2 (fun s => rfl) rfl s (fun q V2 h3 h4 => ⟨_, rfl, Or.inr ⟨rfl, q, h3, h4⟩⟩) (fun q q38 q124 V2 h3 => ?_) U hGU
  obtain ⟨s0, w0, a, b, d⟩ := npo_124 st_nil.2 h3
  refine step_ne hc hz hD a (by rw [d]; exact q38) (by rw [d]; exact q124) b (fun _ V3 h4 h5 => ⟨_, rfl, Or.inl ⟨rfl, q, h4.1, h4.2.1, h5⟩⟩) (fun e => absurd rfl e) (fun w1 e => by cases e) (Or.inl rfl)
