def CR (V : MM) (f : Int) (n : Nat) (c : CT) (s : ST) : Prop := c.1 = (if lasM V 2 n (10 * f) 24 < 1 then 1 else lasM V 2 n (10 * f) 24) ∧ c.2.1 = lasM V 3 n (10 * f) 0 ∧ (∀ j, 10 * f ≤ j ∧ j < 10 * f + n → ClOK V j ∧ (V 91 j ≤ 1 → V 94 j ≤ 100 * f + s.2.1)) ∧ (∀ fs d, sumM V fs d n (10 * f) 0 = stC c.2.2.2.1 c.2.2.2.2 s.2.2 fs d c.2.2.1.toNat 0 0 0) ∧ frS2 c.2.2.2.2 c.2.2.1.toNat 0 0 = s.2.1 ∧ CInv c s
/-- earlier clauses are as they were -/
def Ea (V V' : MM) (f : Int) (n : Nat) (g0 : Int) : Prop := (∀ k : Nat, 91 ≤ k ∧ k ≤ 94 → ∀ j, 10 * f ≤ j ∧ j < 10 * f + n → V' k j = V k j) ∧ ∀ i : Int, 100 * f ≤ i ∧ i < g0 → V' 95 i = V 95 i
theorem ea_hld {V V' : MM} {f : Int} {n : Nat} {c : CT} {s : ST} (hf : 0 ≤ f ∧ f ≤ 5) (hn : n ≤ 10) (h : CR V f n c s) (e : Ea V V' f n (100 * f + s.2.1)) (j : Int) (hj : 10 * f ≤ j ∧ j < 10 * f + n) (q : V 91 j ≤ 1) : ∀ i, V 93 j ≤ i ∧ i < V 94 j → V' 95 i = V 95 i := fun i hi => by
  obtain ⟨⟨-, -, -, x⟩, y⟩ := h.2.2.1 j hj
  have h1 := x q
  have h2 := y q
  have hq : j / 10 = f ∨ (n = 10 ∧ j / 10 = f) := by omega
  exact e.2 i (by omega)
theorem CR_las {V V' : MM} {f : Int} {n : Nat} {g0 : Int} (e : Ea V V' f n g0) (w a : Int) : lasM V' w n (10 * f) a = lasM V w n (10 * f) a :=
  las_c (e := 10 * f + n) n (10 * f) a rfl (fun j hj => ⟨e.1 91 (by omega) j hj, e.1 92 (by omega) j hj⟩)
theorem CR_sum {V V' : MM} {f : Int} {n : Nat} {c : CT} {s : ST} (hf : 0 ≤ f ∧ f ≤ 5) (hn : n ≤ 10) (h : CR V f n c s) (e : Ea V V' f n (100 * f + s.2.1)) (fs : FS) (d : Int) : sumM V' fs d n (10 * f) 0 = sumM V fs d n (10 * f) 0 :=
  sum_c (e := 10 * f + n) n (10 * f) 0 rfl (fun j hj => ⟨e.1 91 (by omega) j hj, e.1 92 (by omega) j hj, fun q => hld_c (e.1 93 (by omega) j hj) (e.1 94 (by omega) j hj) (ea_hld hf hn h e j hj q) fs d⟩)
theorem CR_cl {V V' : MM} {f : Int} {n : Nat} {c : CT} {s : ST} (hf : 0 ≤ f ∧ f ≤ 5) (hn : n ≤ 10) (h : CR V f n c s) (e : Ea V V' f n (100 * f + s.2.1)) (j : Int) (hj : 10 * f ≤ j ∧ j < 10 * f + n) : ClOK V' j ∧ (V' 91 j ≤ 1 → V' 94 j ≤ 100 * f + s.2.1) := by
  obtain ⟨a, b⟩ := h.2.2.1 j hj
  refine ⟨clok_c a (e.1 91 (by omega) j hj) (e.1 92 (by omega) j hj) (e.1 93 (by omega) j hj) (e.1 94 (by omega) j hj) (fun q => ea_hld hf hn h e j hj q), ?_⟩
  rw [e.1 91 (by omega) j hj, e.1 94 (by omega) j hj]
  exact b
/-- one clause more, of the width or of skipping -/
theorem CR_w {V V' : MM} {f k p : Int} {n : Nat} {c : CT} {s : ST} (hf : 0 ≤ f ∧ f ≤ 5) (hn : n < 10) (h : CR V f n c s) (e : Ea V V' f n (100 * f + s.2.1)) (h1 : V' 91 (10 * f + n) = 2) (h2 : V' 92 (10 * f + n) = k) (hk : 0 ≤ k ∧ k ≤ 99) : CR V' f (n + 1) ((if k < 1 then 1 else k), c.2) (p, s.2) := by
  have hl := h.2.2.2.2.2
  obtain ⟨c1, c2, c3, c4⟩ := hl
  have el : lasM V' 3 (n + 1) (10 * f) 0 = lasM V 3 n (10 * f) 0 := by rw [las_last, if_neg (by omega), CR_las e]
  have em : lasM V' 2 (n + 1) (10 * f) 24 = k := by rw [las_last, if_pos h1, h2]
  refine ⟨?_, ?_, fun j hj => ?_, fun fs d => ?_, h.2.2.2.2.1, ⟨?_, c2, c3, c4⟩⟩
  · rw [em]
  · rw [el]
    exact h.2.1
  · by_cases q : j = 10 * f + n
    · rw [q]
      exact ⟨⟨by omega, by omega, fun x => by omega, fun x => by omega⟩, fun x => by omega⟩
    · exact CR_cl hf (by omega) h e j (by omega)
  · rw [sum_last]
    unfold ad1
    rw [if_neg (fun x => by have := x.1; omega), CR_sum hf (by omega) h e]
    exact h.2.2.2.1 fs d
  · show 1 ≤ (if k < 1 then 1 else k) ∧ (if k < 1 then 1 else k) ≤ 99
    split <;> omega
theorem CR_k {V V' : MM} {f k p : Int} {n : Nat} {c : CT} {s : ST} (hf : 0 ≤ f ∧ f ≤ 5) (hn : n < 10) (h : CR V f n c s) (e : Ea V V' f n (100 * f + s.2.1)) (h1 : V' 91 (10 * f + n) = 3) (h2 : V' 92 (10 * f + n) = k) (hk : 0 ≤ k ∧ k ≤ 99) : CR V' f (n + 1) (c.1, k, c.2.2) (p, s.2) := by
  obtain ⟨c1, c2, c3, c4⟩ := h.2.2.2.2.2
  have el : lasM V' 2 (n + 1) (10 * f) 24 = lasM V 2 n (10 * f) 24 := by rw [las_last, if_neg (by omega), CR_las e]
  have em : lasM V' 3 (n + 1) (10 * f) 0 = k := by rw [las_last, if_pos h1, h2]
  refine ⟨?_, ?_, fun j hj => ?_, fun fs d => ?_, h.2.2.2.2.1, ⟨c1, hk, c3, c4⟩⟩
  · rw [el]
    exact h.1
  · rw [em]
  · by_cases q : j = 10 * f + n
    · rw [q]
      exact ⟨⟨by omega, by omega, fun x => by omega, fun x => by omega⟩, fun x => by omega⟩
    · exact CR_cl hf (by omega) h e j (by omega)
  · rw [sum_last]
    unfold ad1
    rw [if_neg (fun x => by have := x.1; omega), CR_sum hf (by omega) h e]
    exact h.2.2.2.1 fs d
/-- one step more -/
theorem CR_s {V V' : MM} {f k w : Int} {n : Nat} {c : CT} {s s' : ST} (hf : 0 ≤ f ∧ f ≤ 5) (hn : n < 10) (h : CR V f n c s) (e : Ea V V' f n (100 * f + s.2.1)) (h1 : V' 91 (10 * f + n) = w) (hw : w = 0 ∨ w = 1) (h2 : V' 92 (10 * f + n) = k) (hk : 0 ≤ k ∧ k ≤ 99) (h3 : V' 93 (10 * f + n) = 100 * f + s.2.1) (h4 : V' 94 (10 * f + n) = 100 * f + s'.2.1) (h5 : ∀ j, 0 ≤ j ∧ j < s'.2.1 → V' 95 (100 * f + j) = mapc (s'.2.2 j)) (hg : Gd 0 s (true, s')) (hr : RInv s') (hr0 : 0 ≤ s.2.1) : CR V' f (n + 1) (stp c s'.2.1 (if w = 0 then k else -k)) s' := by
  obtain ⟨c1, c2, c3, c4⟩ := id h.2.2.2.2.2
  obtain ⟨⟨g1, g2, g3⟩, g4, g5⟩ := hg
  replace g2 : s.2.1 ≤ s'.2.1 := g2
  replace g4 : ∀ j, 0 ≤ j ∧ j < s.2.1 → s'.2.2 j = s.2.2 j := g4
  have g6 : EvK 0 s'.2.2 s.2.1 s'.2.1 := (g5 rfl).2
  have hst : c.2.2.1.toNat = c.2.2.1.toNat := rfl
  have hr2 := hr.2.1
  have hr3 := hr.2.2
  have hsg : SgOK (V' 95) (V' 93 (10 * f + n)) (V' 94 (10 * f + n)) := by
    rw [h3, h4]
    refine ⟨⟨by omega, by omega, by omega⟩, fun i hi => ?_, fun fs d => ?_⟩
    · have := h5 (i - 100 * f) (by omega)
      rw [show 100 * f + (i - 100 * f) = i by omega] at this
      rw [this]
      exact mapc_rg (hr3 _ (by omega))
    · obtain ⟨v, hv⟩ := g6 fs d [] (by simp)
      refine ⟨v, ?_⟩
      rw [← hv, show (100 * f + s'.2.1 - (100 * f + s.2.1)).toNat = (s'.2.1 - s.2.1).toNat by omega]
      exact evM_shift fs d _ _ _ (fun j hj => h5 j (by omega))
  have hcl : ∀ j, 10 * f ≤ j ∧ j < 10 * f + ((n + 1 : Nat) : Int) → ClOK V' j ∧ (V' 91 j ≤ 1 → V' 94 j ≤ 100 * f + s'.2.1) := fun j hj => by
    by_cases q : j = 10 * f + n
    · rw [q]
      refine ⟨⟨by omega, by omega, fun _ => hsg, fun _ => ?_⟩, fun _ => by omega⟩
      rw [h3, h4, show (10 * f + (n : Int)) / 10 = f by omega]
      omega
    · have := CR_cl hf (by omega) h e j (by omega)
      exact ⟨this.1, fun x => by have := this.2 x; omega⟩
  have el2 : lasM V' 2 (n + 1) (10 * f) 24 = lasM V 2 n (10 * f) 24 := by rw [las_last, if_neg (by omega), CR_las e]
  have el3 : lasM V' 3 (n + 1) (10 * f) 0 = lasM V 3 n (10 * f) 0 := by rw [las_last, if_neg (by omega), CR_las e]
  refine ⟨?_, ?_, hcl, fun fs d => ?_, ?_, ⟨c1, c2, by show 0 ≤ c.2.2.1 + 1; omega, fun i hi => ?_⟩⟩
  · rw [el2]
    exact h.1
  · rw [el3]
    exact h.2.1
  · show _ = stC (ur c.2.2.2.1 c.2.2.1 (if w = 0 then k else -k)) (ur c.2.2.2.2 c.2.2.1 s'.2.1) s'.2.2 fs d (c.2.2.1 + 1).toNat 0 0 0
    rw [show (c.2.2.1 + 1).toNat = c.2.2.1.toNat + 1 by omega, stC_last, sum_last, CR_sum hf (by omega) h e, h.2.2.2.1 fs d, show (0 : Int) + (c.2.2.1.toNat : Int) = c.2.2.1 by omega, ur_s, ur_s]
    have ef : frS2 (ur c.2.2.2.2 c.2.2.1 s'.2.1) c.2.2.1.toNat 0 0 = s.2.1 := by
      rw [← h.2.2.2.2.1]
      cases hq : c.2.2.1.toNat with
      | zero => rfl
      | succ m =>
        show ur c.2.2.2.2 c.2.2.1 s'.2.1 (0 + m) = c.2.2.2.2 (0 + m)
        rw [ur_n _ (by omega)]
    rw [ef]
    obtain ⟨v, hv⟩ := g6 fs d [] (by simp)
    have hh : holC s'.2.2 fs d s.2.1 s'.2.1 = v := hol_ev (fun j hj => hr3 j (by omega)) hv
    have hd : hldM V' (10 * f + n) fs d = v := by
      unfold hldM
      rw [h3, h4, show (100 * f + s'.2.1 - (100 * f + s.2.1)).toNat = (s'.2.1 - s.2.1).toNat by omega, evM_shift fs d _ _ _ (fun j hj => h5 j (by omega)), hv]
      rfl
    have es := stC_cong (am := c.2.2.2.1) (am' := ur c.2.2.2.1 c.2.2.1 (if w = 0 then k else -k)) (en := c.2.2.2.2) (en' := ur c.2.2.2.2 c.2.2.1 s'.2.1) (co := s.2.2) (co' := s'.2.2) (N := s.2.1) (M := c.2.2.1) (fun i hi => (g4 i hi).symm) (fun i hi => ⟨by rw [ur_n _ (by omega)], by rw [ur_n _ (by omega)]⟩) (fun i hi => (c4 i hi).2) fs d c.2.2.1.toNat 0 0 0 (by omega) (by omega) (by omega)
    rw [← es, hh]
    unfold ad1
    rw [h1, h2, hd]
    cases v
    · rw [if_neg (fun x => by cases x.2), if_neg (by decide)]
    · rw [if_pos ⟨by omega, rfl⟩, if_pos rfl]
      rcases hw with q | q
      · rw [if_pos q, if_pos q]
      · rw [if_neg (by omega), if_neg (by omega)]
  · show frS2 (ur c.2.2.2.2 c.2.2.1 s'.2.1) (c.2.2.1 + 1).toNat 0 0 = s'.2.1
    rw [show (c.2.2.1 + 1).toNat = c.2.2.1.toNat + 1 by omega]
    show ur c.2.2.2.2 c.2.2.1 s'.2.1 (0 + (c.2.2.1.toNat : Int)) = _
    rw [show (0 : Int) + (c.2.2.1.toNat : Int) = c.2.2.1 by omega, ur_s]
  · replace hi : 0 ≤ i ∧ i < c.2.2.1 + 1 := hi
    show (-99 ≤ ur c.2.2.2.1 c.2.2.1 (if w = 0 then k else -k) i ∧ ur c.2.2.2.1 c.2.2.1 (if w = 0 then k else -k) i ≤ 99) ∧ (0 ≤ ur c.2.2.2.2 c.2.2.1 s'.2.1 i ∧ ur c.2.2.2.2 c.2.2.1 s'.2.1 i ≤ s'.2.1)
    by_cases q : i = c.2.2.1
    · rw [q, ur_s, ur_s]
      split <;> omega
    · rw [ur_n _ q, ur_n _ q]
      have := c4 i (by omega)
      omega
/-- the reference amid a hall's reading -/
def GT (V0 V : MM) (T : Int → Int) (L f : Int) (n : Nat) (c : CT) (s : ST) : Prop := TX V T L s.1 ∧ V 83 20 = 100 * f + s.2.1 ∧ (∀ j, 0 ≤ j ∧ j < s.2.1 → V 95 (100 * f + j) = mapc (s.2.2 j)) ∧ OKs s ∧ CR V f n c s ∧ Px V0 V f
theorem ta_0 {T : Int → Int} {L : Int} {i n : Nat} {s : ST} (h : (taL T L i (n + 1) 0 s).1 = true) : ahS T L s.1 = byS i 0 := by
  apply Classical.byContradiction
  intro q
  unfold taL at h
  rw [if_neg q] at h
  cases h
theorem ta_inv2 {T : Int → Int} {L : Int} {s : ST} (h : OKs s) : RInv (taL T L (woN (ahS T L s.1)) (lnS (woN (ahS T L s.1))) 0 s).2 := ta_inv (wo_lt (ahS T L s.1)) (lnS (woN (ahS T L s.1))) 0 s (by omega) (by omega) h.1
theorem ta_le {T : Int → Int} {L : Int} {i : Nat} : ∀ (n : Nat) (j : Int) (s : ST), s.1 ≤ (taL T L i n j s).2.1 := by
  intro n
  induction n with
  | zero => intro j s; exact Int.le_refl _
  | succ n ih =>
    intro j s
    unfold taL
    split
    · have := ih (j + 1) (s.1 + 1, s.2)
      replace this : s.1 + 1 ≤ _ := this
      omega
    · exact Int.le_refl _

theorem m_takesClause {g : GC} {V0 V : MM} {T : Int → Int} {L f cc : Int} {n : Nat} {c : CT} {s : ST} (hl : MAl V) (hG : GT V0 V T L f n c s) (hf : 0 ≤ f ∧ f ≤ 5) (hn : n < 10) (hcc : cc = 10 * f + n) : Ct g mX7_takesClause 6 [vr 83, vi cc] V (RI (fun z V' => (z = 1 ∧ (clS T L c s).1 = true ∧ GT V0 V' T L f (n + 1) (clS T L c s).2.1 (clS T L c s).2.2) ∨ (z = 0 ∧ (clS T L c s).1 = false ∧ V' 83 10 = (clS T L c s).2.2.1 ∧ Px V0 V' f))) := by
  refine Ct.of (ls := [some (vr 83), some (vi cc)]) (plainFor_of_name (by decide +kernel)) rfl (by exact Nat.le_of_ble_eq_true rfl) (fun X hz hD => ?_)
  obtain ⟨hX, h20, h95, hok, hCR, hPx⟩ := id hG
  have hmt := mo_ta (T := T) (L := L) (i := woN (ahS T L s.1)) (lnS (woN (ahS T L s.1))) 0 s
  have hti := ta_inv2 (T := T) (L := L) hok
  have htl := ta_le (T := T) (L := L) (i := woN (ahS T L s.1)) (lnS (woN (ahS T L s.1))) 0 s
  have hnr := nu_rg T L (taL T L (woN (ahS T L s.1)) (lnS (woN (ahS T L s.1))) 0 s).2.1
  have hwl := wo_lt (ahS T L s.1)
  have hw4 : woN (ahS T L s.1) < 4 := by unfold woN; (repeat' split) <;> omega
  have hbt := b2i_c (taL T L (woN (ahS T L s.1)) (lnS (woN (ahS T L s.1))) 0 s).1
  have u91p := up_px (V := V) (k := 91) (f := f) (i := cc) (x := (woN (ahS T L s.1) : Int)) (by omega) (by omega)
  refine S_al0 qX7_takesClause_0 ?_
  refine S_il1 qX7_takesClause_1 ?_
  refine S_V1I hD qX7_takesClause_2 lX7_256 vX7_takesHead r83 (m_takesHead (f := f) hl hX (by omega)) (kk := fun z2 V2 h2 => ?_)
  obtain ⟨rfl, hA, hX2⟩ := h2
  refine S_if_eq (d := qX7_takesClause_5) (kt := fun c5 => ?_) (kf := fun c5 => ?_)
  · refine S_iconst qX7_takesClause_15 ?_
    refine S_zret hz qX7_takesClause_16 (by omega) ?_
    have hfa : ¬ (taL T L (woN (ahS T L s.1)) (lnS (woN (ahS T L s.1))) 0 s).1 = true := fun q => by rw [q] at c5; exact absurd c5 (by decide)
    rw [cl_1 hfa]
    exact ⟨_, rfl, Or.inr ⟨rfl, rfl, hX2.2.2.1, hPx.tr (u91p.tr (hA.px f))⟩⟩
  · refine S_al0 qX7_takesClause_8 ?_
    have ht1 : (taL T L (woN (ahS T L s.1)) (lnS (woN (ahS T L s.1))) 0 s).1 = true := by
      cases hq : (taL T L (woN (ahS T L s.1)) (lnS (woN (ahS T L s.1))) 0 s).1
      · rw [hq] at c5; exact absurd rfl c5
      · rfl
    refine S_V0I hD qX7_takesClause_9 lX7_240 vX7_takesNumber r83 (m_takesNumber hX2) (kk := fun z9 V9 h9 => ?_)
    rcases h9 with ⟨rfl, tn, hA2, hX3, hdg⟩ | ⟨rfl, tn, tnb, rfl⟩
    · refine S_if_ne (d := qX7_takesClause_12) (kt := fun _ => ?_) (kf := fun c => absurd c (by decide))
      refine S_al0 qX7_takesClause_17 ?_
      refine S_getR qX7_takesClause_18 fX7_56 e83_15 ?_
      refine S_il1 qX7_takesClause_21 ?_
      refine S_al0 qX7_takesClause_22 ?_
      refine S_getI qX7_takesClause_23 fX7_44 e83_11 ?_
      rw [hdg]
      refine S_iast qX7_takesClause_26 a92 (K := ?_)
      generalize hW : upR V9 92 (ur (V9 92) cc (nuS T L (taL T L (woN (ahS T L s.1)) (lnS (woN (ahS T L s.1))) 0 s).2.1).1) = W
      have wk : ∀ k : Nat, k ≠ 92 → W k = V9 k := fun k a => by rw [← hW, upR_n _ a]
      have w92 : W 92 = ur (V9 92) cc (nuS T L (taL T L (woN (ahS T L s.1)) (lnS (woN (ahS T L s.1))) 0 s).2.1).1 := by rw [← hW, upR_s]
      have hA12 := hA.tr hA2
      have w91 : W 91 = ur (V 91) cc (woN (ahS T L s.1) : Int) := by rw [wk 91 (by omega), hA12.1 91 (by omega), upR_s]
      have wv : ∀ k : Nat, k ≠ 91 → k ≠ 92 → k ≠ 83 → W k = V k := fun k a b d => by rw [wk k b, hA12.1 k d, upR_n _ a]
      have wj : ∀ j : Int, j ≠ 10 → j ≠ 11 → W 83 j = V 83 j := fun j a b => by rw [wk 83 (by omega), hA12.2 j a b, upR_n _ (by omega)]
      have hX4 : TX W T L (nuS T L (taL T L (woN (ahS T L s.1)) (lnS (woN (ahS T L s.1))) 0 s).2.1).2 := by
        obtain ⟨y1, y2, y3, y4, y5, y6⟩ := hX3
        exact ⟨by rw [wk 83 (by omega)]; exact y1, by rw [wk 89 (by omega)]; exact y2, by rw [wk 83 (by omega)]; exact y3, y4, y5, y6⟩
      have hPW : Px V0 W f := by
        have q := (u91p.tr (hA12.px f)).tr (up_px (V := V9) (k := 92) (f := f) (i := cc) (x := (nuS T L (taL T L (woN (ahS T L s.1)) (lnS (woN (ahS T L s.1))) 0 s).2.1).1) (by omega) (by omega))
        rw [hW] at q
        exact hPx.tr q
      have w20 : W 83 20 = 100 * f + s.2.1 := by rw [wj 20 (by omega) (by omega)]; exact h20
      have w95 : ∀ j, 0 ≤ j ∧ j < s.2.1 → W 95 (100 * f + j) = mapc (s.2.2 j) := by rw [wv 95 (by omega) (by omega) (by omega)]; exact h95
      have hEW : Ea V W f n (100 * f + s.2.1) := by
        refine ⟨fun k a j b => ?_, fun i a => by rw [wv 95 (by omega) (by omega) (by omega)]⟩
        by_cases e1 : k = 91
        · rw [e1, w91, ur_n _ (by omega)]
        · by_cases e2 : k = 92
          · rw [e2, w92, ur_n _ (by omega), hA12.1 92 (by omega), upR_n _ (by omega)]
          · rw [wv k e1 e2 (by omega)]
      have e91 : W 91 (10 * f + n) = (woN (ahS T L s.1) : Int) := by rw [w91, ← hcc, ur_s]
      have e92 : W 92 (10 * f + n) = (nuS T L (taL T L (woN (ahS T L s.1)) (lnS (woN (ahS T L s.1))) 0 s).2.1).1 := by rw [w92, ← hcc, ur_s]
      have hn0 : ¬ (nuS T L (taL T L (woN (ahS T L s.1)) (lnS (woN (ahS T L s.1))) 0 s).2.1).1 < 0 := by omega
      have ln0 : ∃ m, lnS (woN (ahS T L s.1)) = m + 1 := ⟨hdN (woN (ahS T L s.1)), (hd_dec ⟨_, hw4⟩).1⟩
      obtain ⟨lm, hlm⟩ := ln0
      have hah : ahS T L s.1 = byS (woN (ahS T L s.1)) 0 := ta_0 (n := lm) (by rw [← hlm]; exact ht1)
      have hmt2 : (taL T L (woN (ahS T L s.1)) (lnS (woN (ahS T L s.1))) 0 s).2 = ((taL T L (woN (ahS T L s.1)) (lnS (woN (ahS T L s.1))) 0 s).2.1, s.2) := by rw [← hmt]
      have hpos : (nuS T L (taL T L (woN (ahS T L s.1)) (lnS (woN (ahS T L s.1))) 0 s).2.1).2 ≤ 100 := hX3.2.2.2.1.2
      have hok2 : OKs ((nuS T L (taL T L (woN (ahS T L s.1)) (lnS (woN (ahS T L s.1))) 0 s).2.1).2, s.2) := ⟨⟨by show 0 ≤ (nuS T L (taL T L (woN (ahS T L s.1)) (lnS (woN (ahS T L s.1))) 0 s).2.1).2 ∧ (nuS T L (taL T L (woN (ahS T L s.1)) (lnS (woN (ahS T L s.1))) 0 s).2.1).2 ≤ 100; exact hX3.2.2.2.1, hok.1.2⟩, by show s.2.1 ≤ (nuS T L (taL T L (woN (ahS T L s.1)) (lnS (woN (ahS T L s.1))) 0 s).2.1).2; have := hok.2; omega⟩
      refine S_al0 qX7_takesClause_27 ?_
      refine S_getR qX7_takesClause_28 fX7_53 e83_14 ?_
      refine S_il1 qX7_takesClause_31 ?_
      refine S_iald qX7_takesClause_32 a91 (K := ?_)
      rw [w91, ur_s]
      refine S_iconst qX7_takesClause_33 ?_
      refine S_icmp_ge (d := qX7_takesClause_34) (kt := fun c34 => ?_) (kf := fun c34 => ?_)
      · refine S_iconst qX7_takesClause_54 ?_
        refine S_goto qX7_takesClause_55 ?_
        refine S_zret hz qX7_takesClause_59 (by omega) ?_
        have hw : woN (ahS T L s.1) = 2 ∨ woN (ahS T L s.1) = 3 := by omega
        have b2 : byS 2 0 = 119 := by decide
        have b3 : byS 3 0 = 115 := by decide
        rcases hw with hw | hw
        · have a119 : ahS T L s.1 = 119 := by rw [hah, hw]; exact b2
          rw [cl_3 ht1 hn0 a119, hmt]
          exact ⟨_, rfl, Or.inl ⟨rfl, rfl, hX4, w20, w95, hok2, CR_w hf hn hCR hEW (by rw [e91, hw]; rfl) e92 (by omega), hPW⟩⟩
        · have a115 : ahS T L s.1 = 115 := by rw [hah, hw]; exact b3
          rw [cl_4 ht1 hn0 (by omega) a115, hmt]
          exact ⟨_, rfl, Or.inl ⟨rfl, rfl, hX4, w20, w95, hok2, CR_k hf hn hCR hEW (by rw [e91, hw]; rfl) e92 (by omega), hPW⟩⟩
      · refine S_al0 qX7_takesClause_37 ?_
        refine S_bipush (d := qX7_takesClause_38) (k := ?_)
        refine S_V1I hD qX7_takesClause_40 lX7_225 vX7_takes r83 (m_takes hX4 (by omega)) (kk := fun z40 V40 h40 => ?_)
        rcases h40 with ⟨rfl, t40, tp40, hA4, hX5⟩ | ⟨rfl, t40, rfl⟩
        · refine S_if_eq (d := qX7_takesClause_43) (kt := fun c => absurd c (by decide)) (kf := fun _ => ?_)
          have n32 := nx_ah (T := T) (L := L) (p := (nuS T L (taL T L (woN (ahS T L s.1)) (lnS (woN (ahS T L s.1))) 0 s).2.1).2) (c := 32) hX4.2.2.2.2.1.2 (by omega)
          have h32 : ahS T L (nuS T L (taL T L (woN (ahS T L s.1)) (lnS (woN (ahS T L s.1))) 0 s).2.1).2 = 32 := n32.mp t40
          have hw01 : woN (ahS T L s.1) = 0 ∨ woN (ahS T L s.1) = 1 := by omega
          have b0 : byS 0 0 = 108 := by decide
          have b1 : byS 1 0 = 114 := by decide
          have hah2 : (woN (ahS T L s.1) = 0 ∧ ahS T L s.1 = 108) ∨ (woN (ahS T L s.1) = 1 ∧ ahS T L s.1 = 114) := by
            rcases hw01 with q | q
            · left; exact ⟨q, by rw [hah, q]; exact b0⟩
            · right; exact ⟨q, by rw [hah, q]; exact b1⟩
          have g20 : V40 83 20 = 100 * f + (((nuS T L (taL T L (woN (ahS T L s.1)) (lnS (woN (ahS T L s.1))) 0 s).2.1).2 + 1, s.2) : ST).2.1 := by rw [hA4.2 20 (by omega) (by omega)]; exact w20
          have g95 : ∀ j, 0 ≤ j ∧ j < (((nuS T L (taL T L (woN (ahS T L s.1)) (lnS (woN (ahS T L s.1))) 0 s).2.1).2 + 1, s.2) : ST).2.1 → V40 95 (100 * f + j) = mapc ((((nuS T L (taL T L (woN (ahS T L s.1)) (lnS (woN (ahS T L s.1))) 0 s).2.1).2 + 1, s.2) : ST).2.2 j) := by rw [hA4.1 95 (by omega)]; exact w95
          have gok : OKs ((nuS T L (taL T L (woN (ahS T L s.1)) (lnS (woN (ahS T L s.1))) 0 s).2.1).2 + 1, s.2) := ⟨⟨by show 0 ≤ (nuS T L (taL T L (woN (ahS T L s.1)) (lnS (woN (ahS T L s.1))) 0 s).2.1).2 + 1 ∧ (nuS T L (taL T L (woN (ahS T L s.1)) (lnS (woN (ahS T L s.1))) 0 s).2.1).2 + 1 ≤ 100; have := hX4.2.2.2.1; omega, hok.1.2⟩, by show s.2.1 ≤ (nuS T L (taL T L (woN (ahS T L s.1)) (lnS (woN (ahS T L s.1))) 0 s).2.1).2 + 1; have := hok.2; omega⟩
          have hP5 := (hPW.tr (hA4.px f)).tr (up_px (V := V40) (k := 93) (f := f) (i := cc) (x := 100 * f + s.2.1) (by omega) (by omega))
          refine S_al0 qX7_takesClause_46 ?_
          refine S_il1 qX7_takesClause_47 ?_
          refine S_V1I hD qX7_takesClause_48 lX7_259 vX7_takesE r83 (m_takesE (f := f) (s := ((nuS T L (taL T L (woN (ahS T L s.1)) (lnS (woN (ahS T L s.1))) 0 s).2.1).2 + 1, s.2)) (by omega) hX5 g20 g95 gok hf) (kk := fun z48 V48 h48 => ?_)
          rcases h48 with ⟨rfl, t48, hT8, hP8, h94⟩ | ⟨rfl, t48, h10, hP8⟩
          · refine S_if_eq (d := qX7_takesClause_51) (kt := fun c => absurd c (by decide)) (kf := fun _ => ?_)
            refine S_iconst qX7_takesClause_54 ?_
            refine S_goto qX7_takesClause_55 ?_
            refine S_zret hz qX7_takesClause_59 (by omega) ?_
            have hg := gd_co (T := T) (L := L) _ gok
            have hri := co_inv (T := T) (L := L) _ gok.1
            rw [cl_7 ht1 hn0 (by omega) (by omega) h32 (by rw [hmt]; exact t48), hmt]
            generalize hy : coS T L ((nuS T L (taL T L (woN (ahS T L s.1)) (lnS (woN (ahS T L s.1))) 0 s).2.1).2 + 1, s.2) = y at hg hri t48 hT8 hP8 h94 ⊢
            obtain ⟨⟨p1, p2, p3⟩, q1, q2⟩ := hg
            replace p1 : (nuS T L (taL T L (woN (ahS T L s.1)) (lnS (woN (ahS T L s.1))) 0 s).2.1).2 + 1 ≤ y.2.1 := p1
            replace p2 : s.2.1 ≤ y.2.2.1 := p2
            replace p3 : y.2.2.1 - s.2.1 ≤ y.2.1 - ((nuS T L (taL T L (woN (ahS T L s.1)) (lnS (woN (ahS T L s.1))) 0 s).2.1).2 + 1) := p3
            have q3 := q2 t48
            have x91 : V48 91 = W 91 := by rw [hP8.1 91 (by omega) (by omega) (by omega) (by omega), upR_n _ (by omega), hA4.1 91 (by omega)]
            have x92 : V48 92 = W 92 := by rw [hP8.1 92 (by omega) (by omega) (by omega) (by omega), upR_n _ (by omega), hA4.1 92 (by omega)]
            have x93 : V48 93 = ur (V 93) cc (100 * f + s.2.1) := by rw [hP8.1 93 (by omega) (by omega) (by omega) (by omega), upR_s, hA4.1 93 (by omega), wv 93 (by omega) (by omega) (by omega)]
            have x94 : ∀ i, i ≠ cc → V48 94 i = V 94 i := fun i a => by rw [hP8.2.2.2 i a, upR_n _ (by omega), hA4.1 94 (by omega), wv 94 (by omega) (by omega) (by omega)]
            have x95 : ∀ i, i < 100 * f + s.2.1 → V48 95 i = V 95 i := fun i a => by rw [hP8.2.2.1 i a, upR_n _ (by omega), hA4.1 95 (by omega), wv 95 (by omega) (by omega) (by omega)]
            have hE8 : Ea V V48 f n (100 * f + s.2.1) := by
              refine ⟨fun k a j b => ?_, fun i a => x95 i a.2⟩
              by_cases e1 : k = 91
              · rw [e1, x91]; exact hEW.1 91 (by omega) j b
              · by_cases e2 : k = 92
                · rw [e2, x92]; exact hEW.1 92 (by omega) j b
                · by_cases e3 : k = 93
                  · rw [e3, x93, ur_n _ (by omega)]
                  · rw [show k = 94 by omega]; exact x94 j (by omega)
            obtain ⟨t1, t2, t3, -, -, -, t7, -, -⟩ := hT8
            replace t7 : y.2.2.1 + 0 ≤ y.2.1 ∧ 0 ≤ y.2.2.1 ∧ y.2.1 ≤ 100 := t7
            have hGd : Gd 0 s (true, y.2) := ⟨⟨by show s.1 ≤ y.2.1; omega, p2, by show y.2.2.1 - s.2.1 ≤ y.2.1 - s.1; omega⟩, q1, fun _ => ⟨by show s.1 < y.2.1; omega, q3.2⟩⟩
            have hC := CR_s (w := (woN (ahS T L s.1) : Int)) (k := (nuS T L (taL T L (woN (ahS T L s.1)) (lnS (woN (ahS T L s.1))) 0 s).2.1).1) (s' := y.2) hf hn hCR hE8 (by rw [x91]; exact e91) (by omega) (by rw [x92]; exact e92) (by omega) (by rw [x93, ← hcc, ur_s]) (by rw [← hcc]; exact h94) t3 hGd hri hok.1.2.1.1
            have ei : (if (woN (ahS T L s.1) : Int) = 0 then (nuS T L (taL T L (woN (ahS T L s.1)) (lnS (woN (ahS T L s.1))) 0 s).2.1).1 else -(nuS T L (taL T L (woN (ahS T L s.1)) (lnS (woN (ahS T L s.1))) 0 s).2.1).1) = (if ahS T L s.1 = 108 then (nuS T L (taL T L (woN (ahS T L s.1)) (lnS (woN (ahS T L s.1))) 0 s).2.1).1 else -(nuS T L (taL T L (woN (ahS T L s.1)) (lnS (woN (ahS T L s.1))) 0 s).2.1).1) := by
              rcases hah2 with ⟨q, r⟩ | ⟨q, r⟩
              · rw [if_pos (by omega), if_pos r]
              · rw [if_neg (by omega), if_neg (by omega)]
            rw [ei] at hC
            have hok8 : OKs y.2 := ⟨hri, by omega⟩
            exact ⟨_, rfl, Or.inl ⟨rfl, rfl, t1, t2, t3, hok8, hC, hP5.tr (hP8.px (by omega) (by show 100 * f ≤ 100 * f + s.2.1; have := hok.1.2.1.1; omega))⟩⟩
          · refine S_if_eq (d := qX7_takesClause_51) (kt := fun _ => ?_) (kf := fun c => absurd c (by decide))
            refine S_iconst qX7_takesClause_58 ?_
            refine S_zret hz qX7_takesClause_59 (by omega) ?_
            rw [cl_6 ht1 hn0 (by omega) (by omega) h32 (by rw [hmt, t48]; decide), hmt]
            exact ⟨_, rfl, Or.inr ⟨rfl, rfl, h10, hP5.tr (hP8.px (by omega) (by show 100 * f ≤ 100 * f + s.2.1; have := hok.1.2.1.1; omega))⟩⟩
        · refine S_if_eq (d := qX7_takesClause_43) (kt := fun _ => ?_) (kf := fun c => absurd c (by decide))
          refine S_iconst qX7_takesClause_58 ?_
          refine S_zret hz qX7_takesClause_59 (by omega) ?_
          have n32 := nx_ah (T := T) (L := L) (p := (nuS T L (taL T L (woN (ahS T L s.1)) (lnS (woN (ahS T L s.1))) 0 s).2.1).2) (c := 32) hX4.2.2.2.2.1.2 (by omega)
          have hw01 : woN (ahS T L s.1) = 0 ∨ woN (ahS T L s.1) = 1 := by omega
          have b0 : byS 0 0 = 108 := by decide
          have b1 : byS 1 0 = 114 := by decide
          have hah2 : ahS T L s.1 = 108 ∨ ahS T L s.1 = 114 := by
            rcases hw01 with q | q
            · left; rw [hah, q]; exact b0
            · right; rw [hah, q]; exact b1
          rw [cl_5 ht1 hn0 (by omega) (by omega) (fun q => t40 (n32.mpr q))]
          exact ⟨_, rfl, Or.inr ⟨rfl, rfl, hX4.2.2.1, hPW⟩⟩
    · refine S_if_ne (d := qX7_takesClause_12) (kt := fun c => absurd c (by decide)) (kf := fun _ => ?_)
      refine S_iconst qX7_takesClause_15 ?_
      refine S_zret hz qX7_takesClause_16 (by omega) ?_
      rw [cl_2 ht1 tn]
      exact ⟨_, rfl, Or.inr ⟨rfl, rfl, by rw [hX2.2.2.1]; exact tnb.symm, hPx.tr (u91p.tr (hA.px f))⟩⟩
