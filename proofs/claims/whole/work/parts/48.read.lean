def er (s t : ST) : Prop := s.1 = t.1 ∧ s.2.1 = t.2.1 ∧ ∀ i, 0 ≤ i ∧ i < s.2.1 → s.2.2 i = t.2.2 i
def e2 (x y : Bool × ST) : Prop := x.1 = y.1 ∧ er x.2 y.2
theorem er_mv {s t : ST} (h : er s t) (p : Int) : er (p, s.2) (p, t.2) := ⟨rfl, h.2⟩
theorem er_ad {s t : ST} (h : er s t) (c : Int) : er (addS c s) (addS c t) := by
  obtain ⟨h1, h2, h3⟩ := h
  unfold addS
  by_cases c1 : s.2.1 < 100
  · rw [if_pos c1, if_pos (by omega)]
    refine ⟨h1, by show s.2.1 + 1 = t.2.1 + 1; omega, fun i hi => ?_⟩
    show ur s.2.2 s.2.1 c i = ur t.2.2 t.2.1 c i
    replace hi : 0 ≤ i ∧ i < s.2.1 + 1 := hi
    rw [← h2]
    by_cases e : i = s.2.1
    · rw [e, ur_s, ur_s]
    · rw [ur_n _ e, ur_n _ e]
      exact h3 i (by omega)
  · rw [if_neg c1, if_neg (by omega)]
    exact ⟨h1, h2, h3⟩
theorem e2_f {s t : ST} (h : er s t) (b : Bool) : e2 (b, s) (b, t) := ⟨rfl, h⟩
section EQ
variable {T : Int → Int} {L : Int}
theorem er_ts {s t : ST} (h : er s t) : e2 (tsS T L s) (tsS T L t) := by
  unfold tsS
  rw [← h.1]
  by_cases a1 : liS 4 T L s.1 < 0
  · rw [if_pos a1, if_pos a1]; exact e2_f h _
  · rw [if_neg a1, if_neg a1]
    by_cases a2 : liS 5 T L (s.1 + 1) < 0
    · rw [if_pos a2, if_pos a2]; exact e2_f (er_mv h _) _
    · rw [if_neg a2, if_neg a2]
      by_cases a3 : (nuS T L (s.1 + 1 + 1)).1 < 0
      · rw [if_pos a3, if_pos a3]; exact e2_f (er_mv h _) _
      · rw [if_neg a3, if_neg a3]; exact e2_f (er_ad (er_mv h _) _) _
theorem er_lp {one : ST → Bool × ST} {c o : Int} (ho : ∀ s t, er s t → e2 (one s) (one t)) : ∀ (n : Nat) (s t : ST), er s t → e2 (lpS T L one c o n s) (lpS T L one c o n t) := by
  intro n
  induction n with
  | zero => intro s t h; exact e2_f h _
  | succ n ih =>
    intro s t h
    unfold lpS
    rw [← h.1]
    by_cases a1 : ahS T L s.1 = c
    · rw [if_pos a1, if_pos a1]
      have h1 := ho _ _ (er_mv h (s.1 + 1))
      rw [← h1.1]
      by_cases a2 : (one (s.1 + 1, s.2)).1 = true
      · rw [if_pos a2, if_pos a2]
        exact ih _ _ (er_ad h1.2 _)
      · rw [if_neg a2, if_neg a2]
        exact e2_f h1.2 _
    · rw [if_neg a1, if_neg a1]
      exact e2_f h _
theorem er_se {one : ST → Bool × ST} {c o : Int} (ho : ∀ s t, er s t → e2 (one s) (one t)) (s t : ST) (h : er s t) : e2 (seS T L one c o s) (seS T L one c o t) := by
  unfold seS
  have h1 := ho _ _ h
  rw [← h1.1]
  by_cases a2 : (one s).1 = true
  · rw [if_pos a2, if_pos a2]
    exact er_lp ho _ _ _ h1.2
  · rw [if_neg a2, if_neg a2]
    exact e2_f h1.2 _
theorem er_any {one : ST → Bool × ST} (ho : ∀ s t, er s t → e2 (one s) (one t)) (s t : ST) (h : er s t) : e2 (anyS T L one s) (anyS T L one t) := er_se (er_se ho) s t h
theorem er_br {x y : Bool × ST} (h : e2 x y) : e2 (brS T L x) (brS T L y) := by
  unfold brS
  rw [← h.1, ← h.2.1]
  by_cases a1 : x.1 = true
  · rw [if_pos a1, if_pos a1]
    by_cases a2 : ahS T L x.2.1 = 41
    · rw [if_pos a2, if_pos a2]; exact e2_f (er_mv h.2 _) _
    · rw [if_neg a2, if_neg a2]; exact e2_f h.2 _
  · rw [if_neg a1, if_neg a1]; exact e2_f h.2 _
theorem er_no {x y : Bool × ST} (h : e2 x y) : e2 (noS x) (noS y) := by
  unfold noS
  rw [← h.1]
  by_cases a1 : x.1 = true
  · rw [if_pos a1, if_pos a1]; exact e2_f (er_ad h.2 _) _
  · rw [if_neg a1, if_neg a1]; exact e2_f h.2 _
theorem er_one : ∀ (r : Nat) (s t : ST), er s t → e2 (oneS T L r s) (oneS T L r t) := by
  intro r
  induction r with
  | zero =>
    intro s t h
    unfold oneS
    rw [← h.1]
    by_cases a1 : ahS T L s.1 = 33 ∨ ahS T L s.1 = 40
    · rw [if_pos a1, if_pos a1]; exact e2_f h _
    · rw [if_neg a1, if_neg a1]; exact er_ts h
  | succ r ih =>
    intro s t h
    unfold oneS
    rw [← h.1]
    by_cases a1 : ahS T L s.1 = 40
    · rw [if_pos a1, if_pos a1]; exact er_br (er_any ih _ _ (er_mv h _))
    · rw [if_neg a1, if_neg a1]
      by_cases a2 : ahS T L s.1 = 33
      · rw [if_pos a2, if_pos a2]; exact er_no (ih _ _ (er_mv h _))
      · rw [if_neg a2, if_neg a2]; exact er_ts h
theorem er_co (s t : ST) (h : er s t) : e2 (coS T L s) (coS T L t) := er_any (er_one 4) s t h
theorem er_ta {i : Nat} : ∀ (n : Nat) (j : Int) (s t : ST), er s t → e2 (taL T L i n j s) (taL T L i n j t) := by
  intro n
  induction n with
  | zero => intro j s t h; exact e2_f h _
  | succ n ih =>
    intro j s t h
    unfold taL
    rw [← h.1]
    by_cases a1 : ahS T L s.1 = byS i j
    · rw [if_pos a1, if_pos a1]; exact ih _ _ _ (er_mv h _)
    · rw [if_neg a1, if_neg a1]; exact e2_f h _
def ec (c d : CT) : Prop := c.1 = d.1 ∧ c.2.1 = d.2.1 ∧ c.2.2.1 = d.2.2.1 ∧ ∀ i, 0 ≤ i ∧ i < c.2.2.1 → c.2.2.2.1 i = d.2.2.2.1 i ∧ c.2.2.2.2 i = d.2.2.2.2 i
def e3 (x y : Bool × CT × ST) : Prop := x.1 = y.1 ∧ ec x.2.1 y.2.1 ∧ er x.2.2 y.2.2
theorem ec_stp {c d : CT} (h : ec c d) (cc a : Int) : ec (stp c cc a) (stp d cc a) := by
  obtain ⟨h1, h2, h3, h4⟩ := h
  refine ⟨h1, h2, by show c.2.2.1 + 1 = d.2.2.1 + 1; omega, fun i hi => ?_⟩
  replace hi : 0 ≤ i ∧ i < c.2.2.1 + 1 := hi
  show ur c.2.2.2.1 c.2.2.1 a i = ur d.2.2.2.1 d.2.2.1 a i ∧ ur c.2.2.2.2 c.2.2.1 cc i = ur d.2.2.2.2 d.2.2.1 cc i
  rw [← h3]
  by_cases e : i = c.2.2.1
  · rw [e, ur_s, ur_s, ur_s, ur_s]; exact ⟨rfl, rfl⟩
  · rw [ur_n _ e, ur_n _ e, ur_n _ e, ur_n _ e]
    exact h4 i (by omega)
theorem e3_cl {c d : CT} {s t : ST} (hc : ec c d) (h : er s t) : e3 (clS T L c s) (clS T L d t) := by
  unfold clS
  rw [← h.1]
  have h1 := er_ta (T := T) (L := L) (i := woN (ahS T L s.1)) (lnS (woN (ahS T L s.1))) 0 s t h
  generalize ahS T L s.1 = f at h1 ⊢
  generalize taL T L (woN f) (lnS (woN f)) 0 s = x at h1 ⊢
  generalize taL T L (woN f) (lnS (woN f)) 0 t = y at h1 ⊢
  unfold clB
  rw [← h1.1, ← h1.2.1]
  by_cases a1 : x.1 = true
  · rw [if_pos a1, if_pos a1]
    by_cases a2 : (nuS T L x.2.1).1 < 0
    · rw [if_pos a2, if_pos a2]; exact ⟨rfl, hc, er_mv h1.2 _⟩
    · rw [if_neg a2, if_neg a2]
      unfold cl2
      by_cases a3 : f = 119
      · rw [if_pos a3, if_pos a3]; exact ⟨rfl, ⟨rfl, hc.2⟩, er_mv h1.2 _⟩
      · rw [if_neg a3, if_neg a3]
        by_cases a4 : f = 115
        · rw [if_pos a4, if_pos a4]; exact ⟨rfl, ⟨hc.1, rfl, hc.2.2⟩, er_mv h1.2 _⟩
        · rw [if_neg a4, if_neg a4]
          show e3 (if ahS T L (nuS T L x.2.1).2 = 32 then _ else _) (if ahS T L (nuS T L x.2.1).2 = 32 then _ else _)
          by_cases a5 : ahS T L (nuS T L x.2.1).2 = 32
          · rw [if_pos a5, if_pos a5]
            have h5 := er_co (T := T) (L := L) _ _ (er_mv (er_mv h1.2 (nuS T L x.2.1).2) ((nuS T L x.2.1).2 + 1))
            unfold cl3
            show e3 (if (coS T L ((nuS T L x.2.1).2 + 1, x.2.2)).1 = true then _ else _) (if (coS T L ((nuS T L x.2.1).2 + 1, y.2.2)).1 = true then _ else _)
            rw [← h5.1]
            by_cases a6 : (coS T L ((nuS T L x.2.1).2 + 1, x.2.2)).1 = true
            · rw [if_pos a6, if_pos a6, ← h5.2.2.1]; exact ⟨rfl, ec_stp hc _ _, h5.2⟩
            · rw [if_neg a6, if_neg a6]; exact ⟨rfl, hc, h5.2⟩
          · rw [if_neg a5, if_neg a5]; exact ⟨rfl, hc, er_mv h1.2 _⟩
  · rw [if_neg a1, if_neg a1]; exact ⟨rfl, hc, h1.2⟩
theorem e3_clL : ∀ (n : Nat) (c d : CT) (s t : ST), ec c d → er s t → e3 (clL T L n c s) (clL T L n d t) := by
  intro n
  induction n with
  | zero => intro c d s t hc h; exact ⟨rfl, hc, h⟩
  | succ n ih =>
    intro c d s t hc h
    unfold clL
    rw [← h.1]
    by_cases a1 : ahS T L s.1 = 59
    · rw [if_pos a1, if_pos a1]
      have h1 := e3_cl (T := T) (L := L) hc (er_mv h (s.1 + 1))
      rw [← h1.1]
      by_cases a2 : (clS T L c (s.1 + 1, s.2)).1 = true
      · rw [if_pos a2, if_pos a2]; exact ih _ _ _ _ h1.2.1 h1.2.2
      · rw [if_neg a2, if_neg a2]; exact h1
    · rw [if_neg a1, if_neg a1]; exact ⟨rfl, hc, h⟩
theorem e3_in {c d : CT} {s t : ST} (hc : ec c d) (h : er s t) : e3 (inS T L c s) (inS T L d t) := by
  have h1 := e3_cl (T := T) (L := L) hc h
  unfold inS inB
  rw [← h1.1]
  by_cases a1 : (clS T L c s).1 = true
  · rw [if_pos a1, if_pos a1]
    have h2 := e3_clL (T := T) (L := L) 9 _ _ _ _ h1.2.1 h1.2.2
    unfold fiE
    rw [← h2.1, ← h2.2.2.1]
    by_cases a2 : (clL T L 9 (clS T L c s).2.1 (clS T L c s).2.2).1 = true
    · rw [if_pos a2, if_pos a2]; exact ⟨rfl, h2.2⟩
    · rw [if_neg a2, if_neg a2]; exact h2
  · rw [if_neg a1, if_neg a1]; exact h1
/-! the codes grow -/
theorem mo_ad (c : Int) (s : ST) : s.2.1 ≤ (addS c s).2.1 := by
  unfold addS
  split
  · show s.2.1 ≤ s.2.1 + 1; omega
  · exact Int.le_refl _
theorem mo_ts (s : ST) : s.2.1 ≤ (tsS T L s).2.2.1 := by
  unfold tsS
  split
  · exact Int.le_refl _
  · split
    · exact Int.le_refl _
    · split
      · exact Int.le_refl _
      · exact mo_ad _ _
theorem mo_lp {one : ST → Bool × ST} {c o : Int} (ho : ∀ s, s.2.1 ≤ (one s).2.2.1) : ∀ (n : Nat) (s : ST), s.2.1 ≤ (lpS T L one c o n s).2.2.1 := by
  intro n
  induction n with
  | zero => intro s; exact Int.le_refl _
  | succ n ih =>
    intro s
    unfold lpS
    have h1 := ho (s.1 + 1, s.2)
    split
    · split
      · exact Int.le_trans h1 (Int.le_trans (mo_ad o _) (ih _))
      · exact h1
    · exact Int.le_refl _
theorem mo_se {one : ST → Bool × ST} {c o : Int} (ho : ∀ s, s.2.1 ≤ (one s).2.2.1) (s : ST) : s.2.1 ≤ (seS T L one c o s).2.2.1 := by
  unfold seS
  split
  · exact Int.le_trans (ho s) (mo_lp ho _ _)
  · exact ho s
theorem mo_one : ∀ (r : Nat) (s : ST), s.2.1 ≤ (oneS T L r s).2.2.1 := by
  intro r
  induction r with
  | zero =>
    intro s
    unfold oneS
    split
    · exact Int.le_refl _
    · exact mo_ts s
  | succ r ih =>
    intro s
    unfold oneS
    split
    · unfold brS
      have h1 : s.2.1 ≤ (anyS T L (oneS T L r) (s.1 + 1, s.2)).2.2.1 := mo_se (mo_se ih) _
      split
      · split
        · exact h1
        · exact h1
      · exact h1
    · split
      · unfold noS
        have h1 : s.2.1 ≤ _ := ih (s.1 + 1, s.2)
        split
        · exact Int.le_trans h1 (mo_ad _ _)
        · exact h1
      · exact mo_ts s
theorem mo_co (s : ST) : s.2.1 ≤ (coS T L s).2.2.1 := mo_se (mo_se (mo_one 4)) s
theorem mo_ta {i : Nat} : ∀ (n : Nat) (j : Int) (s : ST), (taL T L i n j s).2.2 = s.2 := by
  intro n
  induction n with
  | zero => intro j s; rfl
  | succ n ih =>
    intro j s
    unfold taL
    split
    · rw [ih]
    · rfl
def CInv (c : CT) (s : ST) : Prop := (1 ≤ c.1 ∧ c.1 ≤ 99) ∧ (0 ≤ c.2.1 ∧ c.2.1 ≤ 99) ∧ 0 ≤ c.2.2.1 ∧ ∀ i, 0 ≤ i ∧ i < c.2.2.1 → (-99 ≤ c.2.2.2.1 i ∧ c.2.2.2.1 i ≤ 99) ∧ (0 ≤ c.2.2.2.2 i ∧ c.2.2.2.2 i ≤ s.2.1)
theorem CInv.up {c : CT} {s t : ST} (h : CInv c s) (h2 : s.2.1 ≤ t.2.1) : CInv c t := by
  obtain ⟨a, b, d, e⟩ := h
  exact ⟨a, b, d, fun i hi => by have := e i hi; omega⟩
theorem ci_cl {c : CT} {s : ST} (hs : RInv s) (h : CInv c s) : CInv (clS T L c s).2.1 (clS T L c s).2.2 := by
  unfold clS
  have h1 := mo_ta (T := T) (L := L) (i := woN (ahS T L s.1)) (lnS (woN (ahS T L s.1))) 0 s
  generalize ahS T L s.1 = f at h1 ⊢
  generalize taL T L (woN f) (lnS (woN f)) 0 s = x at h1 ⊢
  have hx : CInv c x.2 := h.up (by rw [h1]; exact Int.le_refl _)
  have hc0 : 0 ≤ x.2.2.1 := by rw [h1]; exact hs.2.1.1
  have nr := nu_rg T L x.2.1
  unfold clB
  split
  · split
    · exact hx
    · rename_i a1 a2
      unfold cl2
      obtain ⟨b1, b2, b3, b4⟩ := hx
      split
      · refine ⟨?_, b2, b3, b4⟩
        show 1 ≤ (if (nuS T L x.2.1).1 < 1 then 1 else (nuS T L x.2.1).1) ∧ (if (nuS T L x.2.1).1 < 1 then 1 else (nuS T L x.2.1).1) ≤ 99
        split <;> omega
      · split
        · refine ⟨b1, ?_, b3, b4⟩
          show 0 ≤ (nuS T L x.2.1).1 ∧ (nuS T L x.2.1).1 ≤ 99
          omega
        · split
          · unfold cl3
            have h5 := mo_co (T := T) (L := L) ((nuS T L x.2.1).2 + 1, x.2.2)
            replace h5 : x.2.2.1 ≤ (coS T L ((nuS T L x.2.1).2 + 1, x.2.2)).2.2.1 := h5
            show CInv (if (coS T L ((nuS T L x.2.1).2 + 1, x.2.2)).1 = true then (true, _, _) else _).2.1 _
            split
            · refine ⟨b1, b2, ?_, fun i hi => ?_⟩
              · show 0 ≤ c.2.2.1 + 1; omega
              · replace hi : 0 ≤ i ∧ i < c.2.2.1 + 1 := hi
                show (-99 ≤ ur c.2.2.2.1 c.2.2.1 (if f = 108 then (nuS T L x.2.1).1 else -(nuS T L x.2.1).1) i ∧ ur c.2.2.2.1 c.2.2.1 (if f = 108 then (nuS T L x.2.1).1 else -(nuS T L x.2.1).1) i ≤ 99) ∧ (0 ≤ ur c.2.2.2.2 c.2.2.1 (coS T L ((nuS T L x.2.1).2 + 1, x.2.2)).2.2.1 i ∧ ur c.2.2.2.2 c.2.2.1 (coS T L ((nuS T L x.2.1).2 + 1, x.2.2)).2.2.1 i ≤ (coS T L ((nuS T L x.2.1).2 + 1, x.2.2)).2.2.1)
                by_cases e : i = c.2.2.1
                · rw [e, ur_s, ur_s]
                  split <;> omega
                · rw [ur_n _ e, ur_n _ e]
                  have := b4 i (by omega)
                  omega
            · exact CInv.up ⟨b1, b2, b3, b4⟩ h5
          · exact ⟨b1, b2, b3, b4⟩
  · exact hx
theorem ci_clL : ∀ (n : Nat) (c : CT) (s : ST), RInv s → CInv c s → CInv (clL T L n c s).2.1 (clL T L n c s).2.2 ∧ RInv (clL T L n c s).2.2 ∧ (clL T L n c s).2.1.2.2.1 ≤ c.2.2.1 + n := by
  intro n
  induction n with
  | zero => intro c s hs h; exact ⟨h, hs, by show c.2.2.1 ≤ c.2.2.1 + (0 : Nat); omega⟩
  | succ n ih =>
    intro c s hs h
    unfold clL
    by_cases a1 : ahS T L s.1 = 59
    · rw [if_pos a1]
      have h0 := hs.nx a1 (by omega)
      have h1 := ci_cl (T := T) (L := L) (c := c) h0 (h.up (Int.le_refl _))
      have h2 := cl_inv (T := T) (L := L) (c := c) h0
      by_cases a2 : (clS T L c (s.1 + 1, s.2)).1 = true
      · rw [if_pos a2]
        have h3 := ih _ _ h2.1 h1
        refine ⟨h3.1, h3.2.1, ?_⟩
        omega
      · rw [if_neg a2]
        exact ⟨h1, h2.1, by omega⟩
    · rw [if_neg a1]
      exact ⟨h, hs, by show c.2.2.1 ≤ c.2.2.1 + ((n + 1 : Nat) : Int); omega⟩
theorem ci_in {c : CT} {s : ST} (hs : RInv s) (h : CInv c s) : CInv (inS T L c s).2.1 (inS T L c s).2.2 ∧ RInv (inS T L c s).2.2 ∧ (inS T L c s).2.1.2.2.1 ≤ c.2.2.1 + 10 := by
  have h1 := ci_cl (T := T) (L := L) (c := c) hs h
  have h2 := cl_inv (T := T) (L := L) (c := c) hs
  unfold inS inB
  by_cases a1 : (clS T L c s).1 = true
  · rw [if_pos a1]
    have h3 := ci_clL (T := T) (L := L) 9 _ _ h2.1 h1
    unfold fiE
    split
    · exact ⟨h3.1, h3.2.1, by show (clL T L 9 (clS T L c s).2.1 (clS T L c s).2.2).2.1.2.2.1 ≤ _; omega⟩
    · exact ⟨h3.1, h3.2.1, by omega⟩
  · rw [if_neg a1]
    exact ⟨h1, h2.1, by omega⟩
end EQ
/-- a hall, read into empty rows -/
def hpS (T : Int → Int) (L : Int) : Bool × CT × ST := inS T L (24, 0, 0, fun _ => 0, fun _ => 0) (0, 0, fun _ => 0)
def hsP (y : Bool × CT × ST) : HS := (y.2.1.1, y.2.1.2.1, fun s d => stC y.2.1.2.2.2.1 y.2.1.2.2.2.2 y.2.2.2.2 s d y.2.1.2.2.1.toNat 0 0 0)
theorem evC_cong {co co' : Int → Int} {N : Int} (h : ∀ i, 0 ≤ i ∧ i < N → co i = co' i) (s : FS) (d : Int) : ∀ (n : Nat) (i : Int) (x : Int64), 0 ≤ i → i + n ≤ N → evC co s d n i x = evC co' s d n i x := by
  intro n
  induction n with
  | zero => intro i x h0 h1; rfl
  | succ n ih =>
    intro i x h0 h1
    unfold evC
    rw [h i (by omega)]
    exact ih _ _ (by omega) (by omega)
theorem holC_cong {co co' : Int → Int} {N : Int} (h : ∀ i, 0 ≤ i ∧ i < N → co i = co' i) (s : FS) (d : Int) {fr to : Int} (hf : 0 ≤ fr) (ht : to ≤ N) : holC co s d fr to = holC co' s d fr to := by
  unfold holC
  by_cases e : fr ≤ to
  · rw [evC_cong h s d _ _ _ hf (by omega)]
  · rw [show (to - fr).toNat = 0 by omega]
    rfl
theorem stC_cong {am am' en en' co co' : Int → Int} {N M : Int} (hc : ∀ i, 0 ≤ i ∧ i < N → co i = co' i) (ha : ∀ i, 0 ≤ i ∧ i < M → am i = am' i ∧ en i = en' i) (he : ∀ i, 0 ≤ i ∧ i < M → 0 ≤ en i ∧ en i ≤ N) (s : FS) (d : Int) : ∀ (n : Nat) (i fr sum : Int), 0 ≤ i → i + n ≤ M → 0 ≤ fr → stC am en co s d n i fr sum = stC am' en' co' s d n i fr sum := by
  intro n
  induction n with
  | zero => intro i fr sum h0 h1 h2; rfl
  | succ n ih =>
    intro i fr sum h0 h1 h2
    unfold stC
    have h3 := ha i (by omega)
    have h4 := he i (by omega)
    rw [← h3.1, ← h3.2, holC_cong hc s d h2 h4.2]
    exact ih _ _ _ (by omega) (by omega) h4.1
theorem hsP_cong {y z : Bool × CT × ST} (h : e3 y z) (hc : CInv y.2.1 y.2.2) : hsP y = hsP z := by
  obtain ⟨h1, ⟨c1, c2, c3, c4⟩, ⟨s1, s2, s3⟩⟩ := h
  obtain ⟨a, b, e, f⟩ := hc
  unfold hsP
  rw [c1, c2, ← c3]
  refine congrArg (fun q => (z.2.1.1, z.2.1.2.1, q)) ?_
  funext s d
  exact stC_cong s3 c4 (fun i hi => (f i hi).2) s d _ _ _ _ (by omega) (by omega) (by omega)
