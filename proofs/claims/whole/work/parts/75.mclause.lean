def CR (V : MM) (f : Int) (n : Nat) (c : CT) (s : ST) : Prop := c.1 = (if lasM V 2 n (10 * f) 24 < 1 then 1 else lasM V 2 n (10 * f) 24) ∧ c.2.1 = lasM V 3 n (10 * f) 0 ∧ (∀ j, 10 * f ≤ j ∧ j < 10 * f + n → ClOK V j ∧ (V 91 j ≤ 1 → V 94 j ≤ 100 * f + s.2.1)) ∧ (∀ fs d, sumM V fs d n (10 * f) 0 = stC c.2.2.2.1 c.2.2.2.2 s.2.2 fs d c.2.2.1.toNat 0 0 0) ∧ frS2 c.2.2.2.2 c.2.2.1.toNat 0 0 = s.2.1 ∧ CInv c s
/-- earlier clauses are as they were -/
def Ea (V V' : MM) (f : Int) (n : Nat) (g0 : Int) : Prop := (∀ k : Nat, 91 ≤ k ∧ k ≤ 94 → ∀ j, 10 * f ≤ j ∧ j < 10 * f + n → V' k j = V k j) ∧ ∀ i : Int, 100 * f ≤ i ∧ i < g0 → V' 95 i = V 95 i
theorem ea_hld {V V' : MM} {f : Int} {n : Nat} {c : CT} {s : ST} (hf : 0 ≤ f ∧ f ≤ 5) (hn : n ≤ 10) (h : CR V f n c s) (e : Ea V V' f n (100 * f + s.2.1)) (j : Int) (hj : 10 * f ≤ j ∧ j < 10 * f + n) (q : V 91 j ≤ 1) : ∀ i, V 93 j ≤ i ∧ i < V 94 j → V' 95 i = V 95 i := fun i hi => by
  obtain ⟨⟨-, -, -, x⟩, y⟩ := h.2.2.1 j hj
  have h1 := x q
  have h2 := y q
  have hq : j / 10 = f ∨ (n = 10 ∧ j / 10 = f) := by omega
  exact e.2 i (by omega)
theorem CR_las {V V' : MM} {f : Int} {n : Nat} {g0 : Int} (e : Ea V V' f n g0) (w a : Int) : lasM V' w n (10 * f) a = lasM V w n (10 * f) a :=
  las_c (e := 10 * f + n) n (10 * f) a rfl (fun j hj => ⟨e.1 91 (by omega) j hj, e.1 92 (by omega) j hj⟩)
theorem CR_sum {V V' : MM} {f : Int} {n : Nat} {c : CT} {s : ST} (hf : 0 ≤ f ∧ f ≤ 5) (hn : n ≤ 10) (h : CR V f n c s) (e : Ea V V' f n (100 * f + s.2.1)) (fs : FS) (d : Int) : sumM V' fs d n (10 * f) 0 = sumM V fs d n (10 * f) 0 :=
  sum_c (e := 10 * f + n) n (10 * f) 0 rfl (fun j hj => ⟨e.1 91 (by omega) j hj, e.1 92 (by omega) j hj, fun q => hld_c (e.1 93 (by omega) j hj) (e.1 94 (by omega) j hj) (ea_hld hf hn h e j hj q) fs d⟩)
theorem CR_cl {V V' : MM} {f : Int} {n : Nat} {c : CT} {s : ST} (hf : 0 ≤ f ∧ f ≤ 5) (hn : n ≤ 10) (h : CR V f n c s) (e : Ea V V' f n (100 * f + s.2.1)) (j : Int) (hj : 10 * f ≤ j ∧ j < 10 * f + n) : ClOK V' j ∧ (V' 91 j ≤ 1 → V' 94 j ≤ 100 * f + s.2.1) := by
  obtain ⟨a, b⟩ := h.2.2.1 j hj
  refine ⟨clok_c a (e.1 91 (by omega) j hj) (e.1 92 (by omega) j hj) (e.1 93 (by omega) j hj) (e.1 94 (by omega) j hj) (fun q => ea_hld hf hn h e j hj q), ?_⟩
  rw [e.1 91 (by omega) j hj, e.1 94 (by omega) j hj]
  exact b
/-- one clause more, of the width or of skipping -/
theorem CR_w {V V' : MM} {f k p : Int} {n : Nat} {c : CT} {s : ST} (hf : 0 ≤ f ∧ f ≤ 5) (hn : n < 10) (h : CR V f n c s) (e : Ea V V' f n (100 * f + s.2.1)) (h1 : V' 91 (10 * f + n) = 2) (h2 : V' 92 (10 * f + n) = k) (hk : 0 ≤ k ∧ k ≤ 99) : CR V' f (n + 1) ((if k < 1 then 1 else k), c.2) (p, s.2) := by
  have hl := h.2.2.2.2.2
  obtain ⟨c1, c2, c3, c4⟩ := hl
  have el : lasM V' 3 (n + 1) (10 * f) 0 = lasM V 3 n (10 * f) 0 := by rw [las_last, if_neg (by omega), CR_las e]
  have em : lasM V' 2 (n + 1) (10 * f) 24 = k := by rw [las_last, if_pos h1, h2]
  refine ⟨?_, ?_, fun j hj => ?_, fun fs d => ?_, h.2.2.2.2.1, ⟨?_, c2, c3, c4⟩⟩
  · rw [em]
  · rw [el]
    exact h.2.1
  · by_cases q : j = 10 * f + n
    · rw [q]
      exact ⟨⟨by omega, by omega, fun x => by omega, fun x => by omega⟩, fun x => by omega⟩
    · exact CR_cl hf (by omega) h e j (by omega)
  · rw [sum_last]
    unfold ad1
    rw [if_neg (fun x => by have := x.1; omega), CR_sum hf (by omega) h e]
    exact h.2.2.2.1 fs d
  · show 1 ≤ (if k < 1 then 1 else k) ∧ (if k < 1 then 1 else k) ≤ 99
    split <;> omega
theorem CR_k {V V' : MM} {f k p : Int} {n : Nat} {c : CT} {s : ST} (hf : 0 ≤ f ∧ f ≤ 5) (hn : n < 10) (h : CR V f n c s) (e : Ea V V' f n (100 * f + s.2.1)) (h1 : V' 91 (10 * f + n) = 3) (h2 : V' 92 (10 * f + n) = k) (hk : 0 ≤ k ∧ k ≤ 99) : CR V' f (n + 1) (c.1, k, c.2.2) (p, s.2) := by
  obtain ⟨c1, c2, c3, c4⟩ := h.2.2.2.2.2
  have el : lasM V' 2 (n + 1) (10 * f) 24 = lasM V 2 n (10 * f) 24 := by rw [las_last, if_neg (by omega), CR_las e]
  have em : lasM V' 3 (n + 1) (10 * f) 0 = k := by rw [las_last, if_pos h1, h2]
  refine ⟨?_, ?_, fun j hj => ?_, fun fs d => ?_, h.2.2.2.2.1, ⟨c1, hk, c3, c4⟩⟩
  · rw [el]
    exact h.1
  · rw [em]
  · by_cases q : j = 10 * f + n
    · rw [q]
      exact ⟨⟨by omega, by omega, fun x => by omega, fun x => by omega⟩, fun x => by omega⟩
    · exact CR_cl hf (by omega) h e j (by omega)
  · rw [sum_last]
    unfold ad1
    rw [if_neg (fun x => by have := x.1; omega), CR_sum hf (by omega) h e]
    exact h.2.2.2.1 fs d
/-- one step more -/
theorem CR_s {V V' : MM} {f k w : Int} {n : Nat} {c : CT} {s s' : ST} (hf : 0 ≤ f ∧ f ≤ 5) (hn : n < 10) (h : CR V f n c s) (e : Ea V V' f n (100 * f + s.2.1)) (h1 : V' 91 (10 * f + n) = w) (hw : w = 0 ∨ w = 1) (h2 : V' 92 (10 * f + n) = k) (hk : 0 ≤ k ∧ k ≤ 99) (h3 : V' 93 (10 * f + n) = 100 * f + s.2.1) (h4 : V' 94 (10 * f + n) = 100 * f + s'.2.1) (h5 : ∀ j, 0 ≤ j ∧ j < s'.2.1 → V' 95 (100 * f + j) = mapc (s'.2.2 j)) (hg : Gd 0 s (true, s')) (hr : RInv s') (hr0 : 0 ≤ s.2.1) : CR V' f (n + 1) (stp c s'.2.1 (if w = 0 then k else -k)) s' := by
  obtain ⟨c1, c2, c3, c4⟩ := id h.2.2.2.2.2
  obtain ⟨⟨g1, g2, g3⟩, g4, g5⟩ := hg
  replace g2 : s.2.1 ≤ s'.2.1 := g2
  replace g4 : ∀ j, 0 ≤ j ∧ j < s.2.1 → s'.2.2 j = s.2.2 j := g4
  have g6 : EvK 0 s'.2.2 s.2.1 s'.2.1 := (g5 rfl).2
  have hst : c.2.2.1.toNat = c.2.2.1.toNat := rfl
  have hr2 := hr.2.1
  have hr3 := hr.2.2
  have hsg : SgOK (V' 95) (V' 93 (10 * f + n)) (V' 94 (10 * f + n)) := by
    rw [h3, h4]
    refine ⟨⟨by omega, by omega, by omega⟩, fun i hi => ?_, fun fs d => ?_⟩
    · have := h5 (i - 100 * f) (by omega)
      rw [show 100 * f + (i - 100 * f) = i by omega] at this
      rw [this]
      exact mapc_rg (hr3 _ (by omega))
    · obtain ⟨v, hv⟩ := g6 fs d [] (by simp)
      refine ⟨v, ?_⟩
      rw [← hv, show (100 * f + s'.2.1 - (100 * f + s.2.1)).toNat = (s'.2.1 - s.2.1).toNat by omega]
      exact evM_shift fs d _ _ _ (fun j hj => h5 j (by omega))
  have hcl : ∀ j, 10 * f ≤ j ∧ j < 10 * f + ((n + 1 : Nat) : Int) → ClOK V' j ∧ (V' 91 j ≤ 1 → V' 94 j ≤ 100 * f + s'.2.1) := fun j hj => by
    by_cases q : j = 10 * f + n
    · rw [q]
      refine ⟨⟨by omega, by omega, fun _ => hsg, fun _ => ?_⟩, fun _ => by omega⟩
      rw [h3, h4, show (10 * f + (n : Int)) / 10 = f by omega]
      omega
    · have := CR_cl hf (by omega) h e j (by omega)
      exact ⟨this.1, fun x => by have := this.2 x; omega⟩
  have el2 : lasM V' 2 (n + 1) (10 * f) 24 = lasM V 2 n (10 * f) 24 := by rw [las_last, if_neg (by omega), CR_las e]
  have el3 : lasM V' 3 (n + 1) (10 * f) 0 = lasM V 3 n (10 * f) 0 := by rw [las_last, if_neg (by omega), CR_las e]
  refine ⟨?_, ?_, hcl, fun fs d => ?_, ?_, ⟨c1, c2, by show 0 ≤ c.2.2.1 + 1; omega, fun i hi => ?_⟩⟩
  · rw [el2]
    exact h.1
  · rw [el3]
    exact h.2.1
  · show _ = stC (ur c.2.2.2.1 c.2.2.1 (if w = 0 then k else -k)) (ur c.2.2.2.2 c.2.2.1 s'.2.1) s'.2.2 fs d (c.2.2.1 + 1).toNat 0 0 0
    rw [show (c.2.2.1 + 1).toNat = c.2.2.1.toNat + 1 by omega, stC_last, sum_last, CR_sum hf (by omega) h e, h.2.2.2.1 fs d, show (0 : Int) + (c.2.2.1.toNat : Int) = c.2.2.1 by omega, ur_s, ur_s]
    have ef : frS2 (ur c.2.2.2.2 c.2.2.1 s'.2.1) c.2.2.1.toNat 0 0 = s.2.1 := by
      rw [← h.2.2.2.2.1]
      cases hq : c.2.2.1.toNat with
      | zero => rfl
      | succ m =>
        show ur c.2.2.2.2 c.2.2.1 s'.2.1 (0 + m) = c.2.2.2.2 (0 + m)
        rw [ur_n _ (by omega)]
    rw [ef]
    obtain ⟨v, hv⟩ := g6 fs d [] (by simp)
    have hh : holC s'.2.2 fs d s.2.1 s'.2.1 = v := hol_ev (fun j hj => hr3 j (by omega)) hv
    have hd : hldM V' (10 * f + n) fs d = v := by
      unfold hldM
      rw [h3, h4, show (100 * f + s'.2.1 - (100 * f + s.2.1)).toNat = (s'.2.1 - s.2.1).toNat by omega, evM_shift fs d _ _ _ (fun j hj => h5 j (by omega)), hv]
      rfl
    have es := stC_cong (am := c.2.2.2.1) (am' := ur c.2.2.2.1 c.2.2.1 (if w = 0 then k else -k)) (en := c.2.2.2.2) (en' := ur c.2.2.2.2 c.2.2.1 s'.2.1) (co := s.2.2) (co' := s'.2.2) (N := s.2.1) (M := c.2.2.1) (fun i hi => (g4 i hi).symm) (fun i hi => ⟨by rw [ur_n _ (by omega)], by rw [ur_n _ (by omega)]⟩) (fun i hi => (c4 i hi).2) fs d c.2.2.1.toNat 0 0 0 (by omega) (by omega) (by omega)
    rw [← es, hh]
    unfold ad1
    rw [h1, h2, hd]
    cases v
    · rw [if_neg (fun x => by cases x.2), if_neg (by decide)]
    · rw [if_pos ⟨by omega, rfl⟩, if_pos rfl]
      rcases hw with q | q
      · rw [if_pos q, if_pos q]
      · rw [if_neg (by omega), if_neg (by omega)]
  · show frS2 (ur c.2.2.2.2 c.2.2.1 s'.2.1) (c.2.2.1 + 1).toNat 0 0 = s'.2.1
    rw [show (c.2.2.1 + 1).toNat = c.2.2.1.toNat + 1 by omega]
    show ur c.2.2.2.2 c.2.2.1 s'.2.1 (0 + (c.2.2.1.toNat : Int)) = _
    rw [show (0 : Int) + (c.2.2.1.toNat : Int) = c.2.2.1 by omega, ur_s]
  · replace hi : 0 ≤ i ∧ i < c.2.2.1 + 1 := hi
    show (-99 ≤ ur c.2.2.2.1 c.2.2.1 (if w = 0 then k else -k) i ∧ ur c.2.2.2.1 c.2.2.1 (if w = 0 then k else -k) i ≤ 99) ∧ (0 ≤ ur c.2.2.2.2 c.2.2.1 s'.2.1 i ∧ ur c.2.2.2.2 c.2.2.1 s'.2.1 i ≤ s'.2.1)
    by_cases q : i = c.2.2.1
    · rw [q, ur_s, ur_s]
      split <;> omega
    · rw [ur_n _ q, ur_n _ q]
      have := c4 i (by omega)
      omega
/-- the reference amid a hall's reading -/
def GT (V0 V : MM) (T : Int → Int) (L f : Int) (n : Nat) (c : CT) (s : ST) : Prop := TX V T L s.1 ∧ V 83 20 = 100 * f + s.2.1 ∧ (∀ j, 0 ≤ j ∧ j < s.2.1 → V 95 (100 * f + j) = mapc (s.2.2 j)) ∧ OKs s ∧ CR V f n c s ∧ Px V0 V f
theorem ta_0 {T : Int → Int} {L : Int} {i n : Nat} {s : ST} (h : (taL T L i (n + 1) 0 s).1 = true) : ahS T L s.1 = byS i 0 := by
  apply Classical.byContradiction
  intro q
  unfold taL at h
  rw [if_neg q] at h
  cases h
theorem ta_inv2 {T : Int → Int} {L : Int} {s : ST} (h : OKs s) : RInv (taL T L (woN (ahS T L s.1)) (lnS (woN (ahS T L s.1))) 0 s).2 := ta_inv (wo_lt (ahS T L s.1)) (lnS (woN (ahS T L s.1))) 0 s (by omega) (by omega) h.1
theorem ta_le {T : Int → Int} {L : Int} {i : Nat} : ∀ (n : Nat) (j : Int) (s : ST), s.1 ≤ (taL T L i n j s).2.1 := by
  intro n
  induction n with
  | zero => intro j s; exact Int.le_refl _
  | succ n ih =>
    intro j s
    unfold taL
    split
    · have := ih (j + 1) (s.1 + 1, s.2)
      replace this : s.1 + 1 ≤ _ := this
      omega
    · exact Int.le_refl _
