/-- the codes from fr to to push one truth on a stack of at most K -/
def EvK (K : Nat) (co : Int → Int) (fr to : Int) : Prop := ∀ (s : FS) (d : Int) (st : List Bool), st.length ≤ K → ∃ v, evL co s d (to - fr).toNat fr st = some (v :: st)
/-- what a reader does: places and codes go on, what was there stays, what is new evaluates -/
def Gd (K : Nat) (s : ST) (y : Bool × ST) : Prop := (s.1 ≤ y.2.1 ∧ s.2.1 ≤ y.2.2.1 ∧ y.2.2.1 - s.2.1 ≤ y.2.1 - s.1) ∧ (∀ j, 0 ≤ j ∧ j < s.2.1 → y.2.2.2 j = s.2.2 j) ∧ (y.1 = true → s.1 < y.2.1 ∧ EvK K y.2.2.2 s.2.1 y.2.2.1)
def OKs (s : ST) : Prop := RInv s ∧ s.2.1 ≤ s.1
section GD
variable {T : Int → Int} {L : Int}
theorem EvK.mono {K K' : Nat} {co : Int → Int} {fr to : Int} (h : EvK K co fr to) (hk : K' ≤ K) : EvK K' co fr to := fun s d st hl => h s d st (by omega)
theorem EvK.cong {K : Nat} {co co' : Int → Int} {fr to : Int} (h : EvK K co fr to) (e : ∀ j, fr ≤ j ∧ j < to → co' j = co j) : EvK K co' fr to := fun s d st hl => by
  obtain ⟨v, hv⟩ := h s d st hl
  refine ⟨v, ?_⟩
  rw [← hv]
  exact evL_cong s d _ _ _ (fun j hj => e j (by omega))
theorem ad_1 {s : ST} (h : s.2.1 < 100) (c : Int) : addS c s = (s.1, s.2.1 + 1, ur s.2.2 s.2.1 c) := if_pos h
theorem gd_ts {s : ST} (h : OKs s) : Gd 59 s (tsS T L s) := by
  obtain ⟨⟨r1, r2, r3⟩, h2⟩ := h
  have n1 := nu_rg T L (s.1 + 1 + 1)
  unfold tsS
  by_cases a1 : liS 4 T L s.1 < 0
  · rw [if_pos a1]
    exact ⟨⟨Int.le_refl _, Int.le_refl _, by show s.2.1 - s.2.1 ≤ s.1 - s.1; omega⟩, fun j hj => rfl, fun q => by cases q⟩
  · rw [if_neg a1]
    by_cases a2 : liS 5 T L (s.1 + 1) < 0
    · rw [if_pos a2]
      exact ⟨⟨by show s.1 ≤ s.1 + 1; omega, Int.le_refl _, by show s.2.1 - s.2.1 ≤ s.1 + 1 - s.1; omega⟩, fun j hj => rfl, fun q => by cases q⟩
    · rw [if_neg a2]
      by_cases a3 : (nuS T L (s.1 + 1 + 1)).1 < 0
      · rw [if_pos a3]
        exact ⟨⟨by show s.1 ≤ (nuS T L (s.1 + 1 + 1)).2; omega, Int.le_refl _, by show s.2.1 - s.2.1 ≤ (nuS T L (s.1 + 1 + 1)).2 - s.1; omega⟩, fun j hj => rfl, fun q => by cases q⟩
      · rw [if_neg a3]
        have i1 := li_in (i := 4) (by omega) (T := T) (L := L) (p := s.1) (by omega)
        have i2 := li_in (i := 5) (by omega) (T := T) (L := L) (p := s.1 + 1) (by omega)
        have g1 := li_rg 4 T L s.1
        have g2 := li_rg 5 T L (s.1 + 1)
        have e4 : lnS 4 = 6 := rfl
        have e5 : lnS 5 = 3 := rfl
        rw [ad_1 (by show s.2.1 < 100; omega)]
        refine ⟨⟨by show s.1 ≤ (nuS T L (s.1 + 1 + 1)).2; omega, by show s.2.1 ≤ s.2.1 + 1; omega, by show s.2.1 + 1 - s.2.1 ≤ (nuS T L (s.1 + 1 + 1)).2 - s.1; omega⟩, fun j hj => ?_, fun _ => ⟨by show s.1 < (nuS T L (s.1 + 1 + 1)).2; omega, fun fs d st hl => ?_⟩⟩
        · show ur s.2.2 s.2.1 _ j = _
          rw [ur_n _ (by omega)]
        · show ∃ v, evL (ur s.2.2 s.2.1 ((liS 4 T L s.1 * 3 + liS 5 T L (s.1 + 1)) * 100 + (nuS T L (s.1 + 1 + 1)).1)) fs d (s.2.1 + 1 - s.2.1).toNat s.2.1 st = some (v :: st)
          rw [show (s.2.1 + 1 - s.2.1).toNat = 1 by omega]
          generalize hc : (liS 4 T L s.1 * 3 + liS 5 T L (s.1 + 1)) * 100 + (nuS T L (s.1 + 1 + 1)).1 = c
          have hm := mapc_n (c := c) (by omega)
          refine ⟨tstM (mapc c) fs d, ?_⟩
          unfold evL evM
          show (match st1M (mapc (ur s.2.2 s.2.1 c s.2.1)) fs d st with | some st' => evM _ fs d 0 (s.2.1 + 1) st' | none => none) = _
          rw [ur_s]
          have e : st1M (mapc c) fs d st = some (tstM (mapc c) fs d :: st) := by
            unfold st1M
            rw [if_neg (by omega), if_neg (by omega), if_pos (by omega)]
          rw [e]
          rfl
/-- two truths, then their sign -/
theorem ev_bin {K : Nat} {co : Int → Int} {a b c o : Int} (ho : o = -2 ∨ o = -3) (h1 : EvK K co a b) (h2 : EvK (K + 1) co b c) (hab : a ≤ b ∧ b ≤ c) (hk : K + 1 ≤ 58) : EvK K (ur co c o) a (c + 1) := by
  intro s d st hl
  have hc1 := (h1.cong (co' := ur co c o) (fun j hj => ur_n _ (by omega))) s d st (by omega)
  obtain ⟨v, hv⟩ := hc1
  have hc2 := (h2.cong (co' := ur co c o) (fun j hj => ur_n _ (by omega))) s d (v :: st) (by simp; omega)
  obtain ⟨w, hw⟩ := hc2
  unfold evL at hv hw ⊢
  refine ⟨if mapc o = -38 then v && w else v || w, ?_⟩
  rw [show (c + 1 - a).toNat = (b - a).toNat + ((c - b).toNat + 1) by omega, evM_app _ s d _ _ _ _ _ hv, show a + ((b - a).toNat : Int) = b by omega, evM_app _ s d _ 1 _ _ _ hw, show b + ((c - b).toNat : Int) = c by omega]
  unfold evM
  have em : mapc (ur co c o c) = mapc o := by rw [ur_s]
  show (match st1M (mapc (ur co c o c)) s d (w :: v :: st) with | some st' => evM _ s d 0 (c + 1) st' | none => none) = _
  rw [em]
  have hm : mapc o = -38 ∨ mapc o = -124 := by rcases ho with rfl | rfl <;> decide
  have e : st1M (mapc o) s d (w :: v :: st) = some ((if mapc o = -38 then v && w else v || w) :: st) := by
    unfold st1M
    rw [if_neg (by omega), if_pos (by omega)]
  rw [e]
  rfl
theorem gd_lp {K : Nat} {one : ST → Bool × ST} {c o : Int} (hc : 0 ≤ c ∧ c ≤ 127) (ho : o = -2 ∨ o = -3) (hK : K + 1 ≤ 58) (g : ∀ s, OKs s → Gd (K + 1) s (one s)) (gi : ∀ s, RInv s → RInv (one s).2) : ∀ (n : Nat) (s0 s : ST), OKs s → (s0.1 ≤ s.1 ∧ s0.2.1 ≤ s.2.1 ∧ s.2.1 - s0.2.1 ≤ s.1 - s0.1 ∧ s0.1 < s.1 ∧ 0 ≤ s0.2.1) → (∀ j, 0 ≤ j ∧ j < s0.2.1 → s.2.2 j = s0.2.2 j) → EvK K s.2.2 s0.2.1 s.2.1 → Gd K s0 (lpS T L one c o n s) := by
  intro n
  induction n with
  | zero => intro s0 s h hp hj he; exact ⟨⟨hp.1, hp.2.1, hp.2.2.1⟩, hj, fun _ => ⟨hp.2.2.2.1, he⟩⟩
  | succ n ih =>
    intro s0 s h hp hj he
    unfold lpS
    by_cases a1 : ahS T L s.1 = c
    · rw [if_pos a1]
      have hx := h.1.nx a1 (by omega)
      have hok : OKs (s.1 + 1, s.2) := ⟨hx, by show s.2.1 ≤ s.1 + 1; have := h.2; omega⟩
      have h1 := g _ hok
      have h1i := gi _ hx
      generalize one (s.1 + 1, s.2) = y at h1 h1i ⊢
      obtain ⟨⟨p1, p2, p3⟩, q, r⟩ := h1
      replace p1 : s.1 + 1 ≤ y.2.1 := p1
      replace p2 : s.2.1 ≤ y.2.2.1 := p2
      replace p3 : y.2.2.1 - s.2.1 ≤ y.2.1 - (s.1 + 1) := p3
      have h2 := h.2
      have h3 := h1i.1
      have h4 := h1i.2.1
      have h5 := h.1.2.1
      by_cases a2 : y.1 = true
      · rw [if_pos a2]
        have r2 := r a2
        have ead := ad_1 (s := y.2) (by omega) o
        have hri := ad_inv h1i (c := o) (by omega)
        rw [ead] at hri ⊢
        have hcg : ∀ j, s0.2.1 ≤ j ∧ j < s.2.1 → y.2.2.2 j = s.2.2 j := fun j hj5 => q j (by show 0 ≤ j ∧ j < s.2.1; omega)
        have eb := ev_bin (K := K) ho (he.cong hcg) (r2.2) (by show s0.2.1 ≤ s.2.1 ∧ s.2.1 ≤ y.2.2.1; omega) hK
        refine ih s0 _ ⟨hri, by show y.2.2.1 + 1 ≤ y.2.1; omega⟩ ⟨by show s0.1 ≤ y.2.1; omega, by show s0.2.1 ≤ y.2.2.1 + 1; omega, by show y.2.2.1 + 1 - s0.2.1 ≤ y.2.1 - s0.1; omega, by show s0.1 < y.2.1; omega, hp.2.2.2.2⟩ (fun j hj5 => ?_) eb
        show ur y.2.2.2 y.2.2.1 o j = _
        rw [ur_n _ (by omega), q j (by show 0 ≤ j ∧ j < s.2.1; omega)]
        exact hj j hj5
      · rw [if_neg a2]
        refine ⟨⟨by show s0.1 ≤ y.2.1; omega, by show s0.2.1 ≤ y.2.2.1; omega, by show y.2.2.1 - s0.2.1 ≤ y.2.1 - s0.1; omega⟩, fun j hj5 => ?_, fun q5 => by cases q5⟩
        show y.2.2.2 j = _
        rw [q j (by show 0 ≤ j ∧ j < s.2.1; omega)]
        exact hj j hj5
    · rw [if_neg a1]
      exact ⟨⟨hp.1, hp.2.1, hp.2.2.1⟩, hj, fun _ => ⟨hp.2.2.2.1, he⟩⟩
theorem gd_se {K : Nat} {one : ST → Bool × ST} {c o : Int} (hc : 0 ≤ c ∧ c ≤ 127) (ho : o = -2 ∨ o = -3) (hK : K + 1 ≤ 58) (g : ∀ s, OKs s → Gd (K + 1) s (one s)) (gi : ∀ s, RInv s → RInv (one s).2) (s : ST) (h : OKs s) : Gd K s (seS T L one c o s) := by
  unfold seS
  have h1 := g s h
  have h1i := gi s h.1
  have h2 := h.2
  have h5 := h.1.2.1
  generalize one s = y at h1 h1i ⊢
  obtain ⟨⟨p1, p2, p3⟩, q, r⟩ := h1
  by_cases a2 : y.1 = true
  · rw [if_pos a2]
    have r2 := r a2
    exact gd_lp hc ho hK g gi 100 s y.2 ⟨h1i, by omega⟩ ⟨p1, p2, p3, r2.1, h5.1⟩ q (r2.2.mono (by omega))
  · rw [if_neg a2]
    exact ⟨⟨p1, p2, p3⟩, q, fun q5 => by cases q5⟩
theorem gd_any {K : Nat} {one : ST → Bool × ST} (hK : K + 2 ≤ 58) (g : ∀ s, OKs s → Gd (K + 2) s (one s)) (gi : ∀ s, RInv s → RInv (one s).2) (s : ST) (h : OKs s) : Gd K s (anyS T L one s) :=
  gd_se (K := K) (by omega) (Or.inr rfl) (by omega) (fun s hs => gd_se (K := K + 1) (by omega) (Or.inl rfl) (by omega) g gi s hs) (se_inv gi (by omega) (by omega)) s h
theorem gd_one : ∀ (r : Nat), r ≤ 4 → ∀ s, OKs s → Gd (57 - 2 * r) s (oneS T L r s) := by
  intro r
  induction r with
  | zero =>
    intro hr s h
    unfold oneS
    split
    · exact ⟨⟨Int.le_refl _, Int.le_refl _, by show s.2.1 - s.2.1 ≤ s.1 - s.1; omega⟩, fun j hj => rfl, fun q => by cases q⟩
    · obtain ⟨a, b, c⟩ := gd_ts (T := T) (L := L) h
      exact ⟨a, b, fun q => ⟨(c q).1, (c q).2.mono (by omega)⟩⟩
  | succ r ih =>
    intro hr s h
    have h2 := h.2
    have h5 := h.1.2.1
    unfold oneS
    by_cases a1 : ahS T L s.1 = 40
    · rw [if_pos a1]
      have hx := h.1.nx a1 (by omega)
      have hok : OKs (s.1 + 1, s.2) := ⟨hx, by show s.2.1 ≤ s.1 + 1; omega⟩
      have g1 := gd_any (T := T) (L := L) (K := 57 - 2 * (r + 1)) (by omega) (fun s hs => by have := ih (by omega) s hs; rw [show 57 - 2 * (r + 1) + 2 = 57 - 2 * r by omega]; exact this) (one_inv r) _ hok
      generalize anyS T L (oneS T L r) (s.1 + 1, s.2) = y at g1 ⊢
      obtain ⟨⟨p1, p2, p3⟩, q, w⟩ := g1
      replace p1 : s.1 + 1 ≤ y.2.1 := p1
      replace p2 : s.2.1 ≤ y.2.2.1 := p2
      replace p3 : y.2.2.1 - s.2.1 ≤ y.2.1 - (s.1 + 1) := p3
      replace q : ∀ j, 0 ≤ j ∧ j < s.2.1 → y.2.2.2 j = s.2.2 j := q
      unfold brS
      by_cases a2 : y.1 = true
      · rw [if_pos a2]
        by_cases a3 : ahS T L y.2.1 = 41
        · rw [if_pos a3]
          exact ⟨⟨by show s.1 ≤ y.2.1 + 1; omega, p2, by show y.2.2.1 - s.2.1 ≤ y.2.1 + 1 - s.1; omega⟩, q, fun _ => ⟨by show s.1 < y.2.1 + 1; omega, (w a2).2⟩⟩
        · rw [if_neg a3]
          exact ⟨⟨by show s.1 ≤ y.2.1; omega, p2, by show y.2.2.1 - s.2.1 ≤ y.2.1 - s.1; omega⟩, q, fun q5 => by cases q5⟩
      · rw [if_neg a2]
        exact ⟨⟨by show s.1 ≤ y.2.1; omega, p2, by show y.2.2.1 - s.2.1 ≤ y.2.1 - s.1; omega⟩, q, fun q5 => by cases q5⟩
    · rw [if_neg a1]
      by_cases a2 : ahS T L s.1 = 33
      · rw [if_pos a2]
        have hx := h.1.nx a2 (by omega)
        have hok : OKs (s.1 + 1, s.2) := ⟨hx, by show s.2.1 ≤ s.1 + 1; omega⟩
        have g1 := ih (by omega) _ hok
        have gi := one_inv (T := T) (L := L) r _ hx
        generalize oneS T L r (s.1 + 1, s.2) = y at g1 gi ⊢
        obtain ⟨⟨p1, p2, p3⟩, q, w⟩ := g1
        replace p1 : s.1 + 1 ≤ y.2.1 := p1
        replace p2 : s.2.1 ≤ y.2.2.1 := p2
        replace p3 : y.2.2.1 - s.2.1 ≤ y.2.1 - (s.1 + 1) := p3
        replace q : ∀ j, 0 ≤ j ∧ j < s.2.1 → y.2.2.2 j = s.2.2 j := q
        have y1 := gi.1
        unfold noS
        by_cases a3 : y.1 = true
        · rw [if_pos a3, ad_1 (by omega)]
          refine ⟨⟨by show s.1 ≤ y.2.1; omega, by show s.2.1 ≤ y.2.2.1 + 1; omega, by show y.2.2.1 + 1 - s.2.1 ≤ y.2.1 - s.1; omega⟩, fun j hj => ?_, fun _ => ⟨by show s.1 < y.2.1; omega, fun fs d st hl => ?_⟩⟩
          · show ur y.2.2.2 y.2.2.1 (-1) j = _
            rw [ur_n _ (by omega)]
            exact q j hj
          · have hc := ((w a3).2.cong (co' := ur y.2.2.2 y.2.2.1 (-1)) (fun j hj => ur_n _ (by omega))) fs d st (by omega)
            obtain ⟨v, hv⟩ := hc
            refine ⟨!v, ?_⟩
            show evL (ur y.2.2.2 y.2.2.1 (-1)) fs d (y.2.2.1 + 1 - s.2.1).toNat s.2.1 st = _
            replace hv : evL (ur y.2.2.2 y.2.2.1 (-1)) fs d (y.2.2.1 - s.2.1).toNat s.2.1 st = some (v :: st) := hv
            unfold evL at hv ⊢
            rw [show (y.2.2.1 + 1 - s.2.1).toNat = (y.2.2.1 - s.2.1).toNat + 1 by omega, evM_app _ fs d _ 1 _ _ _ hv, show s.2.1 + ((y.2.2.1 - s.2.1).toNat : Int) = y.2.2.1 by omega]
            unfold evM
            show (match st1M (mapc (ur y.2.2.2 y.2.2.1 (-1) y.2.2.1)) fs d (v :: st) with | some st' => evM _ fs d 0 (y.2.2.1 + 1) st' | none => none) = _
            rw [ur_s]
            rfl
        · rw [if_neg a3]
          exact ⟨⟨by show s.1 ≤ y.2.1; omega, p2, by show y.2.2.1 - s.2.1 ≤ y.2.1 - s.1; omega⟩, q, fun q5 => by cases q5⟩
      · rw [if_neg a2]
        obtain ⟨a, b, c⟩ := gd_ts (T := T) (L := L) h
        exact ⟨a, b, fun q => ⟨(c q).1, (c q).2.mono (by omega)⟩⟩
theorem gd_co (s : ST) (h : OKs s) : Gd 0 s (coS T L s) := by
  obtain ⟨a, b, c⟩ := gd_any (T := T) (L := L) (K := 47) (by omega) (fun s hs => gd_one (T := T) (L := L) 4 (by omega) s hs) (one_inv 4) s h
  exact ⟨a, b, fun q => ⟨(c q).1, (c q).2.mono (by omega)⟩⟩
end GD
