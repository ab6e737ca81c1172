abbrev ST : Type := Int × Int × (Int → Int)
def addS (c : Int) (s : ST) : ST := if s.2.1 < 100 then (s.1, s.2.1 + 1, ur s.2.2 s.2.1 c) else s
/-- the memory with a reading's place, the codes of the hall at h -/
def rdM (V : MM) (h : Nat) (s : ST) : MM := upR (upR (upR V 4 (ur (V 4) 2 s.1)) (h + 3) s.2.2) h (ur (V h) 3 s.2.1)
def BInv (V : MM) : Prop := (0 ≤ V 4 1 ∧ V 4 1 ≤ 100) ∧ ∀ i, 0 ≤ i ∧ i < 100 → 0 ≤ V 5 i ∧ V 5 i ≤ 127
def RInv (s : ST) : Prop := (0 ≤ s.1 ∧ s.1 ≤ 100) ∧ (0 ≤ s.2.1 ∧ s.2.1 ≤ 100) ∧ ∀ i, 0 ≤ i ∧ i < 100 → -3 ≤ s.2.2 i ∧ s.2.2 i ≤ 1799
theorem isH_b {h : Nat} (hh : isH h) : 43 ≤ h ∧ h ≤ 67 := by unfold isH at hh; omega
theorem rd_4 {V : MM} {h : Nat} (hh : isH h) (s : ST) : rdM V h s 4 = ur (V 4) 2 s.1 := by
  have := isH_b hh
  unfold rdM
  rw [upR_n _ (by omega), upR_n _ (by omega), upR_s]
theorem rd_5 {V : MM} {h : Nat} (hh : isH h) (s : ST) : rdM V h s 5 = V 5 := by
  have := isH_b hh
  unfold rdM
  rw [upR_n _ (by omega), upR_n _ (by omega), upR_n _ (by omega)]
theorem rd_h {V : MM} {h : Nat} (hh : isH h) (s : ST) : rdM V h s h = ur (V h) 3 s.2.1 := by
  unfold rdM
  rw [upR_s]
theorem rd_c {V : MM} {h : Nat} (hh : isH h) (s : ST) : rdM V h s (h + 3) = s.2.2 := by
  unfold rdM
  rw [upR_n _ (by omega), upR_s]
theorem rd_n {V : MM} {h : Nat} (hh : isH h) (s : ST) {k : Nat} (h1 : k ≠ 4) (h2 : k ≠ h) (h3 : k ≠ h + 3) : rdM V h s k = V k := by
  unfold rdM
  rw [upR_n _ h2, upR_n _ h3, upR_n _ h1]
theorem rd_at {V : MM} {h : Nat} (hh : isH h) (s : ST) (p : Int) : atM (rdM V h s) p = rdM V h (p, s.2) := by
  have := isH_b hh
  unfold atM
  rw [rd_4 hh, ur_u]
  unfold rdM
  rw [upR_c _ _ (show h ≠ 4 by omega), upR_c _ _ (show h + 3 ≠ 4 by omega), upR_u]
theorem rd_ad {V : MM} {h : Nat} (hh : isH h) (s : ST) (c : Int) : adM (rdM V h s) h c = rdM V h (addS c s) := by
  have := isH_b hh
  unfold adM addS
  rw [rd_c hh, rd_h hh, ur_s, ur_u]
  by_cases h1 : s.2.1 < 100
  · rw [if_pos h1, if_pos h1]
    unfold rdM
    rw [upR_c _ _ (show h ≠ h + 3 by omega), upR_u, upR_u]
  · rw [if_neg h1, if_neg h1]
theorem rd_rd {V : MM} {h : Nat} (hh : isH h) (s : ST) (t : ST) : rdM (rdM V h s) h t = rdM V h t := by
  have := isH_b hh
  show upR (upR (upR (rdM V h s) 4 (ur (rdM V h s 4) 2 t.1)) (h + 3) t.2.2) h (ur (rdM V h s h) 3 t.2.1) = _
  rw [rd_4 hh, rd_h hh, ur_u, ur_u]
  unfold rdM
  rw [upR_c _ _ (show h ≠ 4 by omega), upR_c _ _ (show h + 3 ≠ 4 by omega), upR_u, upR_c _ _ (show h ≠ h + 3 by omega), upR_u, upR_u]
theorem rd_42 {V : MM} {h : Nat} (hh : isH h) (s : ST) : rdM V h s 4 2 = s.1 := by rw [rd_4 hh, ur_s]
theorem rd_41 {V : MM} {h : Nat} (hh : isH h) (s : ST) : rdM V h s 4 1 = V 4 1 := by rw [rd_4 hh, ur_n _ (by omega)]
theorem rd_h3 {V : MM} {h : Nat} (hh : isH h) (s : ST) : rdM V h s h 3 = s.2.1 := by rw [rd_h hh, ur_s]
theorem rd_ah {V : MM} {h : Nat} (hh : isH h) (s : ST) : ahV (rdM V h s) = ahS (V 5) (V 4 1) s.1 := by
  unfold ahV
  rw [rd_5 hh, rd_41 hh, rd_42 hh]
theorem rd_pp {V : MM} {h : Nat} (hh : isH h) (s : ST) : upR (rdM V h s) 4 (ur (rdM V h s 4) 2 (rdM V h s 4 2 + 1)) = rdM V h (s.1 + 1, s.2) := by
  rw [rd_42 hh]
  exact rd_at hh s _
theorem rd_T {V : MM} {h : Nat} (hh : isH h) (s : ST) (hB : BInv V) (hs : 0 ≤ s.1 ∧ s.1 ≤ 100) : TInv (rdM V h s) := by
  unfold TInv
  rw [rd_5 hh, rd_41 hh, rd_42 hh]
  exact ⟨hB.1, hs, hB.2⟩
theorem rd_id (V : MM) (h : Nat) : rdM V h (V 4 2, V h 3, V (h + 3)) = V := by
  unfold rdM
  rw [ur_id, ur_id, upR_id, upR_id, upR_id]
theorem ad_inv {s : ST} (h : RInv s) {c : Int} (hc : -3 ≤ c ∧ c ≤ 1799) : RInv (addS c s) := by
  obtain ⟨h1, h2, h3⟩ := h
  unfold addS
  split
  · refine ⟨h1, ?_, fun i hi => ?_⟩
    · show 0 ≤ s.2.1 + 1 ∧ s.2.1 + 1 ≤ 100
      omega
    · show -3 ≤ ur s.2.2 s.2.1 c i ∧ ur s.2.2 s.2.1 c i ≤ 1799
      unfold ur
      split
      · exact hc
      · exact h3 i hi
  · exact ⟨h1, h2, h3⟩
theorem fi_mem (i : Nat) (x : Int) : ∀ (n : Nat) (j : Int), fiS i x n j = -1 ∨ (j ≤ fiS i x n j ∧ fiS i x n j < j + n ∧ byS i (fiS i x n j) = x) := by
  intro n
  induction n with
  | zero => intro j; exact Or.inl rfl
  | succ n ih =>
    intro j
    unfold fiS
    by_cases hq : byS i j = x
    · rw [if_pos hq]
      exact Or.inr ⟨by omega, by omega, hq⟩
    · rw [if_neg hq]
      rcases ih (j + 1) with h | ⟨h1, h2, h3⟩
      · exact Or.inl h
      · exact Or.inr ⟨by omega, by omega, h3⟩
theorem ahS_in {T : Int → Int} {L p : Int} (h : ahS T L p ≠ 255) : p < L ∧ p < 100 := by
  unfold ahS at h
  by_cases hq : p < L ∧ p < 100
  · exact hq
  · rw [if_neg hq] at h
    exact absurd rfl h
/-- where the sign at p lies in the literal i -/
abbrev liS (i : Nat) (T : Int → Int) (L p : Int) : Int := fiS i (i2bS (ahS T L p)) (lnS i) 0
theorem li_in {i : Nat} (hi : i < 6) {T : Int → Int} {L p : Int} (h : 0 ≤ liS i T L p) : p < L ∧ p < 100 := by
  refine ahS_in (T := T) (fun e => ?_)
  rcases fi_mem i (i2bS (ahS T L p)) (lnS i) 0 with h1 | ⟨h1, h2, h3⟩
  · unfold liS at h
    omega
  · have h4 := by_rg (i := i) (j := fiS i (i2bS (ahS T L p)) (lnS i) 0) hi ⟨h1, by omega⟩
    rw [h3, e] at h4
    have h5 : i2bS 255 = -1 := by decide +kernel
    omega
theorem li_rg (i : Nat) (T : Int → Int) (L p : Int) : -1 ≤ liS i T L p ∧ liS i T L p < lnS i := by
  rcases fi_mem i (i2bS (ahS T L p)) (lnS i) 0 with h1 | ⟨h1, h2, h3⟩
  · unfold liS
    omega
  · unfold liS
    omega
/-- a test, read -/
def tsS (T : Int → Int) (L : Int) (s : ST) : Bool × ST :=
  if liS 4 T L s.1 < 0 then (false, s)
  else if liS 5 T L (s.1 + 1) < 0 then (false, (s.1 + 1, s.2))
  else if (nuS T L (s.1 + 1 + 1)).1 < 0 then (false, ((nuS T L (s.1 + 1 + 1)).2, s.2))
  else (true, addS ((liS 4 T L s.1 * 3 + liS 5 T L (s.1 + 1)) * 100 + (nuS T L (s.1 + 1 + 1)).1) ((nuS T L (s.1 + 1 + 1)).2, s.2))
theorem nu_in {T : Int → Int} {L p : Int} (hp : 0 ≤ p ∧ p ≤ 100) : 0 ≤ (nuS T L p).2 ∧ (nuS T L p).2 ≤ 100 := by
  unfold nuS
  split
  · rename_i h
    split
    · rename_i h2
      show 0 ≤ p + 2 ∧ p + 2 ≤ 100
      omega
    · show 0 ≤ p + 1 ∧ p + 1 ≤ 100
      omega
  · exact hp
theorem ts_inv {T : Int → Int} {L : Int} {s : ST} (h : RInv s) : RInv (tsS T L s).2 := by
  obtain ⟨h1, h2, h3⟩ := id h
  unfold tsS
  by_cases c1 : liS 4 T L s.1 < 0
  · rw [if_pos c1]; exact h
  rw [if_neg c1]
  have a1 := li_in (i := 4) (by omega) (T := T) (L := L) (p := s.1) (by omega)
  by_cases c2 : liS 5 T L (s.1 + 1) < 0
  · rw [if_pos c2]; exact ⟨by show 0 ≤ s.1 + 1 ∧ s.1 + 1 ≤ 100; omega, h2, h3⟩
  rw [if_neg c2]
  have a2 := li_in (i := 5) (by omega) (T := T) (L := L) (p := s.1 + 1) (by omega)
  have a3 := nu_in (T := T) (L := L) (p := s.1 + 1 + 1) (by omega)
  have a4 := nu_rg T L (s.1 + 1 + 1)
  have a5 : liS 4 T L s.1 < 6 := (li_rg 4 T L s.1).2
  have a6 : liS 5 T L (s.1 + 1) < 3 := (li_rg 5 T L (s.1 + 1)).2
  by_cases c3 : (nuS T L (s.1 + 1 + 1)).1 < 0
  · rw [if_pos c3]; exact ⟨a3, h2, h3⟩
  rw [if_neg c3]
  exact ad_inv (s := ((nuS T L (s.1 + 1 + 1)).2, s.2)) ⟨a3, h2, h3⟩ (by omega)
def rsP (V : MM) (h : Nat) (x : Bool × ST) : Int → MM → Prop := fun z V2 => (z = 1 ∧ x.1 = true ∧ V2 = rdM V h x.2) ∨ (z = 0 ∧ x.1 = false ∧ V2 = rdM V h x.2)
theorem c_aheadR {g : GC} {V : MM} {h : Nat} {p : Int} {q : Int × (Int → Int)} (hh : isH h) (hB : BInv V) (hs : RInv (p, q)) : Ct g mX4_ahead 1 [vr 4] (rdM V h (p, q)) (RE (rdM V h (p, q)) (ahS (V 5) (V 4 1) p)) := by
  have h1 := c_ahead (g := g) (rd_T hh (p, q) hB hs.1)
  rw [rd_ah hh] at h1
  exact h1
theorem c_takesR {g : GC} {V : MM} {h : Nat} {p : Int} {q : Int × (Int → Int)} (hh : isH h) (hB : BInv V) (hs : RInv (p, q)) {c : Int} (hc : 0 ≤ c ∧ c ≤ 254) : Ct g mX4_takes 2 [vr 4, vi c] (rdM V h (p, q)) (RI (fun z V2 => (z = 1 ∧ ahS (V 5) (V 4 1) p = c ∧ p < 100 ∧ V2 = rdM V h (p + 1, q)) ∨ (z = 0 ∧ ahS (V 5) (V 4 1) p ≠ c ∧ V2 = rdM V h (p, q)))) :=
  (c_takes (g := g) (rd_T hh (p, q) hB hs.1) (by omega)).mono (fun r V2 hq => by
    obtain ⟨z, rfl, hq⟩ := hq
    refine ⟨z, rfl, ?_⟩
    unfold taP at hq
    rw [rd_ah hh, rd_42 hh, rd_at hh] at hq
    rcases hq with ⟨a, b, d⟩ | hq
    · exact Or.inl ⟨a, b, (ahS_in (by rw [b]; omega)).2, d⟩
    · exact Or.inr hq)
theorem c_readNumberR {g : GC} {V : MM} {h : Nat} {p : Int} {q : Int × (Int → Int)} (hh : isH h) (hB : BInv V) (hs : RInv (p, q)) : Ct g mX4_readNumber 1 [vr 4] (rdM V h (p, q)) (RI (fun z V2 => z = (nuS (V 5) (V 4 1) p).1 ∧ V2 = rdM V h ((nuS (V 5) (V 4 1) p).2, q))) :=
  (c_readNumber (g := g) (rd_T hh (p, q) hB hs.1)).mono (fun r V2 hq => by
    obtain ⟨rfl, rfl⟩ := hq
    refine ⟨_, rfl, ?_⟩
    unfold nuV
    rw [rd_5 hh, rd_41 hh, rd_42 hh, rd_at hh]
    exact ⟨rfl, rfl⟩)
theorem c_ioR {g : GC} {V : MM} {h : Nat} (hh : isH h) (hB : BInv V) {p : Int} {q : Int × (Int → Int)} (hs : RInv (p, q)) {i : Nat} (hi : i < 6) : Ct g mJ0_indexOf_0f7a4 4 [vr (200 + i), vi (ahS (V 5) (V 4 1) p)] (rdM V h (p, q)) (RE (rdM V h (p, q)) (liS i (V 5) (V 4 1) p)) :=
  c_io1 hi (by have h1 := ah_rg (rd_T hh (p, q) hB hs.1); rw [rd_ah hh] at h1; exact h1)
theorem rd_p1 {V : MM} {h : Nat} (hh : isH h) (p : Int) (q : Int × (Int → Int)) : upR (rdM V h (p, q)) 4 (ur (rdM V h (p, q) 4) 2 (rdM V h (p, q) 4 2 + 1)) = rdM V h (p + 1, q) := rd_pp hh (p, q)
theorem RInv.mv {p p2 : Int} {q : Int × (Int → Int)} (h : RInv (p, q)) (h2 : 0 ≤ p2 ∧ p2 ≤ 100) : RInv (p2, q) := ⟨h2, h.2⟩
theorem c_addCodeR {g : GC} {V : MM} {h : Nat} {s : ST} (hh : isH h) (hB : BInv V) (hs : RInv s) {c : Int} : Ct g mX3_addCode 1 [vr h, vi c] (rdM V h s) (RW (rdM V h (addS c s))) := by
  have h1 := c_addCode (g := g) (V := rdM V h s) (c := c) hh (by rw [rd_h3 hh]; exact hs.2.1)
  rw [rd_ad hh] at h1
  exact h1

section TS
variable {T : Int → Int} {L p : Int} {q : Int × (Int → Int)}
theorem ts_1 (h1 : liS 4 T L p < 0) : tsS T L (p, q) = (false, (p, q)) := if_pos h1
theorem ts_2 (h1 : ¬ liS 4 T L p < 0) (h2 : liS 5 T L (p + 1) < 0) : tsS T L (p, q) = (false, (p + 1, q)) := (if_neg h1).trans (if_pos h2)
theorem ts_3 (h1 : ¬ liS 4 T L p < 0) (h2 : ¬ liS 5 T L (p + 1) < 0) (h3 : (nuS T L (p + 1 + 1)).1 < 0) : tsS T L (p, q) = (false, ((nuS T L (p + 1 + 1)).2, q)) := (if_neg h1).trans ((if_neg h2).trans (if_pos h3))
theorem ts_4 (h1 : ¬ liS 4 T L p < 0) (h2 : ¬ liS 5 T L (p + 1) < 0) (h3 : ¬ (nuS T L (p + 1 + 1)).1 < 0) : tsS T L (p, q) = (true, addS ((liS 4 T L p * 3 + liS 5 T L (p + 1)) * 100 + (nuS T L (p + 1 + 1)).1) ((nuS T L (p + 1 + 1)).2, q)) := (if_neg h1).trans ((if_neg h2).trans (if_neg h3))
end TS

theorem c_readTest {g : GC} {V : MM} {h : Nat} {p : Int} {q : Int × (Int → Int)} (hh : isH h) (hB : BInv V) (hs : RInv (p, q)) : Ct g mX4_readTest 5 [vr 4, vr h] (rdM V h (p, q)) (RI (rsP V h (tsS (V 5) (V 4 1) (p, q)))) := by
  refine Ct.of (ls := [some (vr 4), some (vr h), none, none, none]) (plainFor_of_name (by decide +kernel)) rfl (by exact Nat.le_of_ble_eq_true rfl) (fun X hz hD => ?_)
  have e4 : -1 ≤ liS 4 (V 5) (V 4 1) p ∧ liS 4 (V 5) (V 4 1) p < 6 := li_rg 4 (V 5) (V 4 1) p
  have e5 : -1 ≤ liS 5 (V 5) (V 4 1) (p + 1) ∧ liS 5 (V 5) (V 4 1) (p + 1) < 3 := li_rg 5 (V 5) (V 4 1) (p + 1)
  have e6 := nu_rg (V 5) (V 4 1) (p + 1 + 1)
  have hp : 0 ≤ p ∧ p ≤ 100 := hs.1
  refine S_ldcS (k := 200 + 4) qX4_readTest_0 (fun g2 U h => h.1.2.2.2.2.1) ?_
  refine S_al0 qX4_readTest_2 ?_
  refine S_V0E hD qX4_readTest_3 lX4_35 vX4_ahead r4 (c_aheadR hh hB hs) (K := ?_)
  refine S_V1E hD qX4_readTest_6 lX4_87 vJ0_indexOf_0f7a4 (rS (show 4 < 6 by omega)) (c_ioR hh hB hs (show 4 < 6 by omega)) (K := ?_)
  refine S_is2 qX4_readTest_9 (K := ?_)
  refine S_il2 qX4_readTest_10 ?_
  refine S_if_ge (d := qX4_readTest_11) (kt := fun c11 => ?_) (kf := fun c11 => ?_)
  · have a1 := li_in (i := 4) (by omega) (T := V 5) (L := V 4 1) (p := p) c11
    have hs1 : RInv (p + 1, q) := hs.mv (by omega)
    refine S_al0 qX4_readTest_16 ?_
    refine S_dup (d := qX4_readTest_17) (k := ?_)
    refine S_getI qX4_readTest_18 fX4_19 e4_2 ?_
    refine S_iconst qX4_readTest_21 ?_
    refine S_iadd qX4_readTest_22 ?_
    refine S_putI qX4_readTest_23 fX4_19 e4_2 tX4_2 ?_
    rw [rd_p1 hh]
    refine S_ldcS (k := 200 + 5) qX4_readTest_26 (fun g2 U h => h.1.2.2.2.2.2) ?_
    refine S_al0 qX4_readTest_28 ?_
    refine S_V0E hD qX4_readTest_29 lX4_35 vX4_ahead r4 (c_aheadR hh hB hs1) (K := ?_)
    refine S_V1E hD qX4_readTest_32 lX4_87 vJ0_indexOf_0f7a4 (rS (show 5 < 6 by omega)) (c_ioR hh hB hs1 (show 5 < 6 by omega)) (K := ?_)
    refine S_is3 qX4_readTest_35 (K := ?_)
    refine S_il3 qX4_readTest_36 ?_
    refine S_if_ge (d := qX4_readTest_37) (kt := fun c37 => ?_) (kf := fun c37 => ?_)
    · have a2 := li_in (i := 5) (by omega) (T := V 5) (L := V 4 1) (p := p + 1) c37
      have hs2 : RInv (p + 1 + 1, q) := hs.mv (by omega)
      refine S_al0 qX4_readTest_42 ?_
      refine S_dup (d := qX4_readTest_43) (k := ?_)
      refine S_getI qX4_readTest_44 fX4_19 e4_2 ?_
      refine S_iconst qX4_readTest_47 ?_
      refine S_iadd qX4_readTest_48 ?_
      refine S_putI qX4_readTest_49 fX4_19 e4_2 tX4_2 ?_
      rw [rd_p1 hh]
      refine S_al0 qX4_readTest_52 ?_
      refine S_V0I hD qX4_readTest_53 lX4_47 vX4_readNumber r4 (c_readNumberR hh hB hs2) (kk := fun z53 V53 h53 => ?_)
      obtain ⟨rfl, rfl⟩ := h53
      refine S_is4 qX4_readTest_56 (K := ?_)
      have hs3 : RInv ((nuS (V 5) (V 4 1) (p + 1 + 1)).2, q) := hs.mv (nu_in hs2.1)
      refine S_il4 qX4_readTest_58 ?_
      refine S_if_ge (d := qX4_readTest_60) (kt := fun c60 => ?_) (kf := fun c60 => ?_)
      · refine S_al1 qX4_readTest_65 ?_
        refine S_il2 qX4_readTest_66 ?_
        refine S_il3 qX4_readTest_67 ?_
        refine S_il4 qX4_readTest_68 ?_
        refine S_S3E hD qX4_readTest_70 lX4_95 sX3_testCode (c_testCode) (K := ?_)
        refine S_V1W hD qX4_readTest_73 lX4_76 vX3_addCode (H_r hh) (c_addCodeR hh hB hs3) (K := ?_)
        refine S_iconst qX4_readTest_76 ?_
        refine S_zret hz qX4_readTest_77 (by omega) ?_
        refine ⟨_, rfl, Or.inl ⟨rfl, ?_⟩⟩
        rw [ts_4 (by omega) (by omega) (by omega)]
        exact ⟨rfl, rfl⟩
      · refine S_iconst qX4_readTest_63 ?_
        refine S_zret hz qX4_readTest_64 (by omega) ?_
        refine ⟨_, rfl, Or.inr ⟨rfl, ?_⟩⟩
        rw [ts_3 (by omega) (by omega) (by omega)]
        exact ⟨rfl, rfl⟩
    · refine S_iconst qX4_readTest_40 ?_
      refine S_zret hz qX4_readTest_41 (by omega) ?_
      refine ⟨_, rfl, Or.inr ⟨rfl, ?_⟩⟩
      rw [ts_2 (by omega) (by omega)]
      exact ⟨rfl, rfl⟩
  · refine S_iconst qX4_readTest_14 ?_
    refine S_zret hz qX4_readTest_15 (by omega) ?_
    refine ⟨_, rfl, Or.inr ⟨rfl, ?_⟩⟩
    rw [ts_1 (by omega)]
    exact ⟨rfl, rfl⟩
