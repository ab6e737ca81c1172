/-- what both sides hold: the floor, its hall, how many halls, the text, the hand, the image, the trace, the tapes -/
abbrev ZT : Type := FS × HS × Int × (Int × (Int → Int)) × SN × (Option (FS × HS × SN)) × (Int × (Int → Int)) × (Int → Int × Int × (Int → Int))
/-- a hall's place, with so many halls -/
def hlA (p n : Int) : Prop := p = 43 ∨ (47 ≤ p ∧ p < 47 + 4 * n ∧ (p - 47) % 4 = 0)
def CAf (V : MM) (Z : ZT) : Prop := FlC V 8 Z.2.1 Z.1 ∧ Z.1.2.1 ≤ 9999 ∧ hlA (V 8 2) Z.2.2.1
def CAh (V : MM) (Z : ZT) : Prop := V 0 7 = Z.2.2.1 ∧ (0 ≤ Z.2.2.1 ∧ Z.2.2.1 ≤ 6) ∧ ∀ h : Nat, isH h → ∀ i : Int, 0 ≤ i ∧ i < 100 → -3 ≤ V (h + 3) i ∧ V (h + 3) i ≤ 1799
def CAt (V : MM) (Z : ZT) : Prop := V 4 1 = Z.2.2.2.1.1 ∧ V 5 = Z.2.2.2.1.2 ∧ BInv V
def CAn (V : MM) (Z : ZT) : Prop := snC V 29 = Z.2.2.2.2.1 ∧ NInv Z.1.1 Z.2.2.2.2.1
def CAi (V : MM) (Z : ZT) : Prop := (V 0 5 = 0 ∧ Z.2.2.2.2.2.1 = none) ∨ ∃ I : FS × HS × SN, V 0 5 = 1 ∧ Z.2.2.2.2.2.1 = some I ∧ FlC V 22 I.2.1 I.1 ∧ I.1.2.1 ≤ 9999 ∧ hlA (V 22 2) Z.2.2.1 ∧ snC V 36 = I.2.2 ∧ NInv I.1.1 I.2.2
def CAr (V : MM) (Z : ZT) : Prop := V 6 0 = Z.2.2.2.2.2.2.1.1 ∧ V 7 = Z.2.2.2.2.2.2.1.2 ∧ 0 ≤ V 6 0 ∧ V 6 0 ≤ 1000
def CAg (V : MM) (Z : ZT) : Prop := ∀ i : Nat, i < 6 → Z.2.2.2.2.2.2.2 i = (V (71 + 2 * i) 0, V (71 + 2 * i) 1, V (71 + 2 * i + 1)) ∧ (-1 ≤ V (71 + 2 * i) 0 ∧ V (71 + 2 * i) 0 ≤ 4) ∧ (0 ≤ V (71 + 2 * i) 1 ∧ V (71 + 2 * i) 1 ≤ 60) ∧ (V (71 + 2 * i) 0 = -1 → V (71 + 2 * i) 1 = 0)
def CA (V : MM) (Z : ZT) : Prop := CAf V Z ∧ CAh V Z ∧ CAt V Z ∧ CAn V Z ∧ CAi V Z ∧ CAr V Z ∧ CAg V Z
theorem CA.cong {V V' : MM} {Z : ZT} (h : CA V Z) (h2 : ∀ k : Nat, k < 83 → k ≠ 3 → (k < 15 ∨ 22 ≤ k) → V' k = V k) : CA V' Z := by
  obtain ⟨⟨f1, f2, f3⟩, ⟨a1, a2, a3⟩, ⟨t1, t2, t3⟩, ⟨n1, n2⟩, hi, ⟨r1, r2, r3⟩, hg⟩ := h
  have e0 := h2 0 (by omega) (by omega) (by omega)
  have e4 := h2 4 (by omega) (by omega) (by omega)
  have e5 := h2 5 (by omega) (by omega) (by omega)
  have e6 := h2 6 (by omega) (by omega) (by omega)
  have e7 := h2 7 (by omega) (by omega) (by omega)
  have e8 := h2 8 (by omega) (by omega) (by omega)
  have e22 := h2 22 (by omega) (by omega) (by omega)
  have sn : ∀ b : Nat, 22 ≤ b → b + 6 < 83 → snC V' b = snC V b := fun b hb hb2 => by
    unfold snC
    rw [h2 b (by omega) (by omega) (by omega), h2 (b + 1) (by omega) (by omega) (by omega), h2 (b + 2) (by omega) (by omega) (by omega), h2 (b + 3) (by omega) (by omega) (by omega), h2 (b + 4) (by omega) (by omega) (by omega), h2 (b + 5) (by omega) (by omega) (by omega), h2 (b + 6) (by omega) (by omega) (by omega)]
  refine ⟨⟨f1.cong (fun k h3 h4 => h2 k (by omega) (by omega) (by omega)) (fun k h3 h4 => h2 k (by omega) (by omega) (by omega)), f2, by rw [e8]; exact f3⟩, ⟨by rw [e0]; exact a1, a2, fun k hk i hi => ?_⟩, ⟨by rw [e4]; exact t1, by rw [e5]; exact t2, ?_⟩, ⟨by rw [sn 29 (by omega) (by omega)]; exact n1, n2⟩, ?_, ⟨by rw [e6]; exact r1, by rw [e7]; exact r2, by rw [e6]; exact r3⟩, fun i hi => ?_⟩
  · have hb := isH_b hk
    rw [h2 (k + 3) (by omega) (by omega) (by omega)]
    exact a3 k hk i hi
  · unfold BInv
    rw [e4, e5]
    exact t3
  · rcases hi with ⟨i1, i2⟩ | ⟨I, i1, i2, i3, i4, i5, i6, i7⟩
    · exact Or.inl ⟨by rw [e0]; exact i1, i2⟩
    · exact Or.inr ⟨I, by rw [e0]; exact i1, i2, i3.cong (fun k h3 h4 => h2 k (by omega) (by omega) (by omega)) (fun k h3 h4 => h2 k (by omega) (by omega) (by omega)), i4, by rw [e22]; exact i5, by rw [sn 36 (by omega) (by omega)]; exact i6, i7⟩
  · rw [h2 (71 + 2 * i) (by omega) (by omega) (by omega), h2 (71 + 2 * i + 1) (by omega) (by omega) (by omega)]
    exact hg i hi
