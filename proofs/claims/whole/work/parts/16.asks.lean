def allN (p : Int → Bool) : Nat → Bool
  | 0 => true
  | n + 1 => allN p n && p (n : Int)
theorem allN_iff {p : Int → Bool} {n : Nat} : allN p n = true ↔ ∀ i : Int, 0 ≤ i ∧ i < n → p i = true := by
  induction n with
  | zero => exact ⟨fun _ i hi => absurd hi.2 (by simp; omega), fun _ => rfl⟩
  | succ n ih =>
    unfold allN
    rw [Bool.and_eq_true, ih]
    constructor
    · intro h i hi
      by_cases e : i = n
      · rw [e]; exact h.2
      · exact h.1 i (by omega)
    · intro h
      exact ⟨fun i hi => h i (by omega), h n (by omega)⟩
theorem allN_I {p : Int → Bool} {n : Int} (hn : 0 ≤ n) : allN p n.toNat = true ↔ ∀ i : Int, 0 ≤ i ∧ i < n → p i = true := by
  rw [allN_iff, Int.toNat_of_nonneg hn]
def togB (s : FS) : Bool := allN (fun d => decide (s.2.2.2.2.2.1 (8 * d) = s.2.2.2.2.2.1 0)) s.1.toNat
def aloB (s : FS) (d : Int) : Bool := allN (fun o => decide (o ≠ d → s.2.2.2.2.2.1 (8 * o) ≠ s.2.2.2.2.2.1 (8 * d))) s.1.toNat
def stiB (hs : HS) (s : FS) : Bool := allN (fun d => decide (goesS hs s d = s.2.2.2.2.2.1 (8 * d))) s.1.toNat
def samB (s s' : FS) : Bool := allN (fun i => decide (s.2.2.2.2.2.1 i = s'.2.2.2.2.2.1 i)) (8 * s.1).toNat
def apaS (hs : HS) (s : FS) (a b : Int) : Int := let u := (s.2.2.2.2.2.1 (8 * a) - s.2.2.2.2.2.1 (8 * b)) % hs.1; if hs.1 - u < u then hs.1 - u else u
/-- the first k behind which P is so, a beat for which the band stops being sb -/
def fstS (hs : HS) (P : FS → Bool) (sb : Int) : Nat → Int → FS → Int
  | 0, _, _ => -5
  | n + 1, k, s => if P s then k else fstS hs P sb n (k + 1) (goS hs (decide (k = sb)) s)
def goN (hs : HS) : Nat → FS → FS
  | 0, s => s
  | n + 1, s => goN hs n (goS hs false s)
def alnS (hs : HS) (d : Int) : Nat → FS → Int → Int
  | 0, _, c => c
  | n + 1, s, c => alnS hs d n (goS hs false s) (if aloB (goS hs false s) d then c + 1 else c)

theorem tog_loop {g : GC} {X : CX} {Q : Option AV → MM → Prop} {f : Nat} {V : MM} (hf : isF f) (hn : 0 ≤ V f 0 ∧ V f 0 ≤ 6) (hwa : ∀ i : Int, 0 ≤ i ∧ i < 48 → 0 ≤ V (f + 4) i ∧ V (f + 4) i < 99) (hz : Fi g X (some .boolean) Q) (hD : Dp X 3) (hQ1 : (∀ i : Int, 0 ≤ i ∧ i < V f 0 → V (f + 4) (8 * i) = V (f + 4) 0) → Q (some (vi 1)) V) (hQ0 : ¬ (∀ i : Int, 0 ≤ i ∧ i < V f 0 → V (f + 4) (8 * i) = V (f + 4) 0) → Q (some (vi 0)) V) : ∀ (n : Nat) (d : Int), 0 ≤ d → d ≤ 1000 → (V f 0 - d).toNat = n → (∀ i : Int, 0 ≤ i ∧ i < d → V (f + 4) (8 * i) = V (f + 4) 0) → SW g X RX2 cX2_areTogether 2 [some (vr f), some (vi d)] [] V := by
  have e0 : V (f + 4) (8 * 0) = V (f + 4) 0 := rfl
  have w0 := hwa (8 * 0) (by omega)
  intro n
  induction n with
  | zero =>
    intro d h0 h00 h1 hall
    refine S_il1 qX2_areTogether_2 ?_
    refine S_al0 qX2_areTogether_3 ?_
    refine S_getI qX2_areTogether_4 fX2_34 (F_0 hf) ?_
    refine S_icmp_ge (d := qX2_areTogether_7) (kt := fun c7 => ?_) (kf := fun c7 => ?_)
    rotate_left
    · omega
    refine S_iconst qX2_areTogether_33 ?_
    refine S_zret hz qX2_areTogether_34 (by omega) ?_
    exact hQ1 (fun i hi => hall i (by omega))
  | succ n ih =>
    intro d h0 h00 h1 hall
    have w1 := hwa (8 * d) (by omega)
    refine S_il1 qX2_areTogether_2 ?_
    refine S_al0 qX2_areTogether_3 ?_
    refine S_getI qX2_areTogether_4 fX2_34 (F_0 hf) ?_
    refine S_icmp_ge (d := qX2_areTogether_7) (kt := fun c7 => ?_) (kf := fun c7 => ?_)
    · omega
    refine S_al0 qX2_areTogether_10 ?_
    refine S_il1 qX2_areTogether_11 ?_
    refine S_iconst qX2_areTogether_12 ?_
    refine S_V2E hD qX2_areTogether_13 lX2_68 vX2_wasOf (F_r hf) (c_was0 hf (by omega) (by omega)) (K := ?_)
    refine S_al0 qX2_areTogether_16 ?_
    refine S_iconst qX2_areTogether_17 ?_
    refine S_iconst qX2_areTogether_18 ?_
    refine S_V2E hD qX2_areTogether_19 lX2_68 vX2_wasOf (F_r hf) (c_was0 hf (by omega) (by omega)) (K := ?_)
    refine S_icmp_eq (d := qX2_areTogether_22) (kt := fun c22 => ?_) (kf := fun c22 => ?_)
    · refine S_inc1 qX2_areTogether_27 (K := ?_)
      refine S_goto qX2_areTogether_30 ?_
      refine ih (d + 1) (by omega) (by omega) (by omega) (fun i hi => ?_)
      by_cases e : i = d
      · subst e
        omega
      · exact hall i (by omega)
    · refine S_iconst qX2_areTogether_25 ?_
      refine S_zret hz qX2_areTogether_26 (by omega) ?_
      refine hQ0 (fun h => ?_)
      have h5 := h d (by omega)
      omega
theorem c_areTogether {g : GC} {f : Nat} {V : MM} {hs : HS} {s : FS} (hF : FlC V f hs s) : Ct g mX2_areTogether 3 [vr f] V (RB V (togB s = true)) := by
  refine Ct.of (ls := [some (vr f), none]) (plainFor_of_name (by decide +kernel)) rfl (by exact Nat.le_of_ble_eq_true rfl) (fun X hz hD => ?_)
  obtain ⟨hf, rfl, hn, hb, hkv, hfo, hwa, hro, hH, hh0, rfl⟩ := hF.facts
  have hw := hH.2.1
  have hwa9 : ∀ i : Int, 0 ≤ i ∧ i < 48 → 0 ≤ V (f + 4) i ∧ V (f + 4) i < 99 := fun i hi => by have := hwa i hi; omega
  have hi : togB (fsC V f) = true ↔ ∀ i : Int, 0 ≤ i ∧ i < V f 0 → V (f + 4) (8 * i) = V (f + 4) 0 := by unfold togB; rw [allN_I hn.1]; simp only [decide_eq_true_eq]
  refine S_iconst qX2_areTogether_0 ?_
  refine S_is1 qX2_areTogether_1 (K := ?_)
  exact tog_loop hf hn hwa9 hz hD (fun h => ⟨rfl, Or.inl ⟨rfl, hi.mpr h⟩⟩) (fun h => ⟨rfl, Or.inr ⟨rfl, fun q => h (hi.mp q)⟩⟩) _ 1 (by omega) (by omega) rfl (fun i hi => by rw [show i = 0 by omega]; rfl)

theorem alo_loop {g : GC} {X : CX} {Q : Option AV → MM → Prop} {f : Nat} {V : MM} {d : Int} (hf : isF f) (hn : 0 ≤ V f 0 ∧ V f 0 ≤ 6) (hwa : ∀ i : Int, 0 ≤ i ∧ i < 48 → 0 ≤ V (f + 4) i ∧ V (f + 4) i < 99) (rd : 0 ≤ d ∧ d < V f 0) (hz : Fi g X (some .boolean) Q) (hD : Dp X 3) (hQ1 : (∀ i : Int, 0 ≤ i ∧ i < V f 0 → (i ≠ d → V (f + 4) (8 * i) ≠ V (f + 4) (8 * d))) → Q (some (vi 1)) V) (hQ0 : ¬ (∀ i : Int, 0 ≤ i ∧ i < V f 0 → (i ≠ d → V (f + 4) (8 * i) ≠ V (f + 4) (8 * d))) → Q (some (vi 0)) V) : ∀ (n : Nat) (o : Int), 0 ≤ o → o ≤ 1000 → (V f 0 - o).toNat = n → (∀ i : Int, 0 ≤ i ∧ i < o → (i ≠ d → V (f + 4) (8 * i) ≠ V (f + 4) (8 * d))) → SW g X RX2 cX2_isAlone 2 [some (vr f), some (vi d), some (vi o)] [] V := by
  have w0 := hwa (8 * d) (by omega)
  intro n
  induction n with
  | zero =>
    intro o h0 h00 h1 hall
    refine S_il2 qX2_isAlone_2 ?_
    refine S_al0 qX2_isAlone_3 ?_
    refine S_getI qX2_isAlone_4 fX2_34 (F_0 hf) ?_
    refine S_icmp_ge (d := qX2_isAlone_7) (kt := fun c7 => ?_) (kf := fun c7 => ?_)
    rotate_left
    · omega
    refine S_iconst qX2_isAlone_38 ?_
    refine S_zret hz qX2_isAlone_39 (by omega) ?_
    exact hQ1 (fun i hi => hall i (by omega))
  | succ n ih =>
    intro o h0 h00 h1 hall
    have w1 := hwa (8 * o) (by omega)
    refine S_il2 qX2_isAlone_2 ?_
    refine S_al0 qX2_isAlone_3 ?_
    refine S_getI qX2_isAlone_4 fX2_34 (F_0 hf) ?_
    refine S_icmp_ge (d := qX2_isAlone_7) (kt := fun c7 => ?_) (kf := fun c7 => ?_)
    · omega
    refine S_il2 qX2_isAlone_10 ?_
    refine S_il1 qX2_isAlone_11 ?_
    refine S_icmp_eq (d := qX2_isAlone_12) (kt := fun c12 => ?_) (kf := fun c12 => ?_)
    · refine S_inc2 qX2_isAlone_32 (K := ?_)
      refine S_goto qX2_isAlone_35 ?_
      refine ih (o + 1) (by omega) (by omega) (by omega) (fun i hi => ?_)
      by_cases e : i = o
      · subst e
        first | (intro h6; omega) | (intro h6; exact c27) | (intro h6; exact absurd (by omega) h6)
      · exact hall i (by omega)
    · refine S_al0 qX2_isAlone_15 ?_
      refine S_il2 qX2_isAlone_16 ?_
      refine S_iconst qX2_isAlone_17 ?_
      refine S_V2E hD qX2_isAlone_18 lX2_68 vX2_wasOf (F_r hf) (c_was0 hf (by omega) (by omega)) (K := ?_)
      refine S_al0 qX2_isAlone_21 ?_
      refine S_il1 qX2_isAlone_22 ?_
      refine S_iconst qX2_isAlone_23 ?_
      refine S_V2E hD qX2_isAlone_24 lX2_68 vX2_wasOf (F_r hf) (c_was0 hf (by omega) (by omega)) (K := ?_)
      refine S_icmp_ne (d := qX2_isAlone_27) (kt := fun c27 => ?_) (kf := fun c27 => ?_)
      · refine S_inc2 qX2_isAlone_32 (K := ?_)
        refine S_goto qX2_isAlone_35 ?_
        refine ih (o + 1) (by omega) (by omega) (by omega) (fun i hi => ?_)
        by_cases e : i = o
        · subst e
          first | (intro h6; omega) | (intro h6; exact c27) | (intro h6; exact absurd (by omega) h6)
        · exact hall i (by omega)
      · refine S_iconst qX2_isAlone_30 ?_
        refine S_zret hz qX2_isAlone_31 (by omega) ?_
        refine hQ0 (fun h => ?_)
        have h5 := h o (by omega)
        exact absurd (by first | exact c27 | omega) (h5 (by omega))
theorem c_isAlone {g : GC} {f : Nat} {V : MM} {hs : HS} {s : FS} {d : Int} (hF : FlC V f hs s) (rd : 0 ≤ d ∧ d < V f 0) : Ct g mX2_isAlone 3 [vr f, vi d] V (RB V (aloB s d = true)) := by
  refine Ct.of (ls := [some (vr f), some (vi d), none]) (plainFor_of_name (by decide +kernel)) rfl (by exact Nat.le_of_ble_eq_true rfl) (fun X hz hD => ?_)
  obtain ⟨hf, rfl, hn, hb, hkv, hfo, hwa, hro, hH, hh0, rfl⟩ := hF.facts
  have hw := hH.2.1
  have hwa9 : ∀ i : Int, 0 ≤ i ∧ i < 48 → 0 ≤ V (f + 4) i ∧ V (f + 4) i < 99 := fun i hi => by have := hwa i hi; omega
  have hi : aloB (fsC V f) d = true ↔ ∀ i : Int, 0 ≤ i ∧ i < V f 0 → (i ≠ d → V (f + 4) (8 * i) ≠ V (f + 4) (8 * d)) := by unfold aloB; rw [allN_I hn.1]; simp only [decide_eq_true_eq]
  refine S_iconst qX2_isAlone_0 ?_
  refine S_is2 qX2_isAlone_1 (K := ?_)
  exact alo_loop hf hn hwa9 rd hz hD (fun h => ⟨rfl, Or.inl ⟨rfl, hi.mpr h⟩⟩) (fun h => ⟨rfl, Or.inr ⟨rfl, fun q => h (hi.mp q)⟩⟩) _ 0 (by omega) (by omega) rfl (fun i hi => by omega)

theorem sti_loop {g : GC} {X : CX} {Q : Option AV → MM → Prop} {f : Nat} {V : MM} {hs : HS} {s : FS} (hF : FlC V f hs s) (hw9 : 1 ≤ hs.1 ∧ hs.1 ≤ 99) (hf : isF f) (hn : 0 ≤ V f 0 ∧ V f 0 ≤ 6) (hwa : ∀ i : Int, 0 ≤ i ∧ i < 48 → 0 ≤ V (f + 4) i ∧ V (f + 4) i < 99) (hz : Fi g X (some .boolean) Q) (hD : Dp X 6) (hQ1 : (∀ i : Int, 0 ≤ i ∧ i < V f 0 → goesS hs s i = V (f + 4) (8 * i)) → Q (some (vi 1)) V) (hQ0 : ¬ (∀ i : Int, 0 ≤ i ∧ i < V f 0 → goesS hs s i = V (f + 4) (8 * i)) → Q (some (vi 0)) V) : ∀ (n : Nat) (d : Int), 0 ≤ d → d ≤ 1000 → (V f 0 - d).toNat = n → (∀ i : Int, 0 ≤ i ∧ i < d → goesS hs s i = V (f + 4) (8 * i)) → SW g X RX2 cX2_nobodyMoves 2 [some (vr f), some (vi d)] [] V := by

  intro n
  induction n with
  | zero =>
    intro d h0 h00 h1 hall
    refine S_il1 qX2_nobodyMoves_2 ?_
    refine S_al0 qX2_nobodyMoves_3 ?_
    refine S_getI qX2_nobodyMoves_4 fX2_34 (F_0 hf) ?_
    refine S_icmp_ge (d := qX2_nobodyMoves_7) (kt := fun c7 => ?_) (kf := fun c7 => ?_)
    rotate_left
    · omega
    refine S_iconst qX2_nobodyMoves_32 ?_
    refine S_zret hz qX2_nobodyMoves_33 (by omega) ?_
    exact hQ1 (fun i hi => hall i (by omega))
  | succ n ih =>
    intro d h0 h00 h1 hall
    have w1 := hwa (8 * d) (by omega)
    have w2 := goes_rg s d hw9.1
    refine S_il1 qX2_nobodyMoves_2 ?_
    refine S_al0 qX2_nobodyMoves_3 ?_
    refine S_getI qX2_nobodyMoves_4 fX2_34 (F_0 hf) ?_
    refine S_icmp_ge (d := qX2_nobodyMoves_7) (kt := fun c7 => ?_) (kf := fun c7 => ?_)
    · omega
    refine S_al0 qX2_nobodyMoves_10 ?_
    refine S_il1 qX2_nobodyMoves_11 ?_
    refine S_V1E hD qX2_nobodyMoves_12 lX2_77 vX2_goesOf (F_r hf) (c_goesOf hF (by omega)) (K := ?_)
    refine S_al0 qX2_nobodyMoves_15 ?_
    refine S_il1 qX2_nobodyMoves_16 ?_
    refine S_iconst qX2_nobodyMoves_17 ?_
    refine S_V2E hD qX2_nobodyMoves_18 lX2_68 vX2_wasOf (F_r hf) (c_was0 hf (by omega) (by omega)) (K := ?_)
    refine S_icmp_eq (d := qX2_nobodyMoves_21) (kt := fun c21 => ?_) (kf := fun c21 => ?_)
    · refine S_inc1 qX2_nobodyMoves_26 (K := ?_)
      refine S_goto qX2_nobodyMoves_29 ?_
      refine ih (d + 1) (by omega) (by omega) (by omega) (fun i hi => ?_)
      by_cases e : i = d
      · subst e
        omega
      · exact hall i (by omega)
    · refine S_iconst qX2_nobodyMoves_24 ?_
      refine S_zret hz qX2_nobodyMoves_25 (by omega) ?_
      refine hQ0 (fun h => ?_)
      have h5 := h d (by omega)
      omega
theorem c_nobodyMoves {g : GC} {f : Nat} {V : MM} {hs : HS} {s : FS} (hF : FlC V f hs s) : Ct g mX2_nobodyMoves 6 [vr f] V (RB V (stiB hs s = true)) := by
  refine Ct.of (ls := [some (vr f), none]) (plainFor_of_name (by decide +kernel)) rfl (by exact Nat.le_of_ble_eq_true rfl) (fun X hz hD => ?_)
  obtain ⟨hf, rfl, hn, hb, hkv, hfo, hwa, hro, hH, hh0, rfl⟩ := hF.facts
  have hw := hH.2.1
  have hwa9 : ∀ i : Int, 0 ≤ i ∧ i < 48 → 0 ≤ V (f + 4) i ∧ V (f + 4) i < 99 := fun i hi => by have := hwa i hi; omega
  have hi : stiB (V (V f 2).toNat 0, V (V f 2).toNat 1, stepC V (V f 2).toNat) (fsC V f) = true ↔ ∀ i : Int, 0 ≤ i ∧ i < V f 0 → goesS (V (V f 2).toNat 0, V (V f 2).toNat 1, stepC V (V f 2).toNat) (fsC V f) i = V (f + 4) (8 * i) := by unfold stiB; rw [allN_I hn.1]; simp only [decide_eq_true_eq]
  refine S_iconst qX2_nobodyMoves_0 ?_
  refine S_is1 qX2_nobodyMoves_1 (K := ?_)
  exact sti_loop hF hw hf hn hwa9 hz hD (fun h => ⟨rfl, Or.inl ⟨rfl, hi.mpr h⟩⟩) (fun h => ⟨rfl, Or.inr ⟨rfl, fun q => h (hi.mp q)⟩⟩) _ 0 (by omega) (by omega) rfl (fun i hi => by omega)

theorem sam_loop {g : GC} {X : CX} {Q : Option AV → MM → Prop} {f o : Nat} {V : MM} (hf : isF f) (ho : isF o) (hn : 0 ≤ V f 0 ∧ V f 0 ≤ 6) (hwa : ∀ i : Int, 0 ≤ i ∧ i < 48 → 0 ≤ V (f + 4) i ∧ V (f + 4) i < 99) (hwo : ∀ i : Int, 0 ≤ i ∧ i < 48 → 0 ≤ V (o + 4) i ∧ V (o + 4) i < 99) (hz : Fi g X (some .boolean) Q) (hD : Dp X 1) (hQ1 : (∀ i : Int, 0 ≤ i ∧ i < 8 * V f 0 → V (f + 4) i = V (o + 4) i) → Q (some (vi 1)) V) (hQ0 : ¬ (∀ i : Int, 0 ≤ i ∧ i < 8 * V f 0 → V (f + 4) i = V (o + 4) i) → Q (some (vi 0)) V) : ∀ (n : Nat) (d : Int), 0 ≤ d → d ≤ 1000 → (8 * V f 0 - d).toNat = n → (∀ i : Int, 0 ≤ i ∧ i < d → V (f + 4) i = V (o + 4) i) → SW g X RX2 cX2_standsAs 2 [some (vr f), some (vr o), some (vi d)] [] V := by

  intro n
  induction n with
  | zero =>
    intro d h0 h00 h1 hall
    refine S_il2 qX2_standsAs_2 ?_
    refine S_al0 qX2_standsAs_3 ?_
    refine S_getI qX2_standsAs_4 fX2_34 (F_0 hf) ?_
    refine S_bipush (d := qX2_standsAs_7) (k := ?_)
    refine S_imul qX2_standsAs_9 ?_
    refine S_icmp_ge (d := qX2_standsAs_10) (kt := fun c10 => ?_) (kf := fun c10 => ?_)
    rotate_left
    · omega
    refine S_iconst qX2_standsAs_36 ?_
    refine S_zret hz qX2_standsAs_37 (by omega) ?_
    exact hQ1 (fun i hi => hall i (by omega))
  | succ n ih =>
    intro d h0 h00 h1 hall
    have w1 := hwa d (by omega)
    have w2 := hwo d (by omega)
    refine S_il2 qX2_standsAs_2 ?_
    refine S_al0 qX2_standsAs_3 ?_
    refine S_getI qX2_standsAs_4 fX2_34 (F_0 hf) ?_
    refine S_bipush (d := qX2_standsAs_7) (k := ?_)
    refine S_imul qX2_standsAs_9 ?_
    refine S_icmp_ge (d := qX2_standsAs_10) (kt := fun c10 => ?_) (kf := fun c10 => ?_)
    · omega
    refine S_al0 qX2_standsAs_13 ?_
    refine S_getR qX2_standsAs_14 fX2_21 (F_6 hf) ?_
    refine S_il2 qX2_standsAs_17 ?_
    refine S_iald qX2_standsAs_18 (Fa_4 hf) (K := ?_)
    refine S_al1 qX2_standsAs_19 ?_
    refine S_getR qX2_standsAs_20 fX2_21 (F_6 ho) ?_
    refine S_il2 qX2_standsAs_23 ?_
    refine S_iald qX2_standsAs_24 (Fa_4 ho) (K := ?_)
    refine S_icmp_eq (d := qX2_standsAs_25) (kt := fun c25 => ?_) (kf := fun c25 => ?_)
    · refine S_inc2 qX2_standsAs_30 (K := ?_)
      refine S_goto qX2_standsAs_33 ?_
      refine ih (d + 1) (by omega) (by omega) (by omega) (fun i hi => ?_)
      by_cases e : i = d
      · subst e
        omega
      · exact hall i (by omega)
    · refine S_iconst qX2_standsAs_28 ?_
      refine S_zret hz qX2_standsAs_29 (by omega) ?_
      refine hQ0 (fun h => ?_)
      have h5 := h d (by omega)
      omega
theorem c_standsAs {g : GC} {f o : Nat} {V : MM} {hs hs2 : HS} {s s2 : FS} (hF : FlC V f hs s) (hO : FlC V o hs2 s2) : Ct g mX2_standsAs 1 [vr f, vr o] V (RB V (samB s s2 = true)) := by
  refine Ct.of (ls := [some (vr f), some (vr o), none]) (plainFor_of_name (by decide +kernel)) rfl (by exact Nat.le_of_ble_eq_true rfl) (fun X hz hD => ?_)
  obtain ⟨hf, rfl, hn, hb, hkv, hfo, hwa, hro, hH, hh0, rfl⟩ := hF.facts
  have hw := hH.2.1
  have hwa9 : ∀ i : Int, 0 ≤ i ∧ i < 48 → 0 ≤ V (f + 4) i ∧ V (f + 4) i < 99 := fun i hi => by have := hwa i hi; omega
  obtain ⟨ho, rfl, hn2, hb2, hkv2, hfo2, hwa2, hro2, hH2, hh02, rfl⟩ := hO.facts
  have hw2 := hH2.2.1
  have hwo9 : ∀ i : Int, 0 ≤ i ∧ i < 48 → 0 ≤ V (o + 4) i ∧ V (o + 4) i < 99 := fun i hi => by have := hwa2 i hi; omega
  have hi : samB (fsC V f) (fsC V o) = true ↔ ∀ i : Int, 0 ≤ i ∧ i < 8 * V f 0 → V (f + 4) i = V (o + 4) i := by unfold samB; rw [allN_I (by show 0 ≤ 8 * V f 0; omega)]; simp only [decide_eq_true_eq]
  refine S_iconst qX2_standsAs_0 ?_
  refine S_is2 qX2_standsAs_1 (K := ?_)
  exact sam_loop hf ho hn hwa9 hwo9 hz hD (fun h => ⟨rfl, Or.inl ⟨rfl, hi.mpr h⟩⟩) (fun h => ⟨rfl, Or.inr ⟨rfl, fun q => h (hi.mp q)⟩⟩) _ 0 (by omega) (by omega) rfl (fun i hi => by omega)

theorem c_apart {g : GC} {f : Nat} {V : MM} {hs : HS} {s : FS} {a b : Int} (hF : FlC V f hs s) (ra : 0 ≤ a ∧ a < V f 0) (rb : 0 ≤ b ∧ b < V f 0) : Ct g mX2_apart 3 [vr f, vi a, vi b] V (RE V (apaS hs s a b)) := by
  refine Ct.of (ls := [some (vr f), some (vi a), some (vi b), none]) (plainFor_of_name (by decide +kernel)) rfl (by exact Nat.le_of_ble_eq_true rfl) (fun X hz hD => ?_)
  obtain ⟨hf, rfl, hn, hb, hkv, hfo, hwa, hro, hH, hh0, rfl⟩ := hF.facts
  have hw := hH.2.1
  have hwa9 : ∀ i : Int, 0 ≤ i ∧ i < 48 → 0 ≤ V (f + 4) i ∧ V (f + 4) i < 99 := fun i hi => by have := hwa i hi; omega
  have hh := hH.1
  have w1 := hwa9 (8 * a) (by omega)
  have w2 := hwa9 (8 * b) (by omega)
  have a7 := Int.emod_nonneg (V (f + 4) (8 * a) - V (f + 4) (8 * b)) (show V (V f 2).toNat 0 ≠ 0 by omega)
  have a8 := Int.emod_lt_of_pos (V (f + 4) (8 * a) - V (f + 4) (8 * b)) (show 0 < V (V f 2).toNat 0 by omega)
  refine S_al0 qX2_apart_0 ?_
  refine S_il1 qX2_apart_1 ?_
  refine S_iconst qX2_apart_2 ?_
  refine S_V2E hD qX2_apart_3 lX2_68 vX2_wasOf (F_r hf) (c_was0 hf (by omega) (by omega)) (K := ?_)
  refine S_al0 qX2_apart_6 ?_
  refine S_il2 qX2_apart_7 ?_
  refine S_iconst qX2_apart_8 ?_
  refine S_V2E hD qX2_apart_9 lX2_68 vX2_wasOf (F_r hf) (c_was0 hf (by omega) (by omega)) (K := ?_)
  refine S_isub qX2_apart_12 ?_
  refine S_al0 qX2_apart_13 ?_
  refine S_getH qX2_apart_14 fX2_30 (F_2 hf) ?_
  refine S_getI qX2_apart_17 fX2_47 (H_0 hh) ?_
  refine S_S2E hD qX2_apart_20 lX2_60 sX6_modulo (c_modulo (by omega) (by omega)) (K := ?_)
  refine S_is3 qX2_apart_23 (K := ?_)
  refine S_il3 qX2_apart_24 ?_
  refine S_al0 qX2_apart_25 ?_
  refine S_getH qX2_apart_26 fX2_30 (F_2 hf) ?_
  refine S_getI qX2_apart_29 fX2_47 (H_0 hh) ?_
  refine S_il3 qX2_apart_32 ?_
  refine S_isub qX2_apart_33 ?_
  refine S_S2E hD qX2_apart_34 lX2_92 sJ9_min_7cf53 (c_min (by omega) (by omega)) (K := ?_)
  refine S_iret hz qX2_apart_37 ?_
  exact RE.mk rfl
