def firB (wa : Int → Int) (d : Int) : Bool := allN (fun o => decide (wa (8 * o) ≠ wa (8 * d))) d.toNat
def manS (wa : Int → Int) : Nat → Int → Int → Int
  | 0, _, c => c
  | n + 1, d, c => manS wa n (d + 1) (if firB wa d then c + 1 else c)
def manF (s : FS) : Int := manS s.2.2.2.2.2.1 s.1.toNat 0 0
def cntS (wa : Int → Int) : Nat → Int → (Int → Int) → Int → Int
  | 0, _, r => r
  | n + 1, d, r => cntS wa n (d + 1) (ur r (wa (8 * d)) (r (wa (8 * d)) + 1))
theorem allN_s {p : Int → Bool} {o : Int} (h : 0 ≤ o) : allN p (o + 1).toNat = (allN p o.toNat && p o) := by
  rw [show (o + 1).toNat = o.toNat + 1 by omega]
  show (allN p o.toNat && p (o.toNat : Int)) = _
  rw [Int.toNat_of_nonneg h]
theorem b2i_c (b : Bool) : b2i b = 0 ∨ b2i b = 1 := by cases b <;> simp [b2i]

theorem taken_in {g : GC} {X : CX} {f : Nat} {V : MM} {c d : Int} (hf : isF f) (hn : 0 ≤ V f 0 ∧ V f 0 ≤ 6) (hwa : ∀ i : Int, 0 ≤ i ∧ i < 48 → 0 ≤ V (f + 4) i ∧ V (f + 4) i < 99) (rd : 0 ≤ d ∧ d < V f 0) (hD : Dp X 3) (hk : SW g X RX2 cX2_placesTaken 47 [some (vr f), some (vi c), some (vi d), some (vi (b2i (firB (V (f + 4)) d))), none] [] V) : ∀ (n : Nat) (o : Int), 0 ≤ o → o + n = d → SW g X RX2 cX2_placesTaken 17 [some (vr f), some (vi c), some (vi d), some (vi (b2i (allN (fun o => decide (V (f + 4) (8 * o) ≠ V (f + 4) (8 * d))) o.toNat))), some (vi o)] [] V := by
  have w0 := hwa (8 * d) (by omega)
  intro n
  induction n with
  | zero =>
    intro o h0 h1
    have e : o = d := by omega
    subst e
    refine S_il4 qX2_placesTaken_17 ?_
    refine S_il2 qX2_placesTaken_19 ?_
    refine S_icmp_ge (d := qX2_placesTaken_20) (kt := fun c20 => ?_) (kf := fun c20 => ?_)
    rotate_left
    · omega
    exact SW.forget 4 hk
  | succ n ih =>
    intro o h0 h1
    have w1 := hwa (8 * o) (by omega)
    have ih2 := ih (o + 1) (by omega) (by omega)
    rw [allN_s h0] at ih2
    refine S_il4 qX2_placesTaken_17 ?_
    refine S_il2 qX2_placesTaken_19 ?_
    refine S_icmp_ge (d := qX2_placesTaken_20) (kt := fun c20 => ?_) (kf := fun c20 => ?_)
    · omega
    refine S_al0 qX2_placesTaken_23 ?_
    refine S_il4 qX2_placesTaken_24 ?_
    refine S_iconst qX2_placesTaken_26 ?_
    refine S_V2E hD qX2_placesTaken_27 lX2_68 vX2_wasOf (F_r hf) (c_was0 hf (by omega) (by omega)) (K := ?_)
    refine S_al0 qX2_placesTaken_30 ?_
    refine S_il2 qX2_placesTaken_31 ?_
    refine S_iconst qX2_placesTaken_32 ?_
    refine S_V2E hD qX2_placesTaken_33 lX2_68 vX2_wasOf (F_r hf) (c_was0 hf (by omega) (by omega)) (K := ?_)
    refine S_icmp_ne (d := qX2_placesTaken_36) (kt := fun c36 => ?_) (kf := fun c36 => ?_)
    · refine S_inc4 qX2_placesTaken_41 (K := ?_)
      refine S_goto qX2_placesTaken_44 ?_
      first
        | (rw [decide_eq_true (p := V (f + 4) (8 * o) ≠ V (f + 4) (8 * d)) (by omega), Bool.and_true] at ih2; exact ih2)
        | (rw [decide_eq_false (p := V (f + 4) (8 * o) ≠ V (f + 4) (8 * d)) (by omega), Bool.and_false] at ih2; exact ih2)
    · refine S_iconst qX2_placesTaken_39 ?_
      refine S_is3 qX2_placesTaken_40 (K := ?_)
      refine S_inc4 qX2_placesTaken_41 (K := ?_)
      refine S_goto qX2_placesTaken_44 ?_
      first
        | (rw [decide_eq_true (p := V (f + 4) (8 * o) ≠ V (f + 4) (8 * d)) (by omega), Bool.and_true] at ih2; exact ih2)
        | (rw [decide_eq_false (p := V (f + 4) (8 * o) ≠ V (f + 4) (8 * d)) (by omega), Bool.and_false] at ih2; exact ih2)
theorem taken_out {g : GC} {X : CX} {Q : Option AV → MM → Prop} {f : Nat} {V : MM} {xf : Int} (hf : isF f) (hn : 0 ≤ V f 0 ∧ V f 0 ≤ 6) (hwa : ∀ i : Int, 0 ≤ i ∧ i < 48 → 0 ≤ V (f + 4) i ∧ V (f + 4) i < 99) (hz : Fi g X (some .int) Q) (hD : Dp X 3) (hQ : Q (some (vi xf)) V) : ∀ (n : Nat) (d c : Int), 0 ≤ d → d + n = V f 0 → manS (V (f + 4)) n d c = xf → SW g X RX2 cX2_placesTaken 4 [some (vr f), some (vi c), some (vi d), none, none] [] V := by
  intro n
  induction n with
  | zero =>
    intro d c h0 h1 hx
    unfold manS at hx
    subst hx
    refine S_il2 qX2_placesTaken_4 ?_
    refine S_al0 qX2_placesTaken_5 ?_
    refine S_getI qX2_placesTaken_6 fX2_34 (F_0 hf) ?_
    refine S_icmp_ge (d := qX2_placesTaken_9) (kt := fun c9 => ?_) (kf := fun c9 => ?_)
    rotate_left
    · omega
    refine S_il1 qX2_placesTaken_60 ?_
    refine S_iret hz qX2_placesTaken_61 ?_
    exact hQ
  | succ n ih =>
    intro d c h0 h1 hx
    unfold manS at hx
    have hb := b2i_c (firB (V (f + 4)) d)
    refine S_il2 qX2_placesTaken_4 ?_
    refine S_al0 qX2_placesTaken_5 ?_
    refine S_getI qX2_placesTaken_6 fX2_34 (F_0 hf) ?_
    refine S_icmp_ge (d := qX2_placesTaken_9) (kt := fun c9 => ?_) (kf := fun c9 => ?_)
    · omega
    refine S_iconst qX2_placesTaken_12 ?_
    refine S_is3 qX2_placesTaken_13 (K := ?_)
    refine S_iconst qX2_placesTaken_14 ?_
    refine S_is4 qX2_placesTaken_15 (K := ?_)
    refine taken_in hf hn hwa (by omega) hD ?_ d.toNat 0 (by omega) (by omega)
    refine S_il3 qX2_placesTaken_47 ?_
    refine S_if_eq (d := qX2_placesTaken_48) (kt := fun c48 => ?_) (kf := fun c48 => ?_)
    · refine S_inc2 qX2_placesTaken_54 (K := ?_)
      refine S_goto qX2_placesTaken_57 ?_
      refine SW.forget 3 (ih (d + 1) _ (by omega) (by omega) ?_)
      rw [← hx]
      congr 1
      cases hq : firB (V (f + 4)) d <;> rw [hq] at c48 <;> first | rfl | (exact absurd c48 (by decide)) | (exact absurd rfl c48)
    · refine S_inc1 qX2_placesTaken_51 (K := ?_)
      refine S_inc2 qX2_placesTaken_54 (K := ?_)
      refine S_goto qX2_placesTaken_57 ?_
      refine SW.forget 3 (ih (d + 1) _ (by omega) (by omega) ?_)
      rw [← hx]
      congr 1
      cases hq : firB (V (f + 4)) d <;> rw [hq] at c48 <;> first | rfl | (exact absurd c48 (by decide)) | (exact absurd rfl c48)
theorem c_placesTaken {g : GC} {f : Nat} {V : MM} {hs : HS} {s : FS} (hF : FlC V f hs s) : Ct g mX2_placesTaken 3 [vr f] V (RE V (manF s)) := by
  refine Ct.of (ls := [some (vr f), none, none, none, none]) (plainFor_of_name (by decide +kernel)) rfl (by exact Nat.le_of_ble_eq_true rfl) (fun X hz hD => ?_)
  obtain ⟨hf, rfl, hn, hb, hkv, hfo, hwa, hro, hH, hh0, rfl⟩ := hF.facts
  have hw := hH.2.1
  have hwa9 : ∀ i : Int, 0 ≤ i ∧ i < 48 → 0 ≤ V (f + 4) i ∧ V (f + 4) i < 99 := fun i hi => by have := hwa i hi; omega
  refine S_iconst qX2_placesTaken_0 ?_
  refine S_is1 qX2_placesTaken_1 (K := ?_)
  refine S_iconst qX2_placesTaken_2 ?_
  refine S_is2 qX2_placesTaken_3 (K := ?_)
  exact taken_out hf hn hwa9 hz hD ⟨rfl, rfl⟩ (V f 0).toNat 0 0 (by omega) (by omega) rfl

theorem count_loop {g : GC} {X : CX} {Q : Option AV → MM → Prop} {f : Nat} {V : MM} {rf : Int → Int} (hf : isF f) (hn : 0 ≤ V f 0 ∧ V f 0 ≤ 6) (hwa : ∀ i : Int, 0 ≤ i ∧ i < 48 → 0 ≤ V (f + 4) i ∧ V (f + 4) i < 99) (hz : Fi g X none Q) (hD : Dp X 3) (hQ : Q none (upR V 3 rf)) : ∀ (n : Nat) (d : Int) (r : Int → Int) (V1 : MM), 0 ≤ d → d + n = V f 0 → cntS (V (f + 4)) n d r = rf → V1 = upR V 3 r → SW g X RX2 cX2_countStanding 2 [some (vr f), some (vr 3), some (vi d), none] [] V1 := by
  have hfb := isF_b hf
  intro n
  induction n with
  | zero =>
    intro d r V1 h0 h1 hx hV
    have e0 : V1 f = V f := by rw [hV, upR_n _ (by omega)]
    have e1 := congrFun e0 0
    unfold cntS at hx
    subst hx
    refine S_il2 qX2_countStanding_2 ?_
    refine S_al0 qX2_countStanding_3 ?_
    refine S_getI qX2_countStanding_4 fX2_34 (F_0 hf) ?_
    refine S_icmp_ge (d := qX2_countStanding_7) (kt := fun c7 => ?_) (kf := fun c7 => ?_)
    rotate_left
    · omega
    refine S_vret hz qX2_countStanding_40 ?_
    rw [hV]
    exact hQ
  | succ n ih =>
    intro d r V1 h0 h1 hx hV
    have e0 : V1 f = V f := by rw [hV, upR_n _ (by omega)]
    have e1 := congrFun e0 0
    have e4 : V1 (f + 4) = V (f + 4) := by rw [hV, upR_n _ (by omega)]
    have e5 := congrFun e4 (8 * d)
    have e3 : V1 3 = r := by rw [hV, upR_s]
    have w1 := hwa (8 * d) (by omega)
    unfold cntS at hx
    refine S_il2 qX2_countStanding_2 ?_
    refine S_al0 qX2_countStanding_3 ?_
    refine S_getI qX2_countStanding_4 fX2_34 (F_0 hf) ?_
    refine S_icmp_ge (d := qX2_countStanding_7) (kt := fun c7 => ?_) (kf := fun c7 => ?_)
    · omega
    refine S_al0 qX2_countStanding_10 ?_
    refine S_il2 qX2_countStanding_11 ?_
    refine S_iconst qX2_countStanding_12 ?_
    refine S_V2E hD qX2_countStanding_13 lX2_68 vX2_wasOf (F_r hf) (c_was0 hf (by omega) (by omega)) (K := ?_)
    refine S_is3 qX2_countStanding_16 (K := ?_)
    refine S_il3 qX2_countStanding_17 ?_
    refine S_if_lt (d := qX2_countStanding_18) (kt := fun c18 => ?_) (kf := fun c18 => ?_)
    · omega
    refine S_il3 qX2_countStanding_21 ?_
    refine S_al1 qX2_countStanding_22 ?_
    refine S_alen qX2_countStanding_23 a3 ?_
    refine S_icmp_ge (d := qX2_countStanding_24) (kt := fun c24 => ?_) (kf := fun c24 => ?_)
    · (exfalso; simp only at c24; omega)
    refine S_al1 qX2_countStanding_27 ?_
    refine S_il3 qX2_countStanding_28 ?_
    refine S_dup2 (d := qX2_countStanding_29) (k := ?_)
    refine S_iald qX2_countStanding_30 a3 (K := ?_)
    refine S_iconst qX2_countStanding_31 ?_
    refine S_iadd qX2_countStanding_32 ?_
    refine S_iast qX2_countStanding_33 a3 (K := ?_)
    refine S_inc2 qX2_countStanding_34 (K := ?_)
    refine S_goto qX2_countStanding_37 ?_
    refine SW.forget 3 (ih (d + 1) _ _ (by omega) (by omega) hx ?_)
    rw [e3, e5, hV, upR_u]
theorem c_countStanding {g : GC} {f : Nat} {V : MM} {hs : HS} {s : FS} (hF : FlC V f hs s) : Ct g mX2_countStanding 3 [vr f, vr 3] V (RW (upR V 3 (cntS s.2.2.2.2.2.1 s.1.toNat 0 (V 3)))) := by
  refine Ct.of (ls := [some (vr f), some (vr 3), none, none]) (plainFor_of_name (by decide +kernel)) rfl (by exact Nat.le_of_ble_eq_true rfl) (fun X hz hD => ?_)
  obtain ⟨hf, rfl, hn, hb, hkv, hfo, hwa, hro, hH, hh0, rfl⟩ := hF.facts
  have hw := hH.2.1
  have hwa9 : ∀ i : Int, 0 ≤ i ∧ i < 48 → 0 ≤ V (f + 4) i ∧ V (f + 4) i < 99 := fun i hi => by have := hwa i hi; omega
  refine S_iconst qX2_countStanding_0 ?_
  refine S_is2 qX2_countStanding_1 (K := ?_)
  exact count_loop hf hn hwa9 hz hD ⟨rfl, rfl⟩ (V f 0).toNat 0 (V 3) V (by omega) (by omega) rfl (upR_id V 3).symm
