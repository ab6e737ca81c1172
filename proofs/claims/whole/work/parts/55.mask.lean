theorem man_rg (wa : Int → Int) : ∀ (n : Nat) (d c : Int), c ≤ manS wa n d c ∧ manS wa n d c ≤ c + n := by
  intro n
  induction n with
  | zero => intro d c; unfold manS; omega
  | succ n ih =>
    intro d c
    unfold manS
    by_cases h : firB wa d = true
    · rw [if_pos h]; have := ih (d + 1) (c + 1); omega
    · rw [if_neg h]; have := ih (d + 1) c; omega
theorem man_1 (wa : Int → Int) : ∀ (n : Nat) (d c : Int), manS wa n d c ≤ c ↔ ∀ j, d ≤ j ∧ j < d + n → ¬ firB wa j = true := by
  intro n
  induction n with
  | zero => intro d c; unfold manS; exact ⟨fun _ j hj => by omega, fun _ => Int.le_refl _⟩
  | succ n ih =>
    intro d c
    unfold manS
    by_cases h : firB wa d = true
    · rw [if_pos h]
      have := man_rg wa n (d + 1) (c + 1)
      refine ⟨fun q => by omega, fun q => absurd h (q d (by omega))⟩
    · rw [if_neg h, ih]
      refine ⟨fun q j hj => ?_, fun q j hj => q j (by omega)⟩
      by_cases e : j = d
      · rw [e]; exact h
      · exact q j (by omega)
theorem fir_j {wa : Int → Int} {d : Int} (hd : 0 ≤ d) : firB wa d = true ↔ ∀ o, 0 ≤ o ∧ o < d → wa (8 * o) ≠ wa (8 * d) := by
  unfold firB
  rw [allN_I hd]
  simp only [decide_eq_true_eq]
theorem man_tog {s : FS} (hn : 0 ≤ s.1) : manF s ≤ 1 ↔ togB s = true := by
  have ht : togB s = true ↔ ∀ d : Int, 0 ≤ d ∧ d < s.1 → s.2.2.2.2.2.1 (8 * d) = s.2.2.2.2.2.1 0 := by
    unfold togB
    rw [allN_I hn]
    simp only [decide_eq_true_eq]
  rw [ht]
  unfold manF
  by_cases h0 : s.1 = 0
  · rw [h0]
    exact ⟨fun _ d hd => by omega, fun _ => by show (0 : Int) ≤ 1; omega⟩
  · have e : s.1.toNat = (s.1 - 1).toNat + 1 := by omega
    rw [e]
    unfold manS
    have f0 : firB s.2.2.2.2.2.1 0 = true := (fir_j (by omega)).mpr (fun o ho => by omega)
    rw [if_pos f0]
    show manS s.2.2.2.2.2.1 (s.1 - 1).toNat (0 + 1) (0 + 1) ≤ 0 + 1 ↔ _
    rw [man_1]
    constructor
    · intro h
      have key : ∀ (n : Nat) (d : Int), d = n → d < s.1 → s.2.2.2.2.2.1 (8 * d) = s.2.2.2.2.2.1 0 := by
        intro n
        induction n using Nat.strongRecOn with
        | ind n ih =>
          intro d hd hd2
          by_cases e0 : d = 0
          · rw [e0]; rfl
          · have h1 := h d (by omega)
            rw [fir_j (by omega)] at h1
            have h2 : ∃ o, (0 ≤ o ∧ o < d) ∧ s.2.2.2.2.2.1 (8 * o) = s.2.2.2.2.2.1 (8 * d) := Classical.byContradiction (fun q => h1 (fun o ho q2 => q ⟨o, ho, q2⟩))
            obtain ⟨o, ho, h3⟩ := h2
            rw [← h3]
            exact ih o.toNat (by omega) o (by omega) (by omega)
      exact fun d hd => key d.toNat d (by omega) hd.2
    · intro h j hj h1
      rw [fir_j (by omega)] at h1
      exact h1 0 (by omega) (by rw [h j (by omega)]; rfl)
theorem fst_neg (hs : HS) (P : FS → Bool) {a b : Int} (ha : a < 0) (hb : b < 0) : ∀ (n : Nat) (k : Int) (s : FS), 0 ≤ k → fstS hs P a n k s = fstS hs P b n k s := by
  intro n
  induction n with
  | zero => intro k s h; rfl
  | succ n ih =>
    intro k s h
    unfold fstS
    rw [decide_eq_false (show ¬ k = a by omega), decide_eq_false (show ¬ k = b by omega), ih (k + 1) _ (by omega)]
theorem Om.ke {V V' : MM} (h : Om V V') : Ke V V' := ⟨by rw [h 83 (by omega) (by omega) (by omega)], h 101 (by omega) (by omega) (by omega), h 102 (by omega) (by omega) (by omega)⟩

theorem tby_loop {g : GC} {X : CX} {Q : Option AV → MM → Prop} {V : MM} {hs : HS} {s0 : FS} {sb xf : Int} (hI0 : FInv hs.1 s0) (hsb : -5 ≤ sb ∧ sb ≤ 60) (hz : Fi g X (some .int) Q) (hD : Dp X 8) (hQ : ∀ V', Tm V V' → FM V' hs s0 → Q (some (vi xf)) V') : ∀ (n : Nat) (k : Int) (V1 : MM) (s1 : FS), 0 ≤ k → k + n = 61 → Tm V V1 → FM V1 hs s1 → KM V1 s0 → Sk s0 s1 → fstS hs togB sb n k s1 = xf → s1.2.1 + n ≤ 20000 → SW g X RX7 cX7_togetherBy 6 [some (vr 83), some (vi sb), some (vi k)] [] V1 := by
  intro n
  induction n with
  | zero =>
    intro k V1 s1 h0 h1 hT M K S hx hb
    unfold fstS at hx
    subst hx
    refine S_il2 qX7_togetherBy_6 ?_
    refine S_bipush (d := qX7_togetherBy_7) (k := ?_)
    refine S_icmp_ge (d := qX7_togetherBy_9) (kt := fun c9 => ?_) (kf := fun c9 => ?_)
    rotate_left
    · omega
    refine S_al0 qX7_togetherBy_43 ?_
    refine S_V0V hD qX7_togetherBy_44 lX7_312 vX7_putBack r83 (m_putBack M K S hI0) (kk := fun V44 h44 => ?_)
    obtain ⟨M, hT44⟩ := h44
    have hT := hT.tr hT44
    refine S_il2 qX7_togetherBy_47 ?_
    refine S_bipush (d := qX7_togetherBy_48) (k := ?_)
    refine S_icmp_ge (d := qX7_togetherBy_50) (kt := fun c50 => ?_) (kf := fun c50 => ?_)
    rotate_left
    · omega
    refine S_bipush (d := qX7_togetherBy_57) (k := ?_)
    refine S_iret hz qX7_togetherBy_59 ?_
    exact hQ _ hT M
  | succ n ih =>
    intro k V1 s1 h0 h1 hT M K S hx hb
    have hn6 := M.2.2.2.1
    have mr := man_rg s1.2.2.2.2.2.1 s1.1.toNat 0 0
    have mt := man_tog hn6.1
    replace mr : 0 ≤ manF s1 ∧ manF s1 ≤ 0 + (s1.1.toNat : Int) := mr
    unfold fstS at hx
    refine S_il2 qX7_togetherBy_6 ?_
    refine S_bipush (d := qX7_togetherBy_7) (k := ?_)
    refine S_icmp_ge (d := qX7_togetherBy_9) (kt := fun c9 => ?_) (kf := fun c9 => ?_)
    · omega
    refine S_al0 qX7_togetherBy_12 ?_
    refine S_V0I hD qX7_togetherBy_13 lX7_296 vX7_many r83 (m_many M) (kk := fun z13 V13 h13 => ?_)
    obtain ⟨rfl, hO13⟩ := h13
    have M := M.om hO13
    have hT := hT.tr hO13.og.tm
    have K := K.ke hO13.ke
    refine S_iconst qX7_togetherBy_16 ?_
    refine S_icmp_le (d := qX7_togetherBy_17) (kt := fun c17 => ?_) (kf := fun c17 => ?_)
    · refine S_al0 qX7_togetherBy_43 ?_
      refine S_V0V hD qX7_togetherBy_44 lX7_312 vX7_putBack r83 (m_putBack M K S hI0) (kk := fun V44 h44 => ?_)
      obtain ⟨M, hT44⟩ := h44
      have hT := hT.tr hT44
      refine S_il2 qX7_togetherBy_47 ?_
      refine S_bipush (d := qX7_togetherBy_48) (k := ?_)
      refine S_icmp_ge (d := qX7_togetherBy_50) (kt := fun c50 => ?_) (kf := fun c50 => ?_)
      · omega
      refine S_il2 qX7_togetherBy_53 ?_
      refine S_goto qX7_togetherBy_54 ?_
      refine S_iret hz qX7_togetherBy_59 ?_
      rw [if_pos (mt.mp c17)] at hx
      subst hx
      exact hQ _ hT M
    · refine S_il2 qX7_togetherBy_20 ?_
      refine S_il1 qX7_togetherBy_21 ?_
      refine S_icmp_ne (d := qX7_togetherBy_22) (kt := fun c22 => ?_) (kf := fun c22 => ?_)
      · refine S_al0 qX7_togetherBy_33 ?_
        refine S_V0V hD qX7_togetherBy_34 lX7_306 vX7_go r83 (m_go M (by omega)) (kk := fun V34 h34 => ?_)
        obtain ⟨M, hT34, hK34⟩ := h34
        have hT := hT.tr hT34
        have K := K.ke hK34
        refine S_inc2 qX7_togetherBy_37 (K := ?_)
        refine S_goto qX7_togetherBy_40 ?_
        rw [if_neg (fun q => by have := mt.mpr q; omega)] at hx
        first
          | (rw [decide_eq_true c22] at hx
             exact ih (k + 1) _ _ (by omega) (by omega) hT M K (S.go hs true) hx (by show s1.2.1 + 1 + (n : Int) ≤ 20000; omega))
          | (rw [decide_eq_false c22] at hx
             exact ih (k + 1) _ _ (by omega) (by omega) hT M K (S.go hs false) hx (by show s1.2.1 + 1 + (n : Int) ≤ 20000; omega))
      · refine S_al0 qX7_togetherBy_25 ?_
        refine S_iconst qX7_togetherBy_26 ?_
        refine S_V1V hD qX7_togetherBy_27 lX7_299 vX7_goBeat r83 (m_beat1 M (by omega)) (kk := fun V27 h27 => ?_)
        obtain ⟨M, hT27, hK27⟩ := h27
        have hT := hT.tr hT27
        have K := K.ke hK27
        refine S_goto qX7_togetherBy_30 ?_
        refine S_inc2 qX7_togetherBy_37 (K := ?_)
        refine S_goto qX7_togetherBy_40 ?_
        rw [if_neg (fun q => by have := mt.mpr q; omega)] at hx
        first
          | (rw [decide_eq_true c22] at hx
             exact ih (k + 1) _ _ (by omega) (by omega) hT M K (S.go hs true) hx (by show s1.2.1 + 1 + (n : Int) ≤ 20000; omega))
          | (rw [decide_eq_false c22] at hx
             exact ih (k + 1) _ _ (by omega) (by omega) hT M K (S.go hs false) hx (by show s1.2.1 + 1 + (n : Int) ≤ 20000; omega))
theorem m_tby {g : GC} {V : MM} {hs : HS} {s : FS} {sb : Int} (M : FM V hs s) (hb : s.2.1 ≤ 10000) (hsb : -5 ≤ sb ∧ sb ≤ 60) : Ct g mX7_togetherBy 8 [vr 83, vi sb] V (RI (fun z V' => z = tiS hs s sb 60 ∧ FM V' hs s ∧ Tm V V')) := by
  refine Ct.of (ls := [some (vr 83), some (vi sb), none]) (plainFor_of_name (by decide +kernel)) rfl (by exact Nat.le_of_ble_eq_true rfl) (fun X hz hD => ?_)
  have hI0 := M.2.2.2
  have hT := Tm.rf V
  refine S_al0 qX7_togetherBy_0 ?_
  refine S_V0V hD qX7_togetherBy_1 lX7_309 vX7_save r83 (m_save M) (kk := fun V1 h1 => ?_)
  obtain ⟨M, hT1, K⟩ := h1
  have hT := hT.tr hT1
  refine S_iconst qX7_togetherBy_4 ?_
  refine S_is2 qX7_togetherBy_5 (K := ?_)
  exact tby_loop hI0 hsb hz hD (fun V' a b => ⟨_, rfl, rfl, b, a⟩) 61 0 _ _ (by omega) (by omega) hT M K (Sk.rf s) rfl (by omega)

theorem MA.pf {V : MM} {Z : ZT} (hZ : MA V Z) : FM V Z.2.1 Z.1 ∧ FInv Z.2.1.1 Z.1 ∧ (0 ≤ Z.1.1 ∧ Z.1.1 ≤ 6) ∧ (0 ≤ Z.1.2.1 ∧ Z.1.2.1 ≤ 9999) ∧ (1 ≤ Z.2.1.1 ∧ Z.2.1.1 ≤ 99) ∧ (0 ≤ Z.2.1.2.1 ∧ Z.2.1.2.1 ≤ 99) := by
  obtain ⟨M, hb⟩ := hZ.1
  have hI := M.2.2.2
  exact ⟨M, hI, hI.1, ⟨hI.2.1.1, hb⟩, M.hw.1, M.hw.2⟩
theorem ti_neg (hs : HS) (s : FS) {a b : Int} (ha : a < 0) (hb : b < 0) (m : Int) : tiS hs s a m = tiS hs s b m := fst_neg hs togB ha hb _ _ _ (Int.le_refl _)

theorem m_together {g : GC} {V : MM} {Z : ZT} (hZ : MA V Z) : Ct g mX7_together 9 [vr 83] V (RM V (oTog Z) Z) := by
  refine Ct.of (ls := [some (vr 83)]) (plainFor_of_name (by decide +kernel)) rfl (by exact Nat.le_of_ble_eq_true rfl) (fun X hz hD => ?_)
  obtain ⟨M, hI0, hn6, hbb, hwz, hkz⟩ := hZ.pf
  have hT := Tm.rf V
  refine S_al0 qX7_together_0 ?_
  refine S_iconst qX7_together_1 ?_
  refine S_V1I hD qX7_together_2 lX7_318 vX7_togetherBy r83 (m_tby M (by omega) (by omega)) (kk := fun z2 V2 h2 => ?_)
  obtain ⟨rfl, M, hT2⟩ := h2
  have hT := hT.tr hT2
  refine S_iret hz qX7_together_5 ?_
  refine RM.tm hZ hT M ?_
  exact ti_neg _ _ (by omega) (by omega) _

theorem mon_loop {g : GC} {X : CX} {Q : Option AV → MM → Prop} {V : MM} {Z : ZT} {m w : Int} {sf : FS} (hI0 : FInv Z.2.1.1 Z.1) (hn : 0 ≤ Z.1.1 ∧ Z.1.1 ≤ 6) (rm : 0 ≤ m ∧ m ≤ 60) (hw : w = 0 ∨ 10 ≤ w ∧ w - 10 < Z.1.1) (hz : Fi g X (some .int) Q) (hD : Dp X 8) (hQ : ∀ V', Tm V V' → FM V' Z.2.1 Z.1 → Q (some (vi (plaS sf w))) V') : ∀ (n : Nat) (i : Int) (V1 : MM) (s1 : FS), 0 ≤ i → i + n = m → Tm V V1 → FM V1 Z.2.1 s1 → KM V1 Z.1 → Sk Z.1 s1 → goN Z.2.1 n s1 = sf → s1.2.1 + n ≤ 20000 → SW g X RX7 cX7_on 40 [some (vr 83), some (vi m), some (vi w), some (vi i)] [] V1 := by
  intro n
  induction n with
  | zero =>
    intro i V1 s1 h0 h1 hT M K S hx hb
    unfold goN at hx
    subst hx
    have hS1 := S.1
    refine S_il3 qX7_on_40 ?_
    refine S_il1 qX7_on_41 ?_
    refine S_icmp_ge (d := qX7_on_42) (kt := fun c42 => ?_) (kf := fun c42 => ?_)
    rotate_left
    · omega
    refine S_il2 qX7_on_55 ?_
    refine S_if_ne (d := qX7_on_56) (kt := fun c56 => ?_) (kf := fun c56 => ?_)
    · refine S_al0 qX7_on_66 ?_
      refine S_getR qX7_on_67 fX7_29 e83_6 ?_
      refine S_bipush (d := qX7_on_70) (k := ?_)
      refine S_il2 qX7_on_72 ?_
      refine S_bipush (d := qX7_on_73) (k := ?_)
      refine S_isub qX7_on_75 ?_
      refine S_imul qX7_on_76 ?_
      refine S_iald qX7_on_77 a88 (K := ?_)
      first | (rw [M.w88]) | skip
      refine S_is3 qX7_on_78 (K := ?_)
      refine S_al0 qX7_on_79 ?_
      refine S_V0V hD qX7_on_80 lX7_312 vX7_putBack r83 (m_putBack M K S hI0) (kk := fun V80 h80 => ?_)
      obtain ⟨M, hT80⟩ := h80
      have hT := hT.tr hT80
      refine S_il3 qX7_on_83 ?_
      refine S_iret hz qX7_on_84 ?_
      have h5 := hQ _ hT M
      unfold plaS at h5
      first
        | (rw [if_pos (by omega)] at h5; exact h5)
        | (rw [if_neg (by omega)] at h5; exact h5)
    · refine S_al0 qX7_on_59 ?_
      refine S_V0I hD qX7_on_60 lX7_296 vX7_many r83 (m_many M) (kk := fun z60 V60 h60 => ?_)
      obtain ⟨rfl, hO60⟩ := h60
      have M := M.om hO60
      have hT := hT.tr hO60.og.tm
      have K := K.ke hO60.ke
      refine S_goto qX7_on_63 ?_
      first | (rw [M.w88]) | skip
      refine S_is3 qX7_on_78 (K := ?_)
      refine S_al0 qX7_on_79 ?_
      refine S_V0V hD qX7_on_80 lX7_312 vX7_putBack r83 (m_putBack M K S hI0) (kk := fun V80 h80 => ?_)
      obtain ⟨M, hT80⟩ := h80
      have hT := hT.tr hT80
      refine S_il3 qX7_on_83 ?_
      refine S_iret hz qX7_on_84 ?_
      have h5 := hQ _ hT M
      unfold plaS at h5
      first
        | (rw [if_pos (by omega)] at h5; exact h5)
        | (rw [if_neg (by omega)] at h5; exact h5)
  | succ n ih =>
    intro i V1 s1 h0 h1 hT M K S hx hb
    unfold goN at hx
    refine S_il3 qX7_on_40 ?_
    refine S_il1 qX7_on_41 ?_
    refine S_icmp_ge (d := qX7_on_42) (kt := fun c42 => ?_) (kf := fun c42 => ?_)
    · omega
    refine S_al0 qX7_on_45 ?_
    refine S_V0V hD qX7_on_46 lX7_306 vX7_go r83 (m_go M (by omega)) (kk := fun V46 h46 => ?_)
    obtain ⟨M, hT46, hK46⟩ := h46
    have hT := hT.tr hT46
    have K := K.ke hK46
    refine S_inc3 qX7_on_49 (K := ?_)
    refine S_goto qX7_on_52 ?_
    exact ih (i + 1) _ _ (by omega) (by omega) hT M K (S.go Z.2.1 false) hx (by show s1.2.1 + 1 + (n : Int) ≤ 20000; omega)
theorem m_on {g : GC} {V : MM} {Z : ZT} {m w : Int} (hZ : MA V Z) (rm : -2147483648 ≤ m ∧ m ≤ 2147483647) (rw : -2147483648 ≤ w ∧ w ≤ 2147483647) : Ct g mX7_on 8 [vr 83, vi m, vi w] V (RM V (oOn Z m w) Z) := by
  refine Ct.of (ls := [some (vr 83), some (vi m), some (vi w), none]) (plainFor_of_name (by decide +kernel)) rfl (by exact Nat.le_of_ble_eq_true rfl) (fun X hz hD => ?_)
  obtain ⟨M, hI0, hn6, hbb, hwz, hkz⟩ := hZ.pf
  have hT := Tm.rf V
  refine S_il2 qX7_on_0 ?_
  refine S_if_eq (d := qX7_on_1) (kt := fun c1 => ?_) (kf := fun c1 => ?_)
  · refine S_al0 qX7_on_23 ?_
    refine S_il1 qX7_on_24 ?_
    refine S_V1B hD qX7_on_25 lX7_303 vX7_isBeats r83 (m_isBeats (by omega)) (kt := fun j25 => ?_) (kf := fun j25 => ?_)
    · refine S_if_ne (d := qX7_on_28) (kt := fun _ => ?_) (kf := fun c => absurd c (by decide))
      refine S_al0 qX7_on_34 ?_
      refine S_V0V hD qX7_on_35 lX7_309 vX7_save r83 (m_save M) (kk := fun V35 h35 => ?_)
      obtain ⟨M, hT35, K⟩ := h35
      have hT := hT.tr hT35
      refine S_iconst qX7_on_38 ?_
      refine S_is3 qX7_on_39 (K := ?_)
      refine mon_loop (sf := goN Z.2.1 m.toNat Z.1) hI0 hn6 (by omega) (by omega) hz hD (fun V' a b => RM.tm hZ a b ?_) m.toNat 0 _ _ (by omega) (by omega) hT M K (Sk.rf _) rfl (by omega)
      symm
      unfold oOn
      rw [if_neg (by omega), if_neg (by omega)]
    · refine S_if_ne (d := qX7_on_28) (kt := fun c => absurd c (by decide)) (kf := fun _ => ?_)
      refine S_bipush (d := qX7_on_31) (k := ?_)
      refine S_iret hz qX7_on_33 ?_
      refine RM.same hZ ?_
      unfold oOn
      first | (rw [if_pos (by omega)]; done) | (rw [if_neg (by omega), if_pos (by omega)]; done) | (rw [if_neg (by omega), if_neg (by omega), if_pos (by omega)]; done)
  · refine S_al0 qX7_on_4 ?_
    refine S_il2 qX7_on_5 ?_
    refine S_bipush (d := qX7_on_6) (k := ?_)
    refine S_bipush (d := qX7_on_8) (k := ?_)
    refine S_al0 qX7_on_10 ?_
    refine S_getI qX7_on_11 fX7_7 e83_0 ?_
    rw [M.n]
    refine S_iadd qX7_on_14 ?_
    refine S_V3B hD qX7_on_15 lX7_206 vX7_in r83 (m_in (by omega) (by omega) (by omega)) (kt := fun j15 => ?_) (kf := fun j15 => ?_)
    · refine S_if_ne (d := qX7_on_18) (kt := fun _ => ?_) (kf := fun c => absurd c (by decide))
      refine S_al0 qX7_on_23 ?_
      refine S_il1 qX7_on_24 ?_
      refine S_V1B hD qX7_on_25 lX7_303 vX7_isBeats r83 (m_isBeats (by omega)) (kt := fun j25 => ?_) (kf := fun j25 => ?_)
      · refine S_if_ne (d := qX7_on_28) (kt := fun _ => ?_) (kf := fun c => absurd c (by decide))
        refine S_al0 qX7_on_34 ?_
        refine S_V0V hD qX7_on_35 lX7_309 vX7_save r83 (m_save M) (kk := fun V35 h35 => ?_)
        obtain ⟨M, hT35, K⟩ := h35
        have hT := hT.tr hT35
        refine S_iconst qX7_on_38 ?_
        refine S_is3 qX7_on_39 (K := ?_)
        refine mon_loop (sf := goN Z.2.1 m.toNat Z.1) hI0 hn6 (by omega) (by omega) hz hD (fun V' a b => RM.tm hZ a b ?_) m.toNat 0 _ _ (by omega) (by omega) hT M K (Sk.rf _) rfl (by omega)
        symm
        unfold oOn
        rw [if_neg (by omega), if_neg (by omega)]
      · refine S_if_ne (d := qX7_on_28) (kt := fun c => absurd c (by decide)) (kf := fun _ => ?_)
        refine S_bipush (d := qX7_on_31) (k := ?_)
        refine S_iret hz qX7_on_33 ?_
        refine RM.same hZ ?_
        unfold oOn
        first | (rw [if_pos (by omega)]; done) | (rw [if_neg (by omega), if_pos (by omega)]; done) | (rw [if_neg (by omega), if_neg (by omega), if_pos (by omega)]; done)
    · refine S_if_ne (d := qX7_on_18) (kt := fun c => absurd c (by decide)) (kf := fun _ => ?_)
      refine S_iconst qX7_on_21 ?_
      refine S_iret hz qX7_on_22 ?_
      refine RM.same hZ ?_
      unfold oOn
      first | (rw [if_pos (by omega)]; done) | (rw [if_neg (by omega), if_pos (by omega)]; done) | (rw [if_neg (by omega), if_neg (by omega), if_pos (by omega)]; done)

theorem mag_end {g : GC} {X : CX} {Q : Option AV → MM → Prop} {V : MM} {Z : ZT} {xf k : Int} {V1 : MM} {s1 : FS} (hI0 : FInv Z.2.1.1 Z.1) (rk : 1 ≤ xf ∧ xf ≤ 60 ∧ k = xf + 1) (hz : Fi g X (some .int) Q) (hD : Dp X 8) (hT : Tm V V1) (M : FM V1 Z.2.1 s1) (K : KM V1 Z.1) (S : Sk Z.1 s1) (hQ : ∀ V', Tm V V' → FM V' Z.2.1 Z.1 → Q (some (vi xf)) V') : SW g X RX7 cX7_again 9 [some (vr 83), some (vi xf), some (vi k)] [] V1 := by
  refine S_il2 qX7_again_9 ?_
  refine S_bipush (d := qX7_again_10) (k := ?_)
  refine S_icmp_ge (d := qX7_again_12) (kt := fun c12 => ?_) (kf := fun c12 => ?_)
  · refine S_al0 qX7_again_43 ?_
    refine S_V0V hD qX7_again_44 lX7_312 vX7_putBack r83 (m_putBack M K S hI0) (kk := fun V44 h44 => ?_)
    obtain ⟨M, hT44⟩ := h44
    have hT := hT.tr hT44
    refine S_il1 qX7_again_47 ?_
    refine S_iret hz qX7_again_48 ?_
    exact hQ _ hT M
  · refine S_il1 qX7_again_15 ?_
    refine S_if_ge (d := qX7_again_16) (kt := fun c16 => ?_) (kf := fun c16 => ?_)
    rotate_left
    · omega
    refine S_al0 qX7_again_43 ?_
    refine S_V0V hD qX7_again_44 lX7_312 vX7_putBack r83 (m_putBack M K S hI0) (kk := fun V44 h44 => ?_)
    obtain ⟨M, hT44⟩ := h44
    have hT := hT.tr hT44
    refine S_il1 qX7_again_47 ?_
    refine S_iret hz qX7_again_48 ?_
    exact hQ _ hT M
theorem mag_loop {g : GC} {X : CX} {Q : Option AV → MM → Prop} {V : MM} {Z : ZT} {xf : Int} (hZ : MA V Z) (hz : Fi g X (some .int) Q) (hD : Dp X 8) (hQ : ∀ V', Tm V V' → FM V' Z.2.1 Z.1 → Q (some (vi xf)) V') : ∀ (n : Nat) (k : Int) (V1 : MM) (s1 : FS), 1 ≤ k → k + n = 61 → Tm V V1 → FM V1 Z.2.1 s1 → KM V1 Z.1 → Sk Z.1 s1 → agnS Z.2.1 Z.1 n k s1 = xf → s1.2.1 + n ≤ 20000 → SW g X RX7 cX7_again 9 [some (vr 83), some (vi (-5)), some (vi k)] [] V1 := by
  obtain ⟨-, hI0, hn6, hbb, hwz, hkz⟩ := hZ.pf
  intro n
  induction n with
  | zero =>
    intro k V1 s1 h0 h1 hT M K S hx hb
    unfold agnS at hx
    subst hx
    refine S_il2 qX7_again_9 ?_
    refine S_bipush (d := qX7_again_10) (k := ?_)
    refine S_icmp_ge (d := qX7_again_12) (kt := fun c12 => ?_) (kf := fun c12 => ?_)
    rotate_left
    · omega
    refine S_al0 qX7_again_43 ?_
    refine S_V0V hD qX7_again_44 lX7_312 vX7_putBack r83 (m_putBack M K S hI0) (kk := fun V44 h44 => ?_)
    obtain ⟨M, hT44⟩ := h44
    have hT := hT.tr hT44
    refine S_il1 qX7_again_47 ?_
    refine S_iret hz qX7_again_48 ?_
    exact hQ _ hT M
  | succ n ih =>
    intro k V1 s1 h0 h1 hT M K S hx hb
    unfold agnS at hx
    refine S_il2 qX7_again_9 ?_
    refine S_bipush (d := qX7_again_10) (k := ?_)
    refine S_icmp_ge (d := qX7_again_12) (kt := fun c12 => ?_) (kf := fun c12 => ?_)
    · omega
    refine S_il1 qX7_again_15 ?_
    refine S_if_ge (d := qX7_again_16) (kt := fun c16 => ?_) (kf := fun c16 => ?_)
    · omega
    refine S_al0 qX7_again_19 ?_
    refine S_V0V hD qX7_again_20 lX7_306 vX7_go r83 (m_go M (by omega)) (kk := fun V20 h20 => ?_)
    obtain ⟨M, hT20, hK20⟩ := h20
    have hT := hT.tr hT20
    have K := K.ke hK20
    refine S_al0 qX7_again_23 ?_
    refine S_V0B hD qX7_again_24 lX7_315 vX7_isAsKept r83 (m_isAsKept (s0 := Z.1) M K.2.1 (fun i q => by have := hI0.2.2.2.2.1 i q; omega)) (kt := fun j24 => ?_) (kf := fun j24 => ?_)
    · refine S_if_eq (d := qX7_again_27) (kt := fun c => absurd c (by decide)) (kf := fun _ => ?_)
      refine S_il2 qX7_again_30 ?_
      refine S_goto qX7_again_31 ?_
      refine S_is1 qX7_again_36 (K := ?_)
      refine S_inc2 qX7_again_37 (K := ?_)
      refine S_goto qX7_again_40 ?_
      first
        | (rw [if_neg j24] at hx
           exact ih (k + 1) _ _ (by omega) (by omega) hT M K (S.go Z.2.1 false) hx (by show s1.2.1 + 1 + (n : Int) ≤ 20000; omega))
        | (rw [if_pos j24] at hx
           subst hx
           exact mag_end (hI0 := hI0) (by omega) hz hD hT M K (S.go Z.2.1 false) hQ)
    · refine S_if_eq (d := qX7_again_27) (kt := fun _ => ?_) (kf := fun c => absurd c (by decide))
      refine S_bipush (d := qX7_again_34) (k := ?_)
      refine S_is1 qX7_again_36 (K := ?_)
      refine S_inc2 qX7_again_37 (K := ?_)
      refine S_goto qX7_again_40 ?_
      first
        | (rw [if_neg j24] at hx
           exact ih (k + 1) _ _ (by omega) (by omega) hT M K (S.go Z.2.1 false) hx (by show s1.2.1 + 1 + (n : Int) ≤ 20000; omega))
        | (rw [if_pos j24] at hx
           subst hx
           exact mag_end (hI0 := hI0) (by omega) hz hD hT M K (S.go Z.2.1 false) hQ)
theorem m_again {g : GC} {V : MM} {Z : ZT} (hZ : MA V Z) : Ct g mX7_again 8 [vr 83] V (RM V (oAgain Z) Z) := by
  refine Ct.of (ls := [some (vr 83), none, none]) (plainFor_of_name (by decide +kernel)) rfl (by exact Nat.le_of_ble_eq_true rfl) (fun X hz hD => ?_)
  obtain ⟨M, hI0, hn6, hbb, hwz, hkz⟩ := hZ.pf
  have hT := Tm.rf V
  refine S_al0 qX7_again_0 ?_
  refine S_V0V hD qX7_again_1 lX7_309 vX7_save r83 (m_save M) (kk := fun V1 h1 => ?_)
  obtain ⟨M, hT1, K⟩ := h1
  have hT := hT.tr hT1
  refine S_bipush (d := qX7_again_4) (k := ?_)
  refine S_is1 qX7_again_6 (K := ?_)
  refine S_iconst qX7_again_7 ?_
  refine S_is2 qX7_again_8 (K := ?_)
  exact mag_loop hZ hz hD (fun V' a b => RM.tm hZ a b rfl) 60 1 _ _ (by omega) (by omega) hT M K (Sk.rf _) rfl (by omega)

theorem mst_loop {g : GC} {X : CX} {Q : Option AV → MM → Prop} {V : MM} {Z : ZT} {xf  : Int} (hZ : MA V Z) (hz : Fi g X (some .int) Q) (hD : Dp X 8) (hQ : ∀ V', Tm V V' → FM V' Z.2.1 Z.1 → Q (some (vi xf)) V') : ∀ (n : Nat) (k : Int) (V1 : MM) (s1 : FS), 0 ≤ k → k + n = 61 → Tm V V1 → FM V1 Z.2.1 s1 → KM V1 Z.1 → Sk Z.1 s1 → fstS Z.2.1 (stiB Z.2.1) (-5) n k s1 = xf → s1.2.1 + n ≤ 20000 → SW g X RX7 cX7_still 6 [some (vr 83), some (vi k)] [] V1 := by
  obtain ⟨-, hI0, hn6, hbb, hwz, hkz⟩ := hZ.pf
  intro n
  induction n with
  | zero =>
    intro k V1 s1 h0 h1 hT M K S hx hb
    unfold fstS at hx
    subst hx
    refine S_il1 qX7_still_6 ?_
    refine S_bipush (d := qX7_still_7) (k := ?_)
    refine S_icmp_ge (d := qX7_still_9) (kt := fun c9 => ?_) (kf := fun c9 => ?_)
    rotate_left
    · omega
    refine S_al0 qX7_still_29 ?_
    refine S_V0V hD qX7_still_30 lX7_312 vX7_putBack r83 (m_putBack M K S hI0) (kk := fun V30 h30 => ?_)
    obtain ⟨M, hT30⟩ := h30
    have hT := hT.tr hT30
    refine S_il1 qX7_still_33 ?_
    refine S_bipush (d := qX7_still_34) (k := ?_)
    refine S_icmp_ge (d := qX7_still_36) (kt := fun c36 => ?_) (kf := fun c36 => ?_)
    rotate_left
    · omega
    refine S_bipush (d := qX7_still_43) (k := ?_)
    refine S_iret hz qX7_still_45 ?_
    exact hQ _ hT M
  | succ n ih =>
    intro k V1 s1 h0 h1 hT M K S hx hb
    have dk : decide (k = (-5 : Int)) = false := decide_eq_false (by omega)
    unfold fstS at hx
    rw [dk] at hx
    refine S_il1 qX7_still_6 ?_
    refine S_bipush (d := qX7_still_7) (k := ?_)
    refine S_icmp_ge (d := qX7_still_9) (kt := fun c9 => ?_) (kf := fun c9 => ?_)
    · omega
    refine S_al0 qX7_still_12 ?_
    refine S_V0I hD qX7_still_13 lX7_321 vX7_isStill r83 (m_isStill M) (kk := fun z13 V13 h13 => ?_)
    obtain ⟨hq13, hO13⟩ := h13
    have M := M.om hO13
    have hT := hT.tr hO13.og.tm
    have K := K.ke hO13.ke
    rcases hq13 with ⟨rfl, hq13⟩ | ⟨rfl, hq13⟩
    · refine S_if_ne (d := qX7_still_16) (kt := fun _ => ?_) (kf := fun c => absurd c (by decide))
      refine S_al0 qX7_still_29 ?_
      refine S_V0V hD qX7_still_30 lX7_312 vX7_putBack r83 (m_putBack M K S hI0) (kk := fun V30 h30 => ?_)
      obtain ⟨M, hT30⟩ := h30
      have hT := hT.tr hT30
      refine S_il1 qX7_still_33 ?_
      refine S_bipush (d := qX7_still_34) (k := ?_)
      refine S_icmp_ge (d := qX7_still_36) (kt := fun c36 => ?_) (kf := fun c36 => ?_)
      · omega
      refine S_il1 qX7_still_39 ?_
      refine S_goto qX7_still_40 ?_
      refine S_iret hz qX7_still_45 ?_
      rw [if_pos hq13] at hx
      subst hx
      exact hQ _ hT M
    · refine S_if_ne (d := qX7_still_16) (kt := fun c => absurd c (by decide)) (kf := fun _ => ?_)
      refine S_al0 qX7_still_19 ?_
      refine S_V0V hD qX7_still_20 lX7_306 vX7_go r83 (m_go M (by omega)) (kk := fun V20 h20 => ?_)
      obtain ⟨M, hT20, hK20⟩ := h20
      have hT := hT.tr hT20
      have K := K.ke hK20
      refine S_inc1 qX7_still_23 (K := ?_)
      refine S_goto qX7_still_26 ?_
      rw [if_neg hq13] at hx
      exact ih (k + 1) _ _ (by omega) (by omega) hT M K (S.go Z.2.1 false) hx (by show s1.2.1 + 1 + (n : Int) ≤ 20000; omega)
theorem m_still {g : GC} {V : MM} {Z : ZT} (hZ : MA V Z) : Ct g mX7_still 8 [vr 83] V (RM V (oStill Z) Z) := by
  refine Ct.of (ls := [some (vr 83), none]) (plainFor_of_name (by decide +kernel)) rfl (by exact Nat.le_of_ble_eq_true rfl) (fun X hz hD => ?_)
  obtain ⟨M, hI0, hn6, hbb, hwz, hkz⟩ := hZ.pf
  have hT := Tm.rf V
  refine S_al0 qX7_still_0 ?_
  refine S_V0V hD qX7_still_1 lX7_309 vX7_save r83 (m_save M) (kk := fun V1 h1 => ?_)
  obtain ⟨M, hT1, K⟩ := h1
  have hT := hT.tr hT1
  refine S_iconst qX7_still_4 ?_
  refine S_is1 qX7_still_5 (K := ?_)
  exact mst_loop hZ hz hD (fun V' a b => RM.tm hZ a b rfl) 61 0 _ _ (by omega) (by omega) hT M K (Sk.rf _) rfl (by omega)

theorem mme_loop {g : GC} {X : CX} {Q : Option AV → MM → Prop} {V : MM} {Z : ZT} {xf a b : Int} (hZ : MA V Z) (ra : 0 ≤ a ∧ a < Z.1.1) (rb : 0 ≤ b ∧ b < Z.1.1) (hz : Fi g X (some .int) Q) (hD : Dp X 8) (hQ : ∀ V', Tm V V' → FM V' Z.2.1 Z.1 → Q (some (vi xf)) V') : ∀ (n : Nat) (k : Int) (V1 : MM) (s1 : FS), 0 ≤ k → k + n = 61 → Tm V V1 → FM V1 Z.2.1 s1 → KM V1 Z.1 → Sk Z.1 s1 → fstS Z.2.1 (fun s => decide (s.2.2.2.2.2.1 (8 * a) = s.2.2.2.2.2.1 (8 * b))) (-5) n k s1 = xf → s1.2.1 + n ≤ 20000 → SW g X RX7 cX7_meet 32 [some (vr 83), some (vi a), some (vi b), some (vi k)] [] V1 := by
  obtain ⟨-, hI0, hn6, hbb, hwz, hkz⟩ := hZ.pf
  intro n
  induction n with
  | zero =>
    intro k V1 s1 h0 h1 hT M K S hx hb
    unfold fstS at hx
    subst hx
    refine S_il3 qX7_meet_32 ?_
    refine S_bipush (d := qX7_meet_33) (k := ?_)
    refine S_icmp_ge (d := qX7_meet_35) (kt := fun c35 => ?_) (kf := fun c35 => ?_)
    rotate_left
    · omega
    refine S_al0 qX7_meet_69 ?_
    refine S_V0V hD qX7_meet_70 lX7_312 vX7_putBack r83 (m_putBack M K S hI0) (kk := fun V70 h70 => ?_)
    obtain ⟨M, hT70⟩ := h70
    have hT := hT.tr hT70
    refine S_il3 qX7_meet_73 ?_
    refine S_bipush (d := qX7_meet_74) (k := ?_)
    refine S_icmp_ge (d := qX7_meet_76) (kt := fun c76 => ?_) (kf := fun c76 => ?_)
    rotate_left
    · omega
    refine S_bipush (d := qX7_meet_83) (k := ?_)
    refine S_iret hz qX7_meet_85 ?_
    exact hQ _ hT M
  | succ n ih =>
    intro k V1 s1 h0 h1 hT M K S hx hb
    have dk : decide (k = (-5 : Int)) = false := decide_eq_false (by omega)
    have hI1 := M.2.2.2
    have w1 := hI1.2.2.2.2.1 (8 * a) (by omega)
    have w2 := hI1.2.2.2.2.1 (8 * b) (by omega)
    unfold fstS at hx
    rw [dk] at hx
    refine S_il3 qX7_meet_32 ?_
    refine S_bipush (d := qX7_meet_33) (k := ?_)
    refine S_icmp_ge (d := qX7_meet_35) (kt := fun c35 => ?_) (kf := fun c35 => ?_)
    · omega
    refine S_al0 qX7_meet_38 ?_
    refine S_getR qX7_meet_39 fX7_29 e83_6 ?_
    refine S_bipush (d := qX7_meet_42) (k := ?_)
    refine S_il1 qX7_meet_44 ?_
    refine S_imul qX7_meet_45 ?_
    refine S_iald qX7_meet_46 a88 (K := ?_)
    rw [M.w88]
    refine S_al0 qX7_meet_47 ?_
    refine S_getR qX7_meet_48 fX7_29 e83_6 ?_
    refine S_bipush (d := qX7_meet_51) (k := ?_)
    refine S_il2 qX7_meet_53 ?_
    refine S_imul qX7_meet_54 ?_
    refine S_iald qX7_meet_55 a88 (K := ?_)
    rw [M.w88]
    refine S_icmp_eq (d := qX7_meet_56) (kt := fun c56 => ?_) (kf := fun c56 => ?_)
    · refine S_al0 qX7_meet_69 ?_
      refine S_V0V hD qX7_meet_70 lX7_312 vX7_putBack r83 (m_putBack M K S hI0) (kk := fun V70 h70 => ?_)
      obtain ⟨M, hT70⟩ := h70
      have hT := hT.tr hT70
      refine S_il3 qX7_meet_73 ?_
      refine S_bipush (d := qX7_meet_74) (k := ?_)
      refine S_icmp_ge (d := qX7_meet_76) (kt := fun c76 => ?_) (kf := fun c76 => ?_)
      · omega
      refine S_il3 qX7_meet_79 ?_
      refine S_goto qX7_meet_80 ?_
      refine S_iret hz qX7_meet_85 ?_
      rw [if_pos (decide_eq_true c56)] at hx
      subst hx
      exact hQ _ hT M
    · refine S_al0 qX7_meet_59 ?_
      refine S_V0V hD qX7_meet_60 lX7_306 vX7_go r83 (m_go M (by omega)) (kk := fun V60 h60 => ?_)
      obtain ⟨M, hT60, hK60⟩ := h60
      have hT := hT.tr hT60
      have K := K.ke hK60
      refine S_inc3 qX7_meet_63 (K := ?_)
      refine S_goto qX7_meet_66 ?_
      rw [if_neg (fun q => c56 (of_decide_eq_true q))] at hx
      exact ih (k + 1) _ _ (by omega) (by omega) hT M K (S.go Z.2.1 false) hx (by show s1.2.1 + 1 + (n : Int) ≤ 20000; omega)
theorem m_meet {g : GC} {V : MM} {Z : ZT} {a b : Int} (hZ : MA V Z) (ra : -2147483648 ≤ a ∧ a ≤ 2147483647) (rb : -2147483648 ≤ b ∧ b ≤ 2147483647) : Ct g mX7_meet 8 [vr 83, vi a, vi b] V (RM V (oMeet Z a b) Z) := by
  refine Ct.of (ls := [some (vr 83), some (vi a), some (vi b), none]) (plainFor_of_name (by decide +kernel)) rfl (by exact Nat.le_of_ble_eq_true rfl) (fun X hz hD => ?_)
  obtain ⟨M, hI0, hn6, hbb, hwz, hkz⟩ := hZ.pf
  have hT := Tm.rf V
  refine S_al0 qX7_meet_0 ?_
  refine S_il1 qX7_meet_1 ?_
  refine S_V1B hD qX7_meet_2 lX7_218 vX7_isDancer r83 (m_isDancer M (by omega)) (kt := fun j2 => ?_) (kf := fun j2 => ?_)
  · refine S_if_eq (d := qX7_meet_5) (kt := fun c => absurd c (by decide)) (kf := fun _ => ?_)
    refine S_al0 qX7_meet_8 ?_
    refine S_il2 qX7_meet_9 ?_
    refine S_V1B hD qX7_meet_10 lX7_218 vX7_isDancer r83 (m_isDancer M (by omega)) (kt := fun j10 => ?_) (kf := fun j10 => ?_)
    · refine S_if_ne (d := qX7_meet_13) (kt := fun _ => ?_) (kf := fun c => absurd c (by decide))
      refine S_il1 qX7_meet_18 ?_
      refine S_il2 qX7_meet_19 ?_
      refine S_icmp_ne (d := qX7_meet_20) (kt := fun c20 => ?_) (kf := fun c20 => ?_)
      · refine S_al0 qX7_meet_26 ?_
        refine S_V0V hD qX7_meet_27 lX7_309 vX7_save r83 (m_save M) (kk := fun V27 h27 => ?_)
        obtain ⟨M, hT27, K⟩ := h27
        have hT := hT.tr hT27
        refine S_iconst qX7_meet_30 ?_
        refine S_is3 qX7_meet_31 (K := ?_)
        refine mme_loop hZ (by omega) (by omega) hz hD (fun V' p q => RM.tm hZ p q ?_) 61 0 _ _ (by omega) (by omega) hT M K (Sk.rf _) rfl (by omega)
        symm
        unfold oMeet
        rw [if_neg (by omega), if_neg (by omega)]
      · refine S_bipush (d := qX7_meet_23) (k := ?_)
        refine S_iret hz qX7_meet_25 ?_
        refine RM.same hZ ?_
        unfold oMeet
        first | (rw [if_pos (by omega)]; done) | (rw [if_neg (by omega), if_pos (by omega)]; done) | (rw [if_neg (by omega), if_neg (by omega), if_pos (by omega)]; done)
    · refine S_if_ne (d := qX7_meet_13) (kt := fun c => absurd c (by decide)) (kf := fun _ => ?_)
      refine S_iconst qX7_meet_16 ?_
      refine S_iret hz qX7_meet_17 ?_
      refine RM.same hZ ?_
      unfold oMeet
      first | (rw [if_pos (by omega)]; done) | (rw [if_neg (by omega), if_pos (by omega)]; done) | (rw [if_neg (by omega), if_neg (by omega), if_pos (by omega)]; done)
  · refine S_if_eq (d := qX7_meet_5) (kt := fun _ => ?_) (kf := fun c => absurd c (by decide))
    refine S_iconst qX7_meet_16 ?_
    refine S_iret hz qX7_meet_17 ?_
    refine RM.same hZ ?_
    unfold oMeet
    first | (rw [if_pos (by omega)]; done) | (rw [if_neg (by omega), if_pos (by omega)]; done) | (rw [if_neg (by omega), if_neg (by omega), if_pos (by omega)]; done)

theorem mfar_loop {g : GC} {X : CX} {Q : Option AV → MM → Prop} {V : MM} {Z : ZT} {xf a b m : Int} (hZ : MA V Z) (ra : 0 ≤ a ∧ a < Z.1.1) (rb : 0 ≤ b ∧ b < Z.1.1) (rm : 0 ≤ m ∧ m ≤ 60) (hz : Fi g X (some .int) Q) (hD : Dp X 8) (hQ : ∀ V', Tm V V' → FM V' Z.2.1 Z.1 → Q (some (vi xf)) V') : ∀ (n : Nat) (i t : Int) (V1 : MM) (s1 : FS), 0 ≤ i → i + n = m → Tm V V1 → FM V1 Z.2.1 s1 → KM V1 Z.1 → Sk Z.1 s1 → (0 ≤ t ∧ t ≤ 99) → farS Z.2.1 a b n s1 t = xf → s1.2.1 + n ≤ 20000 → SW g X RX7 cX7_far 49 [some (vr 83), some (vi a), some (vi b), some (vi m), some (vi t), some (vi i)] [] V1 := by
  obtain ⟨-, hI0, hn6, hbb, hwz, hkz⟩ := hZ.pf
  intro n
  induction n with
  | zero =>
    intro i t V1 s1 h0 h1 hT M K S ht hx hb
    unfold farS at hx
    subst hx
    refine S_il5 qX7_far_49 ?_
    refine S_il3 qX7_far_51 ?_
    refine S_icmp_ge (d := qX7_far_52) (kt := fun c52 => ?_) (kf := fun c52 => ?_)
    rotate_left
    · omega
    refine S_al0 qX7_far_89 ?_
    refine S_V0V hD qX7_far_90 lX7_312 vX7_putBack r83 (m_putBack M K S hI0) (kk := fun V90 h90 => ?_)
    obtain ⟨M, hT90⟩ := h90
    have hT := hT.tr hT90
    refine S_il4 qX7_far_93 ?_
    refine S_iret hz qX7_far_95 ?_
    exact hQ _ hT M
  | succ n ih =>
    intro i t V1 s1 h0 h1 hT M K S ht hx hb
    have hS1 := S.1
    have hap := apa_rg (goS Z.2.1 false s1) a b hwz
    have hg : (goS Z.2.1 false s1).1 = s1.1 := rfl
    unfold farS at hx
    refine S_il5 qX7_far_49 ?_
    refine S_il3 qX7_far_51 ?_
    refine S_icmp_ge (d := qX7_far_52) (kt := fun c52 => ?_) (kf := fun c52 => ?_)
    · omega
    refine S_al0 qX7_far_55 ?_
    refine S_V0V hD qX7_far_56 lX7_306 vX7_go r83 (m_go M (by omega)) (kk := fun V56 h56 => ?_)
    obtain ⟨M, hT56, hK56⟩ := h56
    have hT := hT.tr hT56
    have K := K.ke hK56
    refine S_al0 qX7_far_59 ?_
    refine S_il1 qX7_far_60 ?_
    refine S_il2 qX7_far_61 ?_
    refine S_V2E hD qX7_far_62 lX7_324 vX7_apart r83 (m_apart M (by omega) (by omega)) (K := ?_)
    refine S_il4 qX7_far_65 ?_
    refine S_icmp_le (d := qX7_far_67) (kt := fun c67 => ?_) (kf := fun c67 => ?_)
    · refine S_il4 qX7_far_79 ?_
      refine S_is4 qX7_far_81 (K := ?_)
      refine S_inc5 qX7_far_83 (K := ?_)
      refine S_goto qX7_far_86 ?_
      first
        | (rw [if_pos (by omega)] at hx; exact ih (i + 1) _ _ _ (by omega) (by omega) hT M K (S.go Z.2.1 false) (by omega) hx (by show s1.2.1 + 1 + (n : Int) ≤ 20000; omega))
        | (rw [if_neg (by omega)] at hx; exact ih (i + 1) _ _ _ (by omega) (by omega) hT M K (S.go Z.2.1 false) (by omega) hx (by show s1.2.1 + 1 + (n : Int) ≤ 20000; omega))
    · refine S_al0 qX7_far_70 ?_
      refine S_il1 qX7_far_71 ?_
      refine S_il2 qX7_far_72 ?_
      refine S_V2E hD qX7_far_73 lX7_324 vX7_apart r83 (m_apart M (by omega) (by omega)) (K := ?_)
      refine S_goto qX7_far_76 ?_
      refine S_is4 qX7_far_81 (K := ?_)
      refine S_inc5 qX7_far_83 (K := ?_)
      refine S_goto qX7_far_86 ?_
      first
        | (rw [if_pos (by omega)] at hx; exact ih (i + 1) _ _ _ (by omega) (by omega) hT M K (S.go Z.2.1 false) (by omega) hx (by show s1.2.1 + 1 + (n : Int) ≤ 20000; omega))
        | (rw [if_neg (by omega)] at hx; exact ih (i + 1) _ _ _ (by omega) (by omega) hT M K (S.go Z.2.1 false) (by omega) hx (by show s1.2.1 + 1 + (n : Int) ≤ 20000; omega))
theorem m_far {g : GC} {V : MM} {Z : ZT} {a b m : Int} (hZ : MA V Z) (ra : -2147483648 ≤ a ∧ a ≤ 2147483647) (rb : -2147483648 ≤ b ∧ b ≤ 2147483647) (rm : -2147483648 ≤ m ∧ m ≤ 2147483647) : Ct g mX7_far 8 [vr 83, vi a, vi b, vi m] V (RM V (oFar Z a b m) Z) := by
  refine Ct.of (ls := [some (vr 83), some (vi a), some (vi b), some (vi m), none, none]) (plainFor_of_name (by decide +kernel)) rfl (by exact Nat.le_of_ble_eq_true rfl) (fun X hz hD => ?_)
  obtain ⟨M, hI0, hn6, hbb, hwz, hkz⟩ := hZ.pf
  have hT := Tm.rf V
  refine S_al0 qX7_far_0 ?_
  refine S_il1 qX7_far_1 ?_
  refine S_V1B hD qX7_far_2 lX7_218 vX7_isDancer r83 (m_isDancer M (by omega)) (kt := fun j2 => ?_) (kf := fun j2 => ?_)
  · refine S_if_eq (d := qX7_far_5) (kt := fun c => absurd c (by decide)) (kf := fun _ => ?_)
    refine S_al0 qX7_far_8 ?_
    refine S_il2 qX7_far_9 ?_
    refine S_V1B hD qX7_far_10 lX7_218 vX7_isDancer r83 (m_isDancer M (by omega)) (kt := fun j10 => ?_) (kf := fun j10 => ?_)
    · refine S_if_ne (d := qX7_far_13) (kt := fun _ => ?_) (kf := fun c => absurd c (by decide))
      refine S_il1 qX7_far_18 ?_
      refine S_il2 qX7_far_19 ?_
      refine S_icmp_eq (d := qX7_far_20) (kt := fun c20 => ?_) (kf := fun c20 => ?_)
      · refine S_bipush (d := qX7_far_31) (k := ?_)
        refine S_iret hz qX7_far_33 ?_
        refine RM.same hZ ?_
        unfold oFar
        first | (rw [if_pos (by omega)]; done) | (rw [if_neg (by omega), if_pos (by omega)]; done) | (rw [if_neg (by omega), if_neg (by omega), if_pos (by omega)]; done)
      · refine S_al0 qX7_far_23 ?_
        refine S_il3 qX7_far_24 ?_
        refine S_V1B hD qX7_far_25 lX7_303 vX7_isBeats r83 (m_isBeats (by omega)) (kt := fun j25 => ?_) (kf := fun j25 => ?_)
        · refine S_if_ne (d := qX7_far_28) (kt := fun _ => ?_) (kf := fun c => absurd c (by decide))
          refine S_al0 qX7_far_34 ?_
          refine S_V0V hD qX7_far_35 lX7_309 vX7_save r83 (m_save M) (kk := fun V35 h35 => ?_)
          obtain ⟨M, hT35, K⟩ := h35
          have hT := hT.tr hT35
          refine S_al0 qX7_far_38 ?_
          refine S_il1 qX7_far_39 ?_
          refine S_il2 qX7_far_40 ?_
          refine S_V2E hD qX7_far_41 lX7_324 vX7_apart r83 (m_apart M (by omega) (by omega)) (K := ?_)
          refine S_is4 qX7_far_44 (K := ?_)
          refine S_iconst qX7_far_46 ?_
          refine S_is5 qX7_far_47 (K := ?_)
          refine mfar_loop hZ (by omega) (by omega) (by omega) hz hD (fun V' p q => RM.tm hZ p q ?_) m.toNat 0 _ _ _ (by omega) (by omega) hT M K (Sk.rf _) (apa_rg _ _ _ hwz) rfl (by omega)
          symm
          unfold oFar
          rw [if_neg (by omega), if_neg (by omega)]
        · refine S_if_ne (d := qX7_far_28) (kt := fun c => absurd c (by decide)) (kf := fun _ => ?_)
          refine S_bipush (d := qX7_far_31) (k := ?_)
          refine S_iret hz qX7_far_33 ?_
          refine RM.same hZ ?_
          unfold oFar
          first | (rw [if_pos (by omega)]; done) | (rw [if_neg (by omega), if_pos (by omega)]; done) | (rw [if_neg (by omega), if_neg (by omega), if_pos (by omega)]; done)
    · refine S_if_ne (d := qX7_far_13) (kt := fun c => absurd c (by decide)) (kf := fun _ => ?_)
      refine S_iconst qX7_far_16 ?_
      refine S_iret hz qX7_far_17 ?_
      refine RM.same hZ ?_
      unfold oFar
      first | (rw [if_pos (by omega)]; done) | (rw [if_neg (by omega), if_pos (by omega)]; done) | (rw [if_neg (by omega), if_neg (by omega), if_pos (by omega)]; done)
  · refine S_if_eq (d := qX7_far_5) (kt := fun _ => ?_) (kf := fun c => absurd c (by decide))
    refine S_iconst qX7_far_16 ?_
    refine S_iret hz qX7_far_17 ?_
    refine RM.same hZ ?_
    unfold oFar
    first | (rw [if_pos (by omega)]; done) | (rw [if_neg (by omega), if_pos (by omega)]; done) | (rw [if_neg (by omega), if_neg (by omega), if_pos (by omega)]; done)
