/-- the floor at f has gone on from V0 to V1 -/
def TrC (V0 V1 : MM) (f : Nat) (hs : HS) (s : FS) : Prop := FlC V1 f hs s ∧ Sm V0 V1 f 7 ∧ V1 f 2 = V0 f 2
theorem TrC.rf {V : MM} {f : Nat} {hs : HS} {s : FS} (h : FlC V f hs s) : TrC V V f hs s := ⟨h, fun _ _ => rfl, rfl⟩
theorem TrC.go {V0 V1 V2 : MM} {f : Nat} {hs : HS} {s s2 : FS} (h : TrC V0 V1 f hs s) (h2 : FlC V2 f hs s2 ∧ Sm V1 V2 f 7 ∧ V2 f 2 = V1 f 2) : TrC V0 V2 f hs s2 := ⟨h2.1, fun k hk => (h2.2.1 k hk).trans (h.2.1 k hk), h2.2.2.trans h.2.2⟩
theorem FlC.w99 {V : MM} {f : Nat} {hs : HS} {s : FS} (h : FlC V f hs s) : (1 ≤ hs.1 ∧ hs.1 ≤ 99) ∧ (0 ≤ hs.2.1 ∧ hs.2.1 ≤ 99) := by
  have e := h.2.2.1.2
  have := h.2.2.1.1.2.1
  have := h.2.2.1.1.2.2.1
  rw [e]
  exact ⟨by assumption, by assumption⟩
theorem FlC.n6 {V : MM} {f : Nat} {hs : HS} {s : FS} (h : FlC V f hs s) : s.1 = V f 0 ∧ s.2.1 = V f 1 ∧ (0 ≤ V f 0 ∧ V f 0 ≤ 6) ∧ (0 ≤ V f 1 ∧ V f 1 ≤ 20000) := by
  obtain ⟨h1, rfl, h3, h4, h5, h6, h7⟩ := h
  exact ⟨rfl, rfl, h5, h6⟩
theorem goN_n (hs : HS) : ∀ (n : Nat) (s : FS), (goN hs n s).1 = s.1 ∧ (goN hs n s).2.1 = s.2.1 + n := by
  intro n
  induction n with
  | zero => intro s; exact ⟨rfl, by simp [goN]⟩
  | succ n ih =>
    intro s
    have := ih (goS hs false s)
    unfold goN
    refine ⟨this.1, ?_⟩
    rw [this.2]
    show s.2.1 + 1 + (n : Int) = _
    omega

theorem goBeats_loop {g : GC} {X : CX} {Q : Option AV → MM → Prop} {f : Nat} {V : MM} {hs : HS} {sf : FS} {m : Int} (hm : 0 ≤ m ∧ m ≤ 60) (hz : Fi g X none Q) (hD : Dp X 7) (hQ : ∀ V', TrC V V' f hs sf → Q none V') : ∀ (n : Nat) (i : Int) (V1 : MM) (s1 : FS), 0 ≤ i → i + n = m → TrC V V1 f hs s1 → goN hs n s1 = sf → s1.2.1 + n ≤ 20000 → SW g X RX2 cX2_goBeats 2 [some (vr f), some (vi m), some (vi i)] [] V1 := by
  intro n
  induction n with
  | zero =>
    intro i V1 s1 h0 h1 hT hg hb
    have hf := hT.1.1
    unfold goN at hg
    subst hg
    refine S_il2 qX2_goBeats_2 ?_
    refine S_il1 qX2_goBeats_3 ?_
    refine S_icmp_ge (d := qX2_goBeats_4) (kt := fun c4 => ?_) (kf := fun c4 => ?_)
    rotate_left
    · omega
    refine S_vret hz qX2_goBeats_18 ?_
    exact hQ V1 hT
  | succ n ih =>
    intro i V1 s1 h0 h1 hT hg hb
    have hf := hT.1.1
    have hn := hT.1.n6
    unfold goN at hg
    refine S_il2 qX2_goBeats_2 ?_
    refine S_il1 qX2_goBeats_3 ?_
    refine S_icmp_ge (d := qX2_goBeats_4) (kt := fun c4 => ?_) (kf := fun c4 => ?_)
    · omega
    refine S_al0 qX2_goBeats_7 ?_
    refine S_iconst qX2_goBeats_8 ?_
    refine S_V1V hD qX2_goBeats_9 lX2_81 vX2_goBeat (F_r hf) (c_goBeat false hT.1 (by omega)) (kk := fun V9 h9 => ?_)
    have hT2 := hT.go h9
    refine S_inc2 qX2_goBeats_12 (K := ?_)
    refine S_goto qX2_goBeats_15 ?_
    exact ih (i + 1) _ _ (by omega) (by omega) hT2 hg (by show s1.2.1 + 1 + (n : Int) ≤ 20000; omega)
theorem c_goBeats {g : GC} {f : Nat} {V : MM} {hs : HS} {s : FS} {m : Int} (hF : FlC V f hs s) (hm : 0 ≤ m ∧ m ≤ 60) (hb : s.2.1 + m ≤ 20000) : Ct g mX2_goBeats 7 [vr f, vi m] V (RV (fun V' => TrC V V' f hs (goN hs m.toNat s))) := by
  refine Ct.of (ls := [some (vr f), some (vi m), none]) (plainFor_of_name (by decide +kernel)) rfl (by exact Nat.le_of_ble_eq_true rfl) (fun X hz hD => ?_)
  have hf := hF.1
  refine S_iconst qX2_goBeats_0 ?_
  refine S_is2 qX2_goBeats_1 (K := ?_)
  exact goBeats_loop hm hz hD (fun V1 h => ⟨rfl, h⟩) m.toNat 0 V s (by omega) (by omega) (TrC.rf hF) rfl (by omega)

theorem till_loop {g : GC} {X : CX} {Q : Option AV → MM → Prop} {f : Nat} {V : MM} {hs : HS} {mo sb xf : Int} (hm : -1 ≤ mo ∧ mo ≤ 60) (hsb : -5 ≤ sb ∧ sb ≤ 60) (hz : Fi g X (some .int) Q) (hD : Dp X 7) (hQ : ∀ V', Sm V V' f 7 → Q (some (vi xf)) V') : ∀ (n : Nat) (k : Int) (V1 : MM) (s1 : FS), 0 ≤ k → k + n = mo + 1 → TrC V V1 f hs s1 → fstS hs togB sb n k s1 = xf → s1.2.1 + n ≤ 20000 → SW g X RX2 cX2_beatsTillTogether 2 [some (vr f), some (vi mo), some (vi sb), some (vi k)] [] V1 := by
  intro n
  induction n with
  | zero =>
    intro k V1 s1 h0 h1 hT hg hb
    have hf := hT.1.1
    unfold fstS at hg
    subst hg
    refine S_il3 qX2_beatsTillTogether_2 ?_
    refine S_il1 qX2_beatsTillTogether_3 ?_
    refine S_icmp_gt (d := qX2_beatsTillTogether_4) (kt := fun c4 => ?_) (kf := fun c4 => ?_)
    rotate_left
    · omega
    refine S_bipush (d := qX2_beatsTillTogether_36) (k := ?_)
    refine S_iret hz qX2_beatsTillTogether_38 ?_
    exact hQ V1 hT.2.1
  | succ n ih =>
    intro k V1 s1 h0 h1 hT hg hb
    have hf := hT.1.1
    have hn := hT.1.n6
    unfold fstS at hg
    refine S_il3 qX2_beatsTillTogether_2 ?_
    refine S_il1 qX2_beatsTillTogether_3 ?_
    refine S_icmp_gt (d := qX2_beatsTillTogether_4) (kt := fun c4 => ?_) (kf := fun c4 => ?_)
    · omega
    refine S_al0 qX2_beatsTillTogether_7 ?_
    refine S_V0B hD qX2_beatsTillTogether_8 lX2_85 vX2_areTogether (F_r hf) (c_areTogether hT.1) (kt := fun j8 => ?_) (kf := fun j8 => ?_)
    · refine S_if_eq (d := qX2_beatsTillTogether_11) (kt := fun c => absurd c (by decide)) (kf := fun _ => ?_)
      refine S_il3 qX2_beatsTillTogether_14 ?_
      refine S_iret hz qX2_beatsTillTogether_15 ?_
      rw [if_pos j8] at hg
      subst hg
      exact hQ V1 hT.2.1
    · refine S_if_eq (d := qX2_beatsTillTogether_11) (kt := fun _ => ?_) (kf := fun c => absurd c (by decide))
      refine S_al0 qX2_beatsTillTogether_16 ?_
      refine S_il3 qX2_beatsTillTogether_17 ?_
      refine S_il2 qX2_beatsTillTogether_18 ?_
      refine S_icmp_ne (d := qX2_beatsTillTogether_19) (kt := fun c19 => ?_) (kf := fun c19 => ?_)
      · refine S_iconst qX2_beatsTillTogether_26 ?_
        refine S_V1V hD qX2_beatsTillTogether_27 lX2_81 vX2_goBeat (F_r hf) (c_goBeat false hT.1 (by omega)) (kk := fun V27 h27 => ?_)
        have hT2 := hT.go h27
        refine S_inc3 qX2_beatsTillTogether_30 (K := ?_)
        refine S_goto qX2_beatsTillTogether_33 ?_
        rw [if_neg j8] at hg
        first | rw [decide_eq_true c19] at hg | rw [decide_eq_false c19] at hg
        exact ih (k + 1) _ _ (by omega) (by omega) hT2 hg (by show s1.2.1 + 1 + (n : Int) ≤ 20000; omega)
      · refine S_iconst qX2_beatsTillTogether_22 ?_
        refine S_goto qX2_beatsTillTogether_23 ?_
        refine S_V1V hD qX2_beatsTillTogether_27 lX2_81 vX2_goBeat (F_r hf) (c_goBeat true hT.1 (by omega)) (kk := fun V27 h27 => ?_)
        have hT2 := hT.go h27
        refine S_inc3 qX2_beatsTillTogether_30 (K := ?_)
        refine S_goto qX2_beatsTillTogether_33 ?_
        rw [if_neg j8] at hg
        first | rw [decide_eq_true c19] at hg | rw [decide_eq_false c19] at hg
        exact ih (k + 1) _ _ (by omega) (by omega) hT2 hg (by show s1.2.1 + 1 + (n : Int) ≤ 20000; omega)
theorem c_till {g : GC} {f : Nat} {V : MM} {hs : HS} {s : FS} {mo sb : Int} (hF : FlC V f hs s) (hm : -1 ≤ mo ∧ mo ≤ 60) (hsb : -5 ≤ sb ∧ sb ≤ 60) (hb : s.2.1 + mo + 1 ≤ 20000) : Ct g mX2_beatsTillTogether 7 [vr f, vi mo, vi sb] V (RI (fun z V' => z = fstS hs togB sb (mo + 1).toNat 0 s ∧ Sm V V' f 7)) := by
  refine Ct.of (ls := [some (vr f), some (vi mo), some (vi sb), none]) (plainFor_of_name (by decide +kernel)) rfl (by exact Nat.le_of_ble_eq_true rfl) (fun X hz hD => ?_)
  have hf := hF.1
  refine S_iconst qX2_beatsTillTogether_0 ?_
  refine S_is3 qX2_beatsTillTogether_1 (K := ?_)
  exact till_loop hm hsb hz hD (fun V1 h => ⟨_, rfl, rfl, h⟩) (mo + 1).toNat 0 V s (by omega) (by omega) (TrC.rf hF) rfl (by omega)

theorem alone_loop {g : GC} {X : CX} {Q : Option AV → MM → Prop} {f : Nat} {V : MM} {hs : HS} {d m xf : Int} (hd : 0 ≤ d) (hm : 0 ≤ m ∧ m ≤ 60) (hz : Fi g X (some .int) Q) (hD : Dp X 7) (hQ : ∀ V', Sm V V' f 7 → Q (some (vi xf)) V') : ∀ (n : Nat) (i c : Int) (V1 : MM) (s1 : FS), 0 ≤ i → i + n = m → d < s1.1 → TrC V V1 f hs s1 → alnS hs d n s1 c = xf → s1.2.1 + n ≤ 20000 → SW g X RX2 cX2_beatsAlone 5 [some (vr f), some (vi d), some (vi m), some (vi c), some (vi i)] [] V1 := by
  intro n
  induction n with
  | zero =>
    intro i c V1 s1 h0 h1 hds hT hg hb
    have hf := hT.1.1
    unfold alnS at hg
    subst hg
    refine S_il4 qX2_beatsAlone_5 ?_
    refine S_il2 qX2_beatsAlone_7 ?_
    refine S_icmp_ge (d := qX2_beatsAlone_8) (kt := fun c8 => ?_) (kf := fun c8 => ?_)
    rotate_left
    · omega
    refine S_il3 qX2_beatsAlone_33 ?_
    refine S_iret hz qX2_beatsAlone_34 ?_
    exact hQ V1 hT.2.1
  | succ n ih =>
    intro i c V1 s1 h0 h1 hds hT hg hb
    have hf := hT.1.1
    have hn := hT.1.n6
    unfold alnS at hg
    refine S_il4 qX2_beatsAlone_5 ?_
    refine S_il2 qX2_beatsAlone_7 ?_
    refine S_icmp_ge (d := qX2_beatsAlone_8) (kt := fun c8 => ?_) (kf := fun c8 => ?_)
    · omega
    refine S_al0 qX2_beatsAlone_11 ?_
    refine S_iconst qX2_beatsAlone_12 ?_
    refine S_V1V hD qX2_beatsAlone_13 lX2_81 vX2_goBeat (F_r hf) (c_goBeat false hT.1 (by omega)) (kk := fun V13 h13 => ?_)
    have hT2 := hT.go h13
    have hn2 := hT2.1.n6
    have hd2 : d < (goS hs false s1).1 := hds
    refine S_al0 qX2_beatsAlone_16 ?_
    refine S_il1 qX2_beatsAlone_17 ?_
    refine S_V1B hD qX2_beatsAlone_18 lX2_89 vX2_isAlone (F_r hf) (c_isAlone hT2.1 (by omega)) (kt := fun j18 => ?_) (kf := fun j18 => ?_)
    · refine S_if_eq (d := qX2_beatsAlone_21) (kt := fun c => absurd c (by decide)) (kf := fun _ => ?_)
      refine S_inc3 qX2_beatsAlone_24 (K := ?_)
      refine S_inc4 qX2_beatsAlone_27 (K := ?_)
      refine S_goto qX2_beatsAlone_30 ?_
      first | rw [if_pos j18] at hg | rw [if_neg j18] at hg
      exact ih (i + 1) _ _ _ (by omega) (by omega) hd2 hT2 hg (by show s1.2.1 + 1 + (n : Int) ≤ 20000; omega)
    · refine S_if_eq (d := qX2_beatsAlone_21) (kt := fun _ => ?_) (kf := fun c => absurd c (by decide))
      refine S_inc4 qX2_beatsAlone_27 (K := ?_)
      refine S_goto qX2_beatsAlone_30 ?_
      first | rw [if_pos j18] at hg | rw [if_neg j18] at hg
      exact ih (i + 1) _ _ _ (by omega) (by omega) hd2 hT2 hg (by show s1.2.1 + 1 + (n : Int) ≤ 20000; omega)
theorem c_beatsAlone {g : GC} {f : Nat} {V : MM} {hs : HS} {s : FS} {d m : Int} (hF : FlC V f hs s) (hd : 0 ≤ d ∧ d < V f 0) (hm : 0 ≤ m ∧ m ≤ 60) (hb : s.2.1 + m ≤ 20000) : Ct g mX2_beatsAlone 7 [vr f, vi d, vi m] V (RI (fun z V' => z = alnS hs d m.toNat s 0 ∧ Sm V V' f 7)) := by
  refine Ct.of (ls := [some (vr f), some (vi d), some (vi m), none, none]) (plainFor_of_name (by decide +kernel)) rfl (by exact Nat.le_of_ble_eq_true rfl) (fun X hz hD => ?_)
  have hf := hF.1
  have hn := hF.n6
  refine S_iconst qX2_beatsAlone_0 ?_
  refine S_is3 qX2_beatsAlone_1 (K := ?_)
  refine S_iconst qX2_beatsAlone_2 ?_
  refine S_is4 qX2_beatsAlone_3 (K := ?_)
  exact alone_loop hd.1 hm hz hD (fun V1 h => ⟨_, rfl, rfl, h⟩) m.toNat 0 0 V s (by omega) (by omega) (by omega) (TrC.rf hF) rfl (by omega)
