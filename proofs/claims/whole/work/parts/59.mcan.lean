def sn1 (hs : HS) (s : FS) (N : SN) (i : Int) : Bool := decide ((goN hs (N.2.2.2.1 i).toNat s).2.2.2.2.2.1 (8 * N.2.1 i) = N.2.2.1 i)
def isS (hs : HS) (s : FS) (N : SN) : Nat → Int → Bool
  | 0, _ => true
  | n + 1, i => if sn1 hs s N i = true then isS hs s N n (i + 1) else false
theorem isS_iff (hs : HS) (s : FS) (N : SN) : ∀ (n : Nat) (i : Int), isS hs s N n i = true ↔ ∀ j, i ≤ j ∧ j < i + n → sn1 hs s N j = true := by
  intro n
  induction n with
  | zero => intro i; exact ⟨fun _ j hj => by omega, fun _ => rfl⟩
  | succ n ih =>
    intro i
    unfold isS
    by_cases h : sn1 hs s N i = true
    · rw [if_pos h, ih]
      refine ⟨fun q j hj => ?_, fun q j hj => q j (by omega)⟩
      by_cases e : j = i
      · rw [e]; exact h
      · exact q j (by omega)
    · rw [if_neg h]
      exact ⟨fun q => absurd q (by decide), fun q => absurd (q i (by omega)) h⟩
theorem seeS_iff (hs : HS) (N : SN) : ∀ (n : Nat) (k : Int) (s : FS), seeS hs N n k s = true ↔ ∀ m : Nat, m < n → seeB N (k + m) (goN hs m s) = true := by
  intro n
  induction n with
  | zero => intro k s; exact ⟨fun _ m hm => by omega, fun _ => rfl⟩
  | succ n ih =>
    intro k s
    unfold seeS
    rw [Bool.and_eq_true, ih]
    constructor
    · rintro ⟨h1, h2⟩ m hm
      match m, hm with
      | 0, _ => rw [show k + ((0 : Nat) : Int) = k by omega]; exact h1
      | m + 1, hm =>
        have h3 := h2 m (by omega)
        rw [show k + 1 + (m : Int) = k + ((m + 1 : Nat) : Int) by omega] at h3
        exact h3
    · intro h
      refine ⟨?_, fun m hm => ?_⟩
      · have h3 := h 0 (by omega)
        rw [show k + ((0 : Nat) : Int) = k by omega] at h3
        exact h3
      · have h3 := h (m + 1) (by omega)
        rw [show k + ((m + 1 : Nat) : Int) = k + 1 + (m : Int) by omega] at h3
        exact h3
theorem isS_see {hs : HS} {s : FS} {N : SN} {n : Int} (hN : NInv n N) : isS hs s N N.1.toNat 0 = seeS hs N 13 0 s := by
  obtain ⟨h1, h2, -⟩ := hN
  have e : isS hs s N N.1.toNat 0 = true ↔ seeS hs N 13 0 s = true := by
    rw [isS_iff, seeS_iff]
    constructor
    · intro h m hm
      unfold seeB
      rw [allN_I h1.1]
      intro i hi
      rw [decide_eq_true_eq]
      intro hw
      have h3 := h i (by omega)
      unfold sn1 at h3
      rw [decide_eq_true_eq] at h3
      rw [show (N.2.2.2.1 i).toNat = m by omega] at h3
      exact h3
    · intro h i hi
      have h4 := h2 i (by omega)
      have h3 := h (N.2.2.2.1 i).toNat (by omega)
      unfold seeB at h3
      rw [allN_I h1.1] at h3
      have h5 := h3 i (by omega)
      rw [decide_eq_true_eq] at h5
      unfold sn1
      rw [decide_eq_true_eq]
      exact h5 (by omega)
  cases ha : isS hs s N N.1.toNat 0 <;> cases hb : seeS hs N 13 0 s <;> first | rfl | (rw [ha, hb] at e; simp at e)
theorem tri_n : ∀ n : Nat, n ≤ 6 → ∀ (hs : HS) (s : FS), s.1 = n → (mi2 hs s n 0 (0, 0)).2 = (n : Int) * (n - 1) / 2 := by
  have h1 : ∀ (hs : HS) (s : FS) (a : Int) (n : Nat) (b : Int) (x : Int × Int), (mi1 hs s a n b x).2 = x.2 + n := by
    intro hs s a n
    induction n with
    | zero => intro b x; show x.2 = x.2 + (0 : Nat); omega
    | succ n ih => intro b x; unfold mi1; rw [ih]; show x.2 + 1 + (n : Int) = _; omega
  have h2 : ∀ (hs : HS) (s : FS) (n : Nat) (a : Int) (x : Int × Int), 0 ≤ a → a + n = s.1 → 2 * (mi2 hs s n a x).2 = 2 * x.2 + n * (n - 1) := by
    intro hs s n
    induction n with
    | zero => intro a x h0 h3; show 2 * x.2 = _; simp
    | succ n ih =>
      intro a x h0 h3
      unfold mi2
      rw [ih (a + 1) _ (by omega) (by omega), h1]
      have e : (((s.1 - (a + 1)).toNat : Nat) : Int) = n := by omega
      rw [e]
      have e2 : (((n + 1 : Nat) : Int)) * (((n + 1 : Nat) : Int) - 1) = n * (n - 1) + 2 * n := by
        have e3 : ((n + 1 : Nat) : Int) = (n : Int) + 1 := by omega
        rw [e3, Int.add_sub_cancel, Int.add_mul, Int.mul_sub, Int.one_mul, Int.mul_one]
        omega
      rw [e2]
      omega
  intro n hn hs s hs1
  have h3 := h2 hs s n 0 (0, 0) (by omega) (by omega)
  replace h3 : 2 * (mi2 hs s n 0 (0, 0)).2 = 2 * 0 + (n : Int) * (n - 1) := h3
  omega

theorem isn_0 {g : GC} {X : CX} {Q : Option AV → MM → Prop} {V1 : MM} {i : Int} (ri : 0 ≤ i ∧ i ≤ 100) (rs : 0 ≤ V1 83 31 ∧ V1 83 31 ≤ 5) (hz : Fi g X (some .boolean) Q) (hQ : Q (some (vi 0)) V1) : SW g X RX7 cX7_isSeen 4 [some (vr 83), some (vi 0), some (vi i), none] [] V1 := by
  refine S_il2 qX7_isSeen_4 ?_
  refine S_al0 qX7_isSeen_5 ?_
  refine S_getI qX7_isSeen_6 fX7_105 e83_31 ?_
  refine S_icmp_ge (d := qX7_isSeen_9) (kt := fun c9 => ?_) (kf := fun c9 => ?_)
  · refine S_il1 qX7_isSeen_81 ?_
    refine S_zret hz qX7_isSeen_82 (by omega) ?_
    exact hQ
  · refine S_il1 qX7_isSeen_12 ?_
    refine S_if_eq (d := qX7_isSeen_13) (kt := fun _ => ?_) (kf := fun c => absurd c (by decide))
    refine S_il1 qX7_isSeen_81 ?_
    refine S_zret hz qX7_isSeen_82 (by omega) ?_
    exact hQ
theorem isn_in {g : GC} {X : CX} {V : MM} {hs : HS} {s : FS} {N : SN} {i m : Int} {sf : FS} (hm : m = N.2.2.2.1 i) (rm : 0 ≤ m ∧ m ≤ 12) (ri : 0 ≤ i ∧ i < 5) (hN : snM V = N) (hD : Dp X 8) (hk : ∀ V2, Tm V V2 → FM V2 hs sf → KM V2 s → Sk s sf → SW g X RX7 cX7_isSeen 42 [some (vr 83), some (vi 1), some (vi i), none] [] V2) : ∀ (n : Nat) (k : Int) (V1 : MM) (s1 : FS), 0 ≤ k → k + n = m → Tm V V1 → FM V1 hs s1 → KM V1 s → Sk s s1 → goN hs n s1 = sf → s1.2.1 + n ≤ 20000 → SW g X RX7 cX7_isSeen 22 [some (vr 83), some (vi 1), some (vi i), some (vi k)] [] V1 := by
  have eN : V 106 = N.2.2.2.1 := by rw [← hN]
  intro n
  induction n with
  | zero =>
    intro k V1 s1 h0 h1 hT M K S hx hb
    have e106 : V1 106 i = m := by rw [hT.1 106 (by omega) (by omega) (by omega) (by omega), eN, hm]
    unfold goN at hx
    subst hx
    refine S_il3 qX7_isSeen_22 ?_
    refine S_al0 qX7_isSeen_23 ?_
    refine S_getR qX7_isSeen_24 fX7_114 e83_34 ?_
    refine S_il2 qX7_isSeen_27 ?_
    refine S_iald qX7_isSeen_28 a106 (K := ?_)
    refine S_icmp_ge (d := qX7_isSeen_29) (kt := fun c29 => ?_) (kf := fun c29 => ?_)
    rotate_left
    · omega
    exact SW.forget 3 (hk _ hT M K S)
  | succ n ih =>
    intro k V1 s1 h0 h1 hT M K S hx hb
    have e106 : V1 106 i = m := by rw [hT.1 106 (by omega) (by omega) (by omega) (by omega), eN, hm]
    unfold goN at hx
    refine S_il3 qX7_isSeen_22 ?_
    refine S_al0 qX7_isSeen_23 ?_
    refine S_getR qX7_isSeen_24 fX7_114 e83_34 ?_
    refine S_il2 qX7_isSeen_27 ?_
    refine S_iald qX7_isSeen_28 a106 (K := ?_)
    refine S_icmp_ge (d := qX7_isSeen_29) (kt := fun c29 => ?_) (kf := fun c29 => ?_)
    · omega
    refine S_al0 qX7_isSeen_32 ?_
    refine S_V0V hD qX7_isSeen_33 lX7_306 vX7_go r83 (m_go M (by omega)) (kk := fun V33 h33 => ?_)
    obtain ⟨M, hT33, hK33⟩ := h33
    have hT := hT.tr hT33
    have K := K.ke hK33
    refine S_inc3 qX7_isSeen_36 (K := ?_)
    refine S_goto qX7_isSeen_39 ?_
    exact ih (k + 1) _ _ (by omega) (by omega) hT M K (S.go hs false) hx (by show s1.2.1 + 1 + (n : Int) ≤ 20000; omega)
theorem isn_out {g : GC} {X : CX} {Q : Option AV → MM → Prop} {V : MM} {hs : HS} {s : FS} {N : SN} {xf : Bool} (hI0 : FInv hs.1 s) (hb0 : s.2.1 ≤ 10000) (hN : snM V = N) (hNI : NInv s.1 N) (hz : Fi g X (some .boolean) Q) (hD : Dp X 8) (hQ : ∀ V', Tm V V' → FM V' hs s → Q (some (vi (b2i xf))) V') : ∀ (n : Nat) (i : Int) (V1 : MM), 0 ≤ i → i + n = N.1 → Tm V V1 → FM V1 hs s → isS hs s N n i = xf → SW g X RX7 cX7_isSeen 4 [some (vr 83), some (vi 1), some (vi i), none] [] V1 := by
  have eN : V 83 31 = N.1 := by rw [← hN]
  have e4 : V 104 = N.2.1 := by rw [← hN]
  have e5 : V 105 = N.2.2.1 := by rw [← hN]
  obtain ⟨n1, n2, -⟩ := hNI
  intro n
  induction n with
  | zero =>
    intro i V1 h0 h1 hT M hx
    have e31 : V1 83 31 = N.1 := by rw [hT.2 31 (by omega) (by omega), eN]
    unfold isS at hx
    subst hx
    refine S_il2 qX7_isSeen_4 ?_
    refine S_al0 qX7_isSeen_5 ?_
    refine S_getI qX7_isSeen_6 fX7_105 e83_31 ?_
    refine S_icmp_ge (d := qX7_isSeen_9) (kt := fun c9 => ?_) (kf := fun c9 => ?_)
    rotate_left
    · omega
    refine S_il1 qX7_isSeen_81 ?_
    refine S_zret hz qX7_isSeen_82 (by omega) ?_
    exact hQ _ hT M
  | succ n ih =>
    intro i V1 h0 h1 hT M hx
    have e31 : V1 83 31 = N.1 := by rw [hT.2 31 (by omega) (by omega), eN]
    have n3 := n2 i (by omega)
    unfold isS at hx
    refine S_il2 qX7_isSeen_4 ?_
    refine S_al0 qX7_isSeen_5 ?_
    refine S_getI qX7_isSeen_6 fX7_105 e83_31 ?_
    refine S_icmp_ge (d := qX7_isSeen_9) (kt := fun c9 => ?_) (kf := fun c9 => ?_)
    · omega
    refine S_il1 qX7_isSeen_12 ?_
    refine S_if_eq (d := qX7_isSeen_13) (kt := fun c => absurd c (by decide)) (kf := fun _ => ?_)
    refine S_al0 qX7_isSeen_16 ?_
    refine S_V0V hD qX7_isSeen_17 lX7_309 vX7_save r83 (m_save M) (kk := fun V17 h17 => ?_)
    obtain ⟨M, hT17, K⟩ := h17
    have hT := hT.tr hT17
    refine S_iconst qX7_isSeen_20 ?_
    refine S_is3 qX7_isSeen_21 (K := ?_)
    refine isn_in (N := N) (m := N.2.2.2.1 i) (sf := goN hs (N.2.2.2.1 i).toNat s) rfl (by omega) (by omega) hN hD (fun V2 hT M K S => ?_) (N.2.2.2.1 i).toNat 0 _ s (by omega) (by omega) hT M K (Sk.rf s) rfl (by omega)
    have hS1 := S.1
    have hn6 := hI0.1
    have hI1 := M.2.2.2
    have w0 := hI1.2.2.2.2.1 (8 * N.2.1 i) (by have := hI1.1; omega)
    have hw := M.hw.1
    have f4 : V2 104 = N.2.1 := by rw [hT.1 104 (by omega) (by omega) (by omega) (by omega), e4]
    have f5 : V2 105 = N.2.2.1 := by rw [hT.1 105 (by omega) (by omega) (by omega) (by omega), e5]
    refine S_al0 qX7_isSeen_42 ?_
    refine S_getR qX7_isSeen_43 fX7_29 e83_6 ?_
    refine S_bipush (d := qX7_isSeen_46) (k := ?_)
    refine S_al0 qX7_isSeen_48 ?_
    refine S_getR qX7_isSeen_49 fX7_108 e83_32 ?_
    refine S_il2 qX7_isSeen_52 ?_
    refine S_iald qX7_isSeen_53 a104 (K := ?_)
    rw [f4]
    refine S_imul qX7_isSeen_54 ?_
    refine S_iald qX7_isSeen_55 a88 (K := ?_)
    rw [M.w88]
    refine S_al0 qX7_isSeen_56 ?_
    refine S_getR qX7_isSeen_57 fX7_111 e83_33 ?_
    refine S_il2 qX7_isSeen_60 ?_
    refine S_iald qX7_isSeen_61 a105 (K := ?_)
    rw [f5]
    refine S_icmp_ne (d := qX7_isSeen_62) (kt := fun c62 => ?_) (kf := fun c62 => ?_)
    · refine S_iconst qX7_isSeen_69 ?_
      refine S_is1 qX7_isSeen_70 (K := ?_)
      refine S_al0 qX7_isSeen_71 ?_
      refine S_V0V hD qX7_isSeen_72 lX7_312 vX7_putBack r83 (m_putBack M K S hI0) (kk := fun V72 h72 => ?_)
      obtain ⟨M, hT72⟩ := h72
      have hT := hT.tr hT72
      refine S_inc2 qX7_isSeen_75 (K := ?_)
      refine S_goto qX7_isSeen_78 ?_
      refine SW.forget 3 ?_
      first
        | (rw [if_pos (show sn1 hs s N i = true from decide_eq_true c62)] at hx
           exact ih (i + 1) _ (by omega) (by omega) hT M hx)
        | (rw [if_neg (show ¬ sn1 hs s N i = true from fun q => c62 (of_decide_eq_true q))] at hx
           subst hx
           refine isn_0 (by omega) ?_ hz (hQ _ hT M)
           rw [hT.2 31 (by omega) (by omega), eN]
           exact n1)
    · refine S_iconst qX7_isSeen_65 ?_
      refine S_goto qX7_isSeen_66 ?_
      refine S_is1 qX7_isSeen_70 (K := ?_)
      refine S_al0 qX7_isSeen_71 ?_
      refine S_V0V hD qX7_isSeen_72 lX7_312 vX7_putBack r83 (m_putBack M K S hI0) (kk := fun V72 h72 => ?_)
      obtain ⟨M, hT72⟩ := h72
      have hT := hT.tr hT72
      refine S_inc2 qX7_isSeen_75 (K := ?_)
      refine S_goto qX7_isSeen_78 ?_
      refine SW.forget 3 ?_
      first
        | (rw [if_pos (show sn1 hs s N i = true from decide_eq_true c62)] at hx
           exact ih (i + 1) _ (by omega) (by omega) hT M hx)
        | (rw [if_neg (show ¬ sn1 hs s N i = true from fun q => c62 (of_decide_eq_true q))] at hx
           subst hx
           refine isn_0 (by omega) ?_ hz (hQ _ hT M)
           rw [hT.2 31 (by omega) (by omega), eN]
           exact n1)
theorem m_isSeen {g : GC} {V : MM} {hs : HS} {s : FS} {N : SN} (M : FM V hs s) (hb0 : s.2.1 ≤ 10000) (hN : snM V = N) (hNI : NInv s.1 N) : Ct g mX7_isSeen 8 [vr 83] V (RI (fun z V' => z = b2i (isS hs s N N.1.toNat 0) ∧ FM V' hs s ∧ Tm V V')) := by
  refine Ct.of (ls := [some (vr 83), none, none, none]) (plainFor_of_name (by decide +kernel)) rfl (by exact Nat.le_of_ble_eq_true rfl) (fun X hz hD => ?_)
  refine S_iconst qX7_isSeen_0 ?_
  refine S_is1 qX7_isSeen_1 (K := ?_)
  refine S_iconst qX7_isSeen_2 ?_
  refine S_is2 qX7_isSeen_3 (K := ?_)
  exact isn_out M.2.2.2 hb0 hN hNI hz hD (fun V' a b => ⟨_, rfl, rfl, b, a⟩) N.1.toNat 0 V (by omega) (by have := hNI.1; omega) (Tm.rf V) M rfl

theorem or_0 (x : Int) (hx : -2147483648 ≤ x ∧ x ≤ 2147483647) : (Int32.ofInt x ||| Int32.ofInt 0).toInt = x := by
  have e : Int32.ofInt x ||| Int32.ofInt 0 = Int32.ofInt x := by
    show Int32.ofInt x ||| 0 = _
    exact Int32.or_zero
  rw [e, io_toInt hx]
theorem mcan_loop {g : GC} {X : CX} {Q : Option AV → MM → Prop} {V : MM} {Z : ZT} {xf d bf : Int} (hZ : MA V Z) (rd : 0 ≤ d ∧ d < Z.1.1) (hbf : bf = Z.1.2.2.2.2.1 d) (hz : Fi g X (some .int) Q) (hD : Dp X 9) (hQ : ∀ V', Tm V V' → FM V' Z.2.1 Z.1 → Q (some (vi xf)) V') : ∀ (n : Nat) (o x y : Int) (V1 : MM), 0 ≤ o → o + n = Z.1.1 → Tm V V1 → FM V1 Z.2.1 (folS Z.1 d y) → (-2147483648 ≤ x ∧ x ≤ 2147483647) → canS Z.2.1 Z.1 Z.2.2.2.2.1 d n o x = xf → SW g X RX7 cX7_can 22 [some (vr 83), some (vi d), some (vi bf), some (vi x), some (vi o)] [] V1 := by
  obtain ⟨-, hI0, hn6, hbb, hwz, hkz⟩ := hZ.pf
  have hfo := hI0.2.2.2.1 d rd
  obtain ⟨hN, hNI⟩ := hZ.2.2.2.1
  intro n
  induction n with
  | zero =>
    intro o x y V1 h0 h1 hT M hxr hx
    have hs1 : (folS Z.1 d y).1 = Z.1.1 := rfl
    unfold canS at hx
    subst hx
    refine S_il4 qX7_can_22 ?_
    refine S_al0 qX7_can_24 ?_
    refine S_getI qX7_can_25 fX7_7 e83_0 ?_
    rw [M.n]
    refine S_icmp_ge (d := qX7_can_28) (kt := fun c28 => ?_) (kf := fun c28 => ?_)
    rotate_left
    · omega
    refine S_al0 qX7_can_63 ?_
    refine S_getR qX7_can_64 fX7_23 e83_4 ?_
    refine S_il1 qX7_can_67 ?_
    refine S_il2 qX7_can_68 ?_
    refine S_iast qX7_can_69 a86 (K := ?_)
    have q86 := fol_ft (d := d) (o := bf) M (by show _ ∧ _ < Z.1.1; omega) (by show _ ∧ _ < Z.1.1; omega)
    have M := q86.1
    rw [fol_2, hbf, fol_id, ← hbf] at M
    have hT := hT.tr q86.2
    refine S_il3 qX7_can_70 ?_
    refine S_iret hz qX7_can_71 ?_
    exact hQ _ hT M
  | succ n ih =>
    intro o x y V1 h0 h1 hT M hxr hx
    have hs1 : (folS Z.1 d y).1 = Z.1.1 := rfl
    unfold canS at hx
    refine S_il4 qX7_can_22 ?_
    refine S_al0 qX7_can_24 ?_
    refine S_getI qX7_can_25 fX7_7 e83_0 ?_
    rw [M.n]
    refine S_icmp_ge (d := qX7_can_28) (kt := fun c28 => ?_) (kf := fun c28 => ?_)
    · omega
    refine S_al0 qX7_can_31 ?_
    refine S_getR qX7_can_32 fX7_23 e83_4 ?_
    refine S_il1 qX7_can_35 ?_
    refine S_il4 qX7_can_36 ?_
    refine S_iast qX7_can_38 a86 (K := ?_)
    have q86 := fol_ft (d := d) (o := o) M (by show _ ∧ _ < Z.1.1; omega) (by show _ ∧ _ < Z.1.1; omega)
    have M := q86.1
    rw [fol_2] at M
    have hT := hT.tr q86.2
    have hb2 : (folS Z.1 d o).2.1 = Z.1.2.1 := rfl
    have eN : snM (upR V1 86 (ur (V1 86) d o)) = Z.2.2.2.2.1 := by
      rw [← hN]
      unfold snM
      rw [hT.2 31 (by omega) (by omega), hT.2 35 (by omega) (by omega), hT.2 36 (by omega) (by omega), hT.1 104 (by omega) (by omega) (by omega) (by omega), hT.1 105 (by omega) (by omega) (by omega) (by omega), hT.1 106 (by omega) (by omega) (by omega) (by omega), hT.1 107 (by omega) (by omega) (by omega) (by omega), hT.1 108 (by omega) (by omega) (by omega) (by omega), hT.1 109 (by omega) (by omega) (by omega) (by omega)]
    refine S_il3 qX7_can_39 ?_
    refine S_al0 qX7_can_40 ?_
    refine S_V0I hD qX7_can_41 lX7_336 vX7_isSeen r83 (m_isSeen (N := Z.2.2.2.2.1) M (by omega) eN hNI) (kk := fun z41 V41 h41 => ?_)
    obtain ⟨rfl, M, hT41⟩ := h41
    have hT := hT.tr hT41
    rw [isS_see hNI]
    have hb := b2i_c (seeS Z.2.1 Z.2.2.2.2.1 13 0 (folS Z.1 d o))
    refine S_if_eq (d := qX7_can_44) (kt := fun c44 => ?_) (kf := fun c44 => ?_)
    · refine S_iconst qX7_can_54 ?_
      refine S_ior qX7_can_55 ?_
      refine S_is3 qX7_can_56 (K := ?_)
      refine S_inc4 qX7_can_57 (K := ?_)
      refine S_goto qX7_can_60 ?_
      first
        | (have hq : seeS Z.2.1 Z.2.2.2.2.1 13 0 (folS Z.1 d o) = true := by
             cases h5 : seeS Z.2.1 Z.2.2.2.2.1 13 0 (folS Z.1 d o)
             · rw [h5] at c44; exact absurd rfl c44
             · rfl
           rw [if_pos hq] at hx
           exact ih (o + 1) _ _ _ (by omega) (by omega) hT M (io_rg _) hx)
        | (have hq : ¬ seeS Z.2.1 Z.2.2.2.2.1 13 0 (folS Z.1 d o) = true := by
             intro h5
             rw [h5] at c44
             exact absurd c44 (by decide)
           rw [if_neg hq] at hx
           rw [or_0 x hxr]
           exact ih (o + 1) _ _ _ (by omega) (by omega) hT M hxr hx)
    · refine S_iconst qX7_can_47 ?_
      refine S_il4 qX7_can_48 ?_
      refine S_ishl qX7_can_50 ?_
      refine S_goto qX7_can_51 ?_
      refine S_ior qX7_can_55 ?_
      refine S_is3 qX7_can_56 (K := ?_)
      refine S_inc4 qX7_can_57 (K := ?_)
      refine S_goto qX7_can_60 ?_
      first
        | (have hq : seeS Z.2.1 Z.2.2.2.2.1 13 0 (folS Z.1 d o) = true := by
             cases h5 : seeS Z.2.1 Z.2.2.2.2.1 13 0 (folS Z.1 d o)
             · rw [h5] at c44; exact absurd rfl c44
             · rfl
           rw [if_pos hq] at hx
           exact ih (o + 1) _ _ _ (by omega) (by omega) hT M (io_rg _) hx)
        | (have hq : ¬ seeS Z.2.1 Z.2.2.2.2.1 13 0 (folS Z.1 d o) = true := by
             intro h5
             rw [h5] at c44
             exact absurd c44 (by decide)
           rw [if_neg hq] at hx
           rw [or_0 x hxr]
           exact ih (o + 1) _ _ _ (by omega) (by omega) hT M hxr hx)
theorem m_can {g : GC} {V : MM} {Z : ZT} {d : Int} (hZ : MA V Z) (rd : -2147483648 ≤ d ∧ d ≤ 2147483647) : Ct g mX7_can 9 [vr 83, vi d] V (RM V (oCan Z d) Z) := by
  refine Ct.of (ls := [some (vr 83), some (vi d), none, none, none]) (plainFor_of_name (by decide +kernel)) rfl (by exact Nat.le_of_ble_eq_true rfl) (fun X hz hD => ?_)
  obtain ⟨M, hI0, hn6, hbb, hwz, hkz⟩ := hZ.pf
  have hT := Tm.rf V
  refine S_al0 qX7_can_0 ?_
  refine S_il1 qX7_can_1 ?_
  refine S_V1B hD qX7_can_2 lX7_218 vX7_isDancer r83 (m_isDancer M (by omega)) (kt := fun j2 => ?_) (kf := fun j2 => ?_)
  · refine S_if_ne (d := qX7_can_5) (kt := fun _ => ?_) (kf := fun c => absurd c (by decide))
    refine S_al0 qX7_can_10 ?_
    refine S_getR qX7_can_11 fX7_23 e83_4 ?_
    refine S_il1 qX7_can_14 ?_
    refine S_iald qX7_can_15 a86 (K := ?_)
    rw [M.w86]
    refine S_is2 qX7_can_16 (K := ?_)
    refine S_iconst qX7_can_17 ?_
    refine S_is3 qX7_can_18 (K := ?_)
    refine S_iconst qX7_can_19 ?_
    refine S_is4 qX7_can_20 (K := ?_)
    have M' : FM V Z.2.1 (folS Z.1 d (Z.1.2.2.2.2.1 d)) := by rw [fol_id]; exact M
    refine mcan_loop hZ (by omega) rfl hz hD (fun V' p q => RM.tm hZ p q ?_) Z.1.1.toNat 0 _ _ _ (by omega) (by omega) hT M' (by omega) rfl
    symm
    unfold oCan
    rw [if_neg (by omega)]
  · refine S_if_ne (d := qX7_can_5) (kt := fun c => absurd c (by decide)) (kf := fun _ => ?_)
    refine S_iconst qX7_can_8 ?_
    refine S_iret hz qX7_can_9 ?_
    refine RM.same hZ ?_
    unfold oCan
    first | (rw [if_pos (by omega)]; done) | (rw [if_neg (by omega), if_pos (by omega)]; done) | (rw [if_neg (by omega), if_neg (by omega), if_pos (by omega)]; done)
