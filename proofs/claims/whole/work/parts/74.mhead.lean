theorem ta_tw {T : Int → Int} {L : Int} (hL : L ≤ 100) {i : Nat} {a : Int} : ∀ (n : Nat) (j : Int) (s : ST), (∀ k : Int, 0 ≤ k ∧ k < n → byS i (j + k) = letL.getD (a + j + k).toNat 0 ∧ 0 ≤ byS i (j + k) ∧ byS i (j + k) ≤ 127) → byS i (j + n) = 32 → (taL T L i (n + 1) j s).1 = (twM T L n (a + j) s.1).1 ∧ (taL T L i (n + 1) j s).2 = ((twM T L n (a + j) s.1).2, s.2) := by
  intro n
  induction n with
  | zero =>
    intro j s h h2
    have e : byS i j = 32 := by rw [← h2]; exact congrArg _ (by omega)
    have q := nx_ah (T := T) (L := L) (p := s.1) (c := 32) hL (by omega)
    unfold taL twM
    rw [e]
    by_cases c : ahS T L s.1 = 32
    · rw [if_pos c, if_pos (q.mpr c)]
      exact ⟨rfl, rfl⟩
    · rw [if_neg c, if_neg (fun x => c (q.mp x))]
      exact ⟨rfl, rfl⟩
  | succ n ih =>
    intro j s h h2
    have h0 := h 0 (by omega)
    rw [Int.add_zero, Int.add_zero] at h0
    have q := nx_ah (T := T) (L := L) (p := s.1) (c := byS i j) hL h0.2
    have hi := ih (j + 1) (s.1 + 1, s.2) (fun k hk => by
      have h3 := h (k + 1) (by omega)
      rw [show j + (k + 1) = j + 1 + k by omega, show a + j + (k + 1) = a + (j + 1) + k by omega] at h3
      exact h3) (by rw [← h2]; exact congrArg _ (by omega))
    rw [show a + (j + 1) = a + j + 1 by omega] at hi
    unfold taL twM
    rw [← h0.1]
    by_cases c : ahS T L s.1 = byS i j
    · rw [if_pos c, if_pos (q.mpr c)]
      exact hi
    · rw [if_neg c, if_neg (fun x => c (q.mp x))]
      exact ⟨rfl, rfl⟩
def hdA (i : Nat) : Int := match i with | 0 => 0 | 1 => 4 | 2 => 9 | _ => 13
def hdN (i : Nat) : Nat := match i with | 1 => 5 | _ => 4
theorem hd_dec : ∀ i : Fin 4, lnS i.1 = hdN i.1 + 1 ∧ byS i.1 (hdN i.1 : Int) = 32 ∧ ∀ k : Fin 5, k.1 < hdN i.1 → byS i.1 (k.1 : Int) = letL.getD (hdA i.1 + (k.1 : Int)).toNat 0 ∧ 0 ≤ byS i.1 (k.1 : Int) ∧ byS i.1 (k.1 : Int) ≤ 127 := by decide +kernel
theorem hd_tw {T : Int → Int} {L : Int} (hL : L ≤ 100) {i : Nat} (hi : i < 4) (s : ST) : (taL T L i (lnS i) 0 s).1 = (twM T L (hdN i) (hdA i) s.1).1 ∧ (taL T L i (lnS i) 0 s).2 = ((twM T L (hdN i) (hdA i) s.1).2, s.2) := by
  obtain ⟨h1, h2, h3⟩ := hd_dec ⟨i, hi⟩
  replace h1 : lnS i = hdN i + 1 := h1
  have hn : hdN i ≤ 5 := by unfold hdN; split <;> omega
  have h := ta_tw (T := T) (L := L) hL (i := i) (a := hdA i) (hdN i) 0 s (fun k hk => by
    have h4 := h3 ⟨k.toNat, by omega⟩ (by show k.toNat < hdN i; omega)
    rw [show ((k.toNat : Nat) : Int) = k by omega] at h4
    rw [Int.zero_add, Int.add_zero]
    exact h4) (by rw [Int.zero_add]; exact h2)
  rw [h1]
  rw [Int.add_zero] at h
  exact h
theorem las_last {V : MM} {w : Int} : ∀ (n : Nat) (c0 n0 : Int), lasM V w (n + 1) c0 n0 = if V 91 (c0 + n) = w then V 92 (c0 + n) else lasM V w n c0 n0 := by
  intro n
  induction n with
  | zero => intro c0 n0; rw [show c0 + ((0 : Nat) : Int) = c0 by omega]; rfl
  | succ n ih =>
    intro c0 n0
    show lasM V w (n + 1) (c0 + 1) _ = _
    rw [ih, show c0 + 1 + (n : Int) = c0 + ((n + 1 : Nat) : Int) by omega]
    rfl
def ad1 (V : MM) (s : FS) (d c a : Int) : Int := if V 91 c ≤ 1 ∧ hldM V c s d = true then (if V 91 c = 0 then a + V 92 c else a + -(V 92 c)) else a
theorem sum_last {V : MM} {s : FS} {d : Int} : ∀ (n : Nat) (c0 a : Int), sumM V s d (n + 1) c0 a = ad1 V s d (c0 + n) (sumM V s d n c0 a) := by
  intro n
  induction n with
  | zero => intro c0 a; rw [show c0 + ((0 : Nat) : Int) = c0 by omega]; rfl
  | succ n ih =>
    intro c0 a
    show sumM V s d (n + 1) (c0 + 1) _ = _
    rw [ih, show c0 + 1 + (n : Int) = c0 + ((n + 1 : Nat) : Int) by omega]
    rfl
def frS2 (en : Int → Int) (n : Nat) (i fr : Int) : Int := match n with | 0 => fr | n + 1 => en (i + n)
theorem stC_last (am en co : Int → Int) (s : FS) (d : Int) : ∀ (n : Nat) (i fr sum : Int), stC am en co s d (n + 1) i fr sum = if holC co s d (frS2 en n i fr) (en (i + n)) then stC am en co s d n i fr sum + am (i + n) else stC am en co s d n i fr sum := by
  intro n
  induction n with
  | zero => intro i fr sum; rw [show i + ((0 : Nat) : Int) = i by omega]; rfl
  | succ n ih =>
    intro i fr sum
    show stC am en co s d (n + 1) (i + 1) (en i) _ = _
    rw [ih, show i + 1 + (n : Int) = i + ((n + 1 : Nat) : Int) by omega]
    have e : frS2 en n (i + 1) (en i) = frS2 en (n + 1) i fr := by
      match n with
      | 0 => show en i = en (i + ((0 : Nat) : Int)); rw [show i + ((0 : Nat) : Int) = i by omega]
      | n + 1 => show en (i + 1 + n) = en (i + ((n + 1 : Nat) : Int)); exact congrArg _ (by omega)
    rw [e]
    rfl
theorem evM_cong {sg sg' : Int → Int} (s : FS) (d : Int) : ∀ (n : Nat) (i : Int) (st : List Bool), (∀ j, i ≤ j ∧ j < i + n → sg j = sg' j) → evM sg s d n i st = evM sg' s d n i st := by
  intro n
  induction n with
  | zero => intro i st h; rfl
  | succ n ih =>
    intro i st h
    unfold evM
    rw [h i (by omega)]
    cases st1M (sg' i) s d st with
    | none => rfl
    | some st' => exact ih (i + 1) st' (fun j hj => h j (by omega))
theorem hld_c {V V' : MM} {c : Int} (h3 : V' 93 c = V 93 c) (h4 : V' 94 c = V 94 c) (h5 : ∀ i, V 93 c ≤ i ∧ i < V 94 c → V' 95 i = V 95 i) (s : FS) (d : Int) : hldM V' c s d = hldM V c s d := by
  unfold hldM
  rw [h3, h4, evM_cong s d _ _ _ (fun j hj => h5 j (by omega))]
theorem sum_c {V V' : MM} {s : FS} {d e : Int} : ∀ (n : Nat) (c a : Int), c + n = e → (∀ j, c ≤ j ∧ j < e → V' 91 j = V 91 j ∧ V' 92 j = V 92 j ∧ (V 91 j ≤ 1 → hldM V' j s d = hldM V j s d)) → sumM V' s d n c a = sumM V s d n c a := by
  intro n
  induction n with
  | zero => intro c a h0 h; rfl
  | succ n ih =>
    intro c a h0 h
    obtain ⟨h1, h2, h3⟩ := h c (by omega)
    unfold sumM
    rw [h1, h2]
    by_cases q : V 91 c ≤ 1
    · rw [h3 q, ih _ _ (by omega) (fun j hj => h j (by omega))]
    · rw [if_neg (fun x => q x.1), if_neg (fun x => q x.1), ih _ _ (by omega) (fun j hj => h j (by omega))]
theorem las_c {V V' : MM} {w e : Int} : ∀ (n : Nat) (c a : Int), c + n = e → (∀ j, c ≤ j ∧ j < e → V' 91 j = V 91 j ∧ V' 92 j = V 92 j) → lasM V' w n c a = lasM V w n c a := by
  intro n
  induction n with
  | zero => intro c a h0 h; rfl
  | succ n ih =>
    intro c a h0 h
    unfold lasM
    rw [(h c (by omega)).1, (h c (by omega)).2, ih _ _ (by omega) (fun j hj => h j (by omega))]
/-- a clause's table entries mean the same elsewhere -/
theorem clok_c {V V' : MM} {c : Int} (h : ClOK V c) (h1 : V' 91 c = V 91 c) (h2 : V' 92 c = V 92 c) (h3 : V' 93 c = V 93 c) (h4 : V' 94 c = V 94 c) (h5 : V 91 c ≤ 1 → ∀ i, V 93 c ≤ i ∧ i < V 94 c → V' 95 i = V 95 i) : ClOK V' c := by
  obtain ⟨a, b, d, e⟩ := h
  refine ⟨by rw [h1]; exact a, by rw [h2]; exact b, fun q => ?_, by rw [h1, h3, h4]; exact e⟩
  rw [h1] at q
  obtain ⟨x, y, z⟩ := d q
  rw [h3, h4]
  refine ⟨x, fun k hk => by rw [h5 q k hk]; exact y k hk, fun s dd => ?_⟩
  obtain ⟨v, hv⟩ := z s dd
  exact ⟨v, by rw [← hv]; exact evM_cong s dd _ _ _ (fun j hj => h5 q j (by omega))⟩
/-- the reading of hall f has changed so much -/
def Px (V0 V : MM) (f : Int) : Prop := (∀ k : Nat, k ≠ 83 → k < 90 ∨ 97 ≤ k → V k = V0 k) ∧ (∀ j : Int, j ≠ 10 → j ≠ 11 → j ≠ 20 → j ≠ 21 → j ≠ 22 → V 83 j = V0 83 j) ∧ (∀ k : Nat, 91 ≤ k ∧ k ≤ 94 → ∀ i : Int, i < 10 * f → V k i = V0 k i) ∧ (∀ i : Int, i < 100 * f → V 95 i = V0 95 i) ∧ ∀ i : Int, i ≠ f → V 90 i = V0 90 i
theorem Px.rf (V : MM) (f : Int) : Px V V f := ⟨fun _ _ _ => rfl, fun _ _ _ _ _ _ => rfl, fun _ _ _ _ => rfl, fun _ _ => rfl, fun _ _ => rfl⟩
theorem Px.tr {V V1 V2 : MM} {f : Int} (h : Px V V1 f) (h2 : Px V1 V2 f) : Px V V2 f := ⟨fun k a b => (h2.1 k a b).trans (h.1 k a b), fun j a b c d e => (h2.2.1 j a b c d e).trans (h.2.1 j a b c d e), fun k a i b => (h2.2.2.1 k a i b).trans (h.2.2.1 k a i b), fun i a => (h2.2.2.2.1 i a).trans (h.2.2.2.1 i a), fun i a => (h2.2.2.2.2 i a).trans (h.2.2.2.2 i a)⟩
theorem At.px {V V' : MM} (h : At V V') (f : Int) : Px V V' f := ⟨fun k a b => h.1 k a, fun j a b c d e => h.2 j a b, fun k a i b => by rw [h.1 k (by omega)], fun i a => by rw [h.1 95 (by omega)], fun i a => by rw [h.1 90 (by omega)]⟩
theorem up_px {V : MM} {k : Nat} {f i x : Int} (hk : 91 ≤ k ∧ k ≤ 94) (hi : 10 * f ≤ i) : Px V (upR V k (ur (V k) i x)) f := ⟨fun j a b => upR_n _ (by omega), fun j a b c d e => by rw [upR_n _ (by omega)], fun j a q b => by
  by_cases e : j = k
  · rw [e, upR_s, ur_n _ (by omega)]
  · rw [upR_n _ e], fun q a => by rw [upR_n _ (by omega)], fun q a => by rw [upR_n _ (by omega)]⟩
theorem Pe.px {V V' : MM} {c g0 f : Int} (h : Pe V V' c g0) (hc : 10 * f ≤ c) (hg : 100 * f ≤ g0) : Px V V' f := ⟨fun k a b => h.1 k a (by omega) (by omega) (by omega), h.2.1, fun k a i b => by
  by_cases e : k = 94
  · rw [e, h.2.2.2 i (by omega)]
  · rw [h.1 k (by omega) e (by omega) (by omega)], fun i a => h.2.2.1 i (by omega), fun i a => by rw [h.1 90 (by omega) (by omega) (by omega) (by omega)]⟩

theorem m_takesHead {g : GC} {V : MM} {T : Int → Int} {L c f : Int} {s : ST} (hl : MAl V) (hX : TX V T L s.1) (hc : 10 * f ≤ c ∧ 0 ≤ c ∧ c < 60) : Ct g mX7_takesHead 4 [vr 83, vi c] V (RI (fun z V' => z = b2i (taL T L (woN (ahS T L s.1)) (lnS (woN (ahS T L s.1))) 0 s).1 ∧ At (upR V 91 (ur (V 91) c (woN (ahS T L s.1) : Int))) V' ∧ TX V' T L (taL T L (woN (ahS T L s.1)) (lnS (woN (ahS T L s.1))) 0 s).2.1)) := by
  refine Ct.of (ls := [some (vr 83), some (vi c)]) (plainFor_of_name (by decide +kernel)) rfl (by exact Nat.le_of_ble_eq_true rfl) (fun X hz hD => ?_)
  have hr := nxm_rg hX
  have hL := hX.2.2.2.2.1.2
  have n1 := nx_ah (T := T) (L := L) (p := s.1) (c := 108) hL (by omega)
  have n2 := nx_ah (T := T) (L := L) (p := s.1) (c := 114) hL (by omega)
  have n3 := nx_ah (T := T) (L := L) (p := s.1) (c := 119) hL (by omega)
  have hu : ∀ x : Int, TX (upR V 91 (ur (V 91) c x)) T L s.1 := fun x => by
    obtain ⟨h1, h2, h3, h4, h5, h6⟩ := hX
    exact ⟨by rw [upR_n _ (by omega)]; exact h1, by rw [upR_n _ (by omega)]; exact h2, by rw [upR_n _ (by omega)]; exact h3, h4, h5, h6⟩
  have hlu : ∀ x : Int, MAl (upR V 91 (ur (V 91) c x)) := fun x => MAl_c hl (upR_n _ (by omega))
  refine S_al0 qX7_takesHead_0 ?_
  refine S_V0E hD qX7_takesHead_1 lX7_222 vX7_next r83 (m_next hX) (K := ?_)
  by_cases s4_108 : nxM T L s.1 = 108
  · refine S_lookup (tgt := 40) (off := 36) qX7_takesHead_4 (by decide +kernel) (by omega) (by rw [s4_108]; decide +kernel) (by decide) ?_
    refine S_al0 qX7_takesHead_40 ?_
    refine S_getR qX7_takesHead_41 fX7_53 e83_14 ?_
    refine S_il1 qX7_takesHead_44 ?_
    refine S_iconst qX7_takesHead_45 ?_
    refine S_iast qX7_takesHead_46 a91 (K := ?_)
    refine S_al0 qX7_takesHead_47 ?_
    refine S_iconst qX7_takesHead_48 ?_
    refine S_iconst qX7_takesHead_49 ?_
    refine S_V2I hD qX7_takesHead_50 lX7_252 vX7_takesWord r83 (m_takesWord (hlu _) (hu _) (by omega)) (kk := fun z50 V50 h50 => ?_)
    obtain ⟨rfl, hA, hX2⟩ := h50
    have ew : woN (ahS T L s.1) = 0 := by unfold woN; first | (rw [if_pos (by omega)]; done) | (rw [if_neg (by omega), if_pos (by omega)]; done) | (rw [if_neg (by omega), if_neg (by omega), if_pos (by omega)]; done) | (rw [if_neg (by omega), if_neg (by omega), if_neg (by omega)]; done)
    rw [ew] at hz
    have hh := hd_tw (T := T) (L := L) hL (i := 0) (by omega) s
    have hb := b2i_c (taL T L 0 (lnS 0) 0 s).1
    have e := hh.1
    have e2 := congrArg (fun q : ST => q.1) hh.2
    replace e : (taL T L 0 (lnS 0) 0 s).1 = (twM T L (4 : Int).toNat 0 s.1).1 := e
    replace e2 : (taL T L 0 (lnS 0) 0 s).2.1 = (twM T L (4 : Int).toNat 0 s.1).2 := e2
    rw [e] at hb
    refine S_zret hz qX7_takesHead_53 (by omega) ?_
    rw [← e2] at hX2
    exact ⟨_, rfl, by rw [e], hA, hX2⟩
  by_cases s4_114 : nxM T L s.1 = 114
  · refine S_lookup (tgt := 54) (off := 50) qX7_takesHead_4 (by decide +kernel) (by omega) (by rw [s4_114]; decide +kernel) (by decide) ?_
    refine S_al0 qX7_takesHead_54 ?_
    refine S_getR qX7_takesHead_55 fX7_53 e83_14 ?_
    refine S_il1 qX7_takesHead_58 ?_
    refine S_iconst qX7_takesHead_59 ?_
    refine S_iast qX7_takesHead_60 a91 (K := ?_)
    refine S_al0 qX7_takesHead_61 ?_
    refine S_iconst qX7_takesHead_62 ?_
    refine S_iconst qX7_takesHead_63 ?_
    refine S_V2I hD qX7_takesHead_64 lX7_252 vX7_takesWord r83 (m_takesWord (hlu _) (hu _) (by omega)) (kk := fun z64 V64 h64 => ?_)
    obtain ⟨rfl, hA, hX2⟩ := h64
    have ew : woN (ahS T L s.1) = 1 := by unfold woN; first | (rw [if_pos (by omega)]; done) | (rw [if_neg (by omega), if_pos (by omega)]; done) | (rw [if_neg (by omega), if_neg (by omega), if_pos (by omega)]; done) | (rw [if_neg (by omega), if_neg (by omega), if_neg (by omega)]; done)
    rw [ew] at hz
    have hh := hd_tw (T := T) (L := L) hL (i := 1) (by omega) s
    have hb := b2i_c (taL T L 1 (lnS 1) 0 s).1
    have e := hh.1
    have e2 := congrArg (fun q : ST => q.1) hh.2
    replace e : (taL T L 1 (lnS 1) 0 s).1 = (twM T L (5 : Int).toNat 4 s.1).1 := e
    replace e2 : (taL T L 1 (lnS 1) 0 s).2.1 = (twM T L (5 : Int).toNat 4 s.1).2 := e2
    rw [e] at hb
    refine S_zret hz qX7_takesHead_67 (by omega) ?_
    rw [← e2] at hX2
    exact ⟨_, rfl, by rw [e], hA, hX2⟩
  by_cases s4_119 : nxM T L s.1 = 119
  · refine S_lookup (tgt := 68) (off := 64) qX7_takesHead_4 (by decide +kernel) (by omega) (by rw [s4_119]; decide +kernel) (by decide) ?_
    refine S_al0 qX7_takesHead_68 ?_
    refine S_getR qX7_takesHead_69 fX7_53 e83_14 ?_
    refine S_il1 qX7_takesHead_72 ?_
    refine S_iconst qX7_takesHead_73 ?_
    refine S_iast qX7_takesHead_74 a91 (K := ?_)
    refine S_al0 qX7_takesHead_75 ?_
    refine S_bipush (d := qX7_takesHead_76) (k := ?_)
    refine S_iconst qX7_takesHead_78 ?_
    refine S_V2I hD qX7_takesHead_79 lX7_252 vX7_takesWord r83 (m_takesWord (hlu _) (hu _) (by omega)) (kk := fun z79 V79 h79 => ?_)
    obtain ⟨rfl, hA, hX2⟩ := h79
    have ew : woN (ahS T L s.1) = 2 := by unfold woN; first | (rw [if_pos (by omega)]; done) | (rw [if_neg (by omega), if_pos (by omega)]; done) | (rw [if_neg (by omega), if_neg (by omega), if_pos (by omega)]; done) | (rw [if_neg (by omega), if_neg (by omega), if_neg (by omega)]; done)
    rw [ew] at hz
    have hh := hd_tw (T := T) (L := L) hL (i := 2) (by omega) s
    have hb := b2i_c (taL T L 2 (lnS 2) 0 s).1
    have e := hh.1
    have e2 := congrArg (fun q : ST => q.1) hh.2
    replace e : (taL T L 2 (lnS 2) 0 s).1 = (twM T L (4 : Int).toNat 9 s.1).1 := e
    replace e2 : (taL T L 2 (lnS 2) 0 s).2.1 = (twM T L (4 : Int).toNat 9 s.1).2 := e2
    rw [e] at hb
    refine S_zret hz qX7_takesHead_82 (by omega) ?_
    rw [← e2] at hX2
    exact ⟨_, rfl, by rw [e], hA, hX2⟩
  refine S_lookup (tgt := 83) (off := 79) qX7_takesHead_4 (by decide +kernel) (by omega) (by simp [Op.lookupswitch.offset, s4_108, Ne.symm s4_108, s4_114, Ne.symm s4_114, s4_119, Ne.symm s4_119]) (by decide) ?_
  refine S_al0 qX7_takesHead_83 ?_
  refine S_getR qX7_takesHead_84 fX7_53 e83_14 ?_
  refine S_il1 qX7_takesHead_87 ?_
  refine S_iconst qX7_takesHead_88 ?_
  refine S_iast qX7_takesHead_89 a91 (K := ?_)
  refine S_al0 qX7_takesHead_90 ?_
  refine S_bipush (d := qX7_takesHead_91) (k := ?_)
  refine S_iconst qX7_takesHead_93 ?_
  refine S_V2I hD qX7_takesHead_94 lX7_252 vX7_takesWord r83 (m_takesWord (hlu _) (hu _) (by omega)) (kk := fun z94 V94 h94 => ?_)
  obtain ⟨rfl, hA, hX2⟩ := h94
  have ew : woN (ahS T L s.1) = 3 := by unfold woN; first | (rw [if_pos (by omega)]; done) | (rw [if_neg (by omega), if_pos (by omega)]; done) | (rw [if_neg (by omega), if_neg (by omega), if_pos (by omega)]; done) | (rw [if_neg (by omega), if_neg (by omega), if_neg (by omega)]; done)
  rw [ew] at hz
  have hh := hd_tw (T := T) (L := L) hL (i := 3) (by omega) s
  have hb := b2i_c (taL T L 3 (lnS 3) 0 s).1
  have e := hh.1
  have e2 := congrArg (fun q : ST => q.1) hh.2
  replace e : (taL T L 3 (lnS 3) 0 s).1 = (twM T L (4 : Int).toNat 13 s.1).1 := e
  replace e2 : (taL T L 3 (lnS 3) 0 s).2.1 = (twM T L (4 : Int).toNat 13 s.1).2 := e2
  rw [e] at hb
  refine S_zret hz qX7_takesHead_97 (by omega) ?_
  rw [← e2] at hX2
  exact ⟨_, rfl, by rw [e], hA, hX2⟩