/-- n places of a row from a on become z -/
def lz (r : Int → Int) (a z n : Int) : Int → Int := fun i => if a ≤ i ∧ i < a + n then z else r i
theorem lz_0 (r : Int → Int) (a z : Int) : lz r a z 0 = r := by
  funext i
  unfold lz
  rw [if_neg (by omega)]
theorem lz_1 (r : Int → Int) {a z n j : Int} (h : 0 ≤ n) (hj : j = a + n) : ur (lz r a z n) j z = lz r a z (n + 1) := by
  funext i
  subst hj
  unfold ur lz
  by_cases h1 : i = a + n
  · rw [if_pos h1, if_pos (by omega)]
  · rw [if_neg h1]
    by_cases h2 : a ≤ i ∧ i < a + n
    · rw [if_pos h2, if_pos (by omega)]
    · rw [if_neg h2, if_neg (by omega)]
def wrS (w : Int) (r : Int → Int) (n : Int) : Int → Int := fun i => if 0 ≤ i ∧ i < n then r i % w else r i
theorem wrS_0 (w : Int) (r : Int → Int) : wrS w r 0 = r := by
  funext i
  unfold wrS
  rw [if_neg (by omega)]
theorem wrS_1 (w : Int) (r : Int → Int) {n : Int} (h : 0 ≤ n) : ur (wrS w r n) n (r n % w) = wrS w r (n + 1) := by
  funext i
  unfold ur wrS
  by_cases h1 : i = n
  · subst h1; rw [if_pos rfl, if_pos (by omega)]
  · rw [if_neg h1]
    by_cases h2 : 0 ≤ i ∧ i < n
    · rw [if_pos h2, if_pos (by omega)]
    · rw [if_neg h2, if_neg (by omega)]
def joiS (s : FS) (k v p : Int) : FS := (s.1 + 1, s.2.1, ur s.2.2.1 s.1 k, ur s.2.2.2.1 s.1 v, ur s.2.2.2.2.1 s.1 s.1, layS s.2.2.2.2.2.1 s.1 p 8, lz s.2.2.2.2.2.2 (4 * s.1) 0 4)
theorem joi_inv {w : Int} {s : FS} {k v p : Int} (hI : FInv w s) (hn : s.1 < 6) (hk : 0 ≤ k ∧ k ≤ 6) (hv : 0 ≤ v ∧ v ≤ 9) (hp : 0 ≤ p ∧ p < w) : FInv w (joiS s k v p) := by
  obtain ⟨h1, h2, h3, h4, h5, h6⟩ := hI
  refine ⟨?_, h2, fun d hd => ?_, fun d hd => ?_, fun i hi => ?_, fun i hi => ?_⟩
  · show 0 ≤ s.1 + 1 ∧ s.1 + 1 ≤ 6; omega
  · have := h3 d hd
    show (0 ≤ ur s.2.2.1 s.1 k d ∧ ur s.2.2.1 s.1 k d ≤ 6) ∧ (0 ≤ ur s.2.2.2.1 s.1 v d ∧ ur s.2.2.2.1 s.1 v d ≤ 9)
    unfold ur
    split <;> omega
  · replace hd : 0 ≤ d ∧ d < s.1 + 1 := hd
    show 0 ≤ ur s.2.2.2.2.1 s.1 s.1 d ∧ ur s.2.2.2.2.1 s.1 s.1 d < s.1 + 1
    unfold ur
    split
    · omega
    · have := h4 d (by omega); omega
  · have := h5 i hi
    show 0 ≤ layS s.2.2.2.2.2.1 s.1 p 8 i ∧ layS s.2.2.2.2.2.1 s.1 p 8 i < w
    unfold layS
    split <;> omega
  · have := h6 i hi
    show 0 ≤ lz s.2.2.2.2.2.2 (4 * s.1) 0 4 i ∧ lz s.2.2.2.2.2.2 (4 * s.1) 0 4 i ≤ 9
    unfold lz
    split <;> omega

theorem join_loop {g : GC} {X : CX} {f : Nat} {V1 : MM} {k v p n0 : Int} (hf : isF f) (rn : 0 ≤ n0 ∧ n0 < 6) (hD : Dp X 3) (hk : ∀ V2, V2 = upR V1 (f + 5) (lz (V1 (f + 5)) (4 * n0) 0 4) → SW g X RX2 cX2_join 88 [some (vr f), some (vi k), some (vi v), some (vi p), some (vi n0), none] [] V2) : ∀ (n : Nat) (b : Int) (V2 : MM), 0 ≤ b → b + n = 4 → V2 = upR V1 (f + 5) (lz (V1 (f + 5)) (4 * n0) 0 b) → SW g X RX2 cX2_join 63 [some (vr f), some (vi k), some (vi v), some (vi p), some (vi n0), some (vi b)] [] V2 := by
  intro n
  induction n with
  | zero =>
    intro b V2 h0 h1 hV
    have e : b = 4 := by omega
    subst e
    refine S_il5 qX2_join_63 ?_
    refine S_iconst qX2_join_65 ?_
    refine S_icmp_ge (d := qX2_join_66) (kt := fun c66 => ?_) (kf := fun c66 => ?_)
    rotate_left
    · omega
    exact SW.forget 5 (hk V2 hV)
  | succ n ih =>
    intro b V2 h0 h1 hV
    have e5 : V2 (f + 5) = lz (V1 (f + 5)) (4 * n0) 0 b := by rw [hV, upR_s]
    refine S_il5 qX2_join_63 ?_
    refine S_iconst qX2_join_65 ?_
    refine S_icmp_ge (d := qX2_join_66) (kt := fun c66 => ?_) (kf := fun c66 => ?_)
    · omega
    refine S_al0 qX2_join_69 ?_
    refine S_getR qX2_join_70 fX2_24 (F_7 hf) ?_
    refine S_il4 qX2_join_73 ?_
    refine S_iconst qX2_join_75 ?_
    refine S_imul qX2_join_76 ?_
    refine S_il5 qX2_join_77 ?_
    refine S_iadd qX2_join_79 ?_
    refine S_iconst qX2_join_80 ?_
    refine S_iast qX2_join_81 (Fa_5 hf) (K := ?_)
    refine S_inc5 qX2_join_82 (K := ?_)
    refine S_goto qX2_join_85 ?_
    refine ih (b + 1) _ (by omega) (by omega) ?_
    rw [e5, lz_1 _ h0 (by omega), hV, upR_u]
theorem c_joinM {g : GC} {f : Nat} {V : MM} {k v p : Int} (hf : isF f) (hn : 0 ≤ V f 0 ∧ V f 0 < 6) (rp : 0 ≤ p ∧ p < 99) : Ct g mX2_join 3 [vr f, vi k, vi v, vi p] V (fun r V' => r = some (vi (V f 0)) ∧ V' = upR (upR (upR (upR (upR (upR V f (ur (V f) 0 (V f 0 + 1))) (f + 1) (ur (V (f + 1)) (V f 0) k)) (f + 2) (ur (V (f + 2)) (V f 0) v)) (f + 3) (ur (V (f + 3)) (V f 0) (V f 0))) (f + 5) (lz (V (f + 5)) (4 * V f 0) 0 4)) (f + 4) (layS (V (f + 4)) (V f 0) p 8)) := by
  refine Ct.of (ls := [some (vr f), some (vi k), some (vi v), some (vi p), none, none]) (plainFor_of_name (by decide +kernel)) rfl (by exact Nat.le_of_ble_eq_true rfl) (fun X hz hD => ?_)
  refine S_al0 qX2_join_0 ?_
  refine S_getI qX2_join_1 fX2_34 (F_0 hf) ?_
  refine S_if_lt (d := qX2_join_4) (kt := fun c4 => ?_) (kf := fun c4 => ?_)
  · omega
  refine S_al0 qX2_join_7 ?_
  refine S_getI qX2_join_8 fX2_34 (F_0 hf) ?_
  refine S_bipush (d := qX2_join_11) (k := ?_)
  refine S_icmp_lt (d := qX2_join_13) (kt := fun c13 => ?_) (kf := fun c13 => ?_)
  rotate_left
  · omega
  refine S_al0 qX2_join_19 ?_
  refine S_getI qX2_join_20 fX2_34 (F_0 hf) ?_
  refine S_is4 qX2_join_23 (K := ?_)
  refine S_al0 qX2_join_25 ?_
  refine S_dup (d := qX2_join_26) (k := ?_)
  refine S_getI qX2_join_27 fX2_34 (F_0 hf) ?_
  refine S_iconst qX2_join_30 ?_
  refine S_iadd qX2_join_31 ?_
  refine S_putI qX2_join_32 fX2_34 (F_0 hf) tX2_0 ?_
  refine S_al0 qX2_join_35 ?_
  refine S_getR qX2_join_36 fX2_9 (F_3 hf) ?_
  refine S_il4 qX2_join_39 ?_
  refine S_il1 qX2_join_41 ?_
  refine S_iast qX2_join_42 (Fa_1 hf) (K := ?_)
  refine S_al0 qX2_join_43 ?_
  refine S_getR qX2_join_44 fX2_15 (F_4 hf) ?_
  refine S_il4 qX2_join_47 ?_
  refine S_il2 qX2_join_49 ?_
  refine S_iast qX2_join_50 (Fa_2 hf) (K := ?_)
  refine S_al0 qX2_join_51 ?_
  refine S_getR qX2_join_52 fX2_18 (F_5 hf) ?_
  refine S_il4 qX2_join_55 ?_
  refine S_il4 qX2_join_57 ?_
  refine S_iast qX2_join_59 (Fa_3 hf) (K := ?_)
  refine S_iconst qX2_join_60 ?_
  refine S_is5 qX2_join_61 (K := ?_)
  refine join_loop hf hn hD (fun V2 hV2 => ?_) 4 0 _ (by omega) (by omega) (by rw [lz_0, upR_id])
  have f0 : V2 f 0 = V f 0 + 1 := by
    rw [hV2]
    simp only [upR_n _ (show f ≠ f + 1 by omega), upR_n _ (show f ≠ f + 2 by omega), upR_n _ (show f ≠ f + 3 by omega), upR_n _ (show f ≠ f + 4 by omega), upR_n _ (show f ≠ f + 5 by omega), upR_n _ (show f + 1 ≠ f by omega), upR_n _ (show f + 1 ≠ f + 2 by omega), upR_n _ (show f + 1 ≠ f + 3 by omega), upR_n _ (show f + 1 ≠ f + 4 by omega), upR_n _ (show f + 1 ≠ f + 5 by omega), upR_n _ (show f + 2 ≠ f by omega), upR_n _ (show f + 2 ≠ f + 1 by omega), upR_n _ (show f + 2 ≠ f + 3 by omega), upR_n _ (show f + 2 ≠ f + 4 by omega), upR_n _ (show f + 2 ≠ f + 5 by omega), upR_n _ (show f + 3 ≠ f by omega), upR_n _ (show f + 3 ≠ f + 1 by omega), upR_n _ (show f + 3 ≠ f + 2 by omega), upR_n _ (show f + 3 ≠ f + 4 by omega), upR_n _ (show f + 3 ≠ f + 5 by omega), upR_n _ (show f + 4 ≠ f by omega), upR_n _ (show f + 4 ≠ f + 1 by omega), upR_n _ (show f + 4 ≠ f + 2 by omega), upR_n _ (show f + 4 ≠ f + 3 by omega), upR_n _ (show f + 4 ≠ f + 5 by omega), upR_n _ (show f + 5 ≠ f by omega), upR_n _ (show f + 5 ≠ f + 1 by omega), upR_n _ (show f + 5 ≠ f + 2 by omega), upR_n _ (show f + 5 ≠ f + 3 by omega), upR_n _ (show f + 5 ≠ f + 4 by omega), upR_s, ur_s]
  refine S_al0 qX2_join_88 ?_
  refine S_il4 qX2_join_89 ?_
  refine S_il3 qX2_join_91 ?_
  refine S_V2W hD qX2_join_92 lX2_56 vX2_standAt (F_r hf) (c_standAt hf (by omega) (by omega)) (K := ?_)
  refine S_il4 qX2_join_95 ?_
  refine S_iret hz qX2_join_97 ?_
  refine ⟨rfl, ?_⟩
  rw [hV2]
  simp only [upR_n _ (show f ≠ f + 1 by omega), upR_n _ (show f ≠ f + 2 by omega), upR_n _ (show f ≠ f + 3 by omega), upR_n _ (show f ≠ f + 4 by omega), upR_n _ (show f ≠ f + 5 by omega), upR_n _ (show f + 1 ≠ f by omega), upR_n _ (show f + 1 ≠ f + 2 by omega), upR_n _ (show f + 1 ≠ f + 3 by omega), upR_n _ (show f + 1 ≠ f + 4 by omega), upR_n _ (show f + 1 ≠ f + 5 by omega), upR_n _ (show f + 2 ≠ f by omega), upR_n _ (show f + 2 ≠ f + 1 by omega), upR_n _ (show f + 2 ≠ f + 3 by omega), upR_n _ (show f + 2 ≠ f + 4 by omega), upR_n _ (show f + 2 ≠ f + 5 by omega), upR_n _ (show f + 3 ≠ f by omega), upR_n _ (show f + 3 ≠ f + 1 by omega), upR_n _ (show f + 3 ≠ f + 2 by omega), upR_n _ (show f + 3 ≠ f + 4 by omega), upR_n _ (show f + 3 ≠ f + 5 by omega), upR_n _ (show f + 4 ≠ f by omega), upR_n _ (show f + 4 ≠ f + 1 by omega), upR_n _ (show f + 4 ≠ f + 2 by omega), upR_n _ (show f + 4 ≠ f + 3 by omega), upR_n _ (show f + 4 ≠ f + 5 by omega), upR_n _ (show f + 5 ≠ f by omega), upR_n _ (show f + 5 ≠ f + 1 by omega), upR_n _ (show f + 5 ≠ f + 2 by omega), upR_n _ (show f + 5 ≠ f + 3 by omega), upR_n _ (show f + 5 ≠ f + 4 by omega), upR_s, upR_u]

theorem c_join {g : GC} {f : Nat} {V : MM} {hs : HS} {s : FS} {k v p : Int} (hF : FlC V f hs s) (hn : V f 0 < 6) (hk : 0 ≤ k ∧ k ≤ 6) (hv : 0 ≤ v ∧ v ≤ 9) (hp : 0 ≤ p ∧ p < hs.1) : Ct g mX2_join 3 [vr f, vi k, vi v, vi p] V (RI (fun z V' => z = s.1 ∧ FlC V' f hs (joiS s k v p) ∧ Sm V V' f 6 ∧ V' f 2 = V f 2)) := by
  have hw := hF.w99
  have hn6 := hF.n6
  obtain ⟨hf, rfl, hH, h0, hI⟩ := hF
  have hfb := isF_b hf
  refine (c_joinM hf (by omega) (by omega)).mono (fun r V' h => ?_)
  obtain ⟨rfl, hW⟩ := h
  have a0 : V' f = ur (V f) 0 (V f 0 + 1) := by rw [hW]; simp only [upR_n _ (show f ≠ f + 1 by omega), upR_n _ (show f ≠ f + 2 by omega), upR_n _ (show f ≠ f + 3 by omega), upR_n _ (show f ≠ f + 4 by omega), upR_n _ (show f ≠ f + 5 by omega), upR_n _ (show f + 1 ≠ f by omega), upR_n _ (show f + 1 ≠ f + 2 by omega), upR_n _ (show f + 1 ≠ f + 3 by omega), upR_n _ (show f + 1 ≠ f + 4 by omega), upR_n _ (show f + 1 ≠ f + 5 by omega), upR_n _ (show f + 2 ≠ f by omega), upR_n _ (show f + 2 ≠ f + 1 by omega), upR_n _ (show f + 2 ≠ f + 3 by omega), upR_n _ (show f + 2 ≠ f + 4 by omega), upR_n _ (show f + 2 ≠ f + 5 by omega), upR_n _ (show f + 3 ≠ f by omega), upR_n _ (show f + 3 ≠ f + 1 by omega), upR_n _ (show f + 3 ≠ f + 2 by omega), upR_n _ (show f + 3 ≠ f + 4 by omega), upR_n _ (show f + 3 ≠ f + 5 by omega), upR_n _ (show f + 4 ≠ f by omega), upR_n _ (show f + 4 ≠ f + 1 by omega), upR_n _ (show f + 4 ≠ f + 2 by omega), upR_n _ (show f + 4 ≠ f + 3 by omega), upR_n _ (show f + 4 ≠ f + 5 by omega), upR_n _ (show f + 5 ≠ f by omega), upR_n _ (show f + 5 ≠ f + 1 by omega), upR_n _ (show f + 5 ≠ f + 2 by omega), upR_n _ (show f + 5 ≠ f + 3 by omega), upR_n _ (show f + 5 ≠ f + 4 by omega), upR_s]
  have a2 : V' f 2 = V f 2 := by rw [a0, ur_n _ (by omega)]
  refine ⟨_, rfl, rfl, ⟨hf, ?_, ?_, by rw [a2]; exact h0, joi_inv hI hn hk hv hp⟩, fun k hk => ?_, a2⟩
  · show _ = (V' f 0, V' f 1, V' (f + 1), V' (f + 2), V' (f + 3), V' (f + 4), V' (f + 5))
    rw [a0, hW]
    simp only [upR_n _ (show f ≠ f + 1 by omega), upR_n _ (show f ≠ f + 2 by omega), upR_n _ (show f ≠ f + 3 by omega), upR_n _ (show f ≠ f + 4 by omega), upR_n _ (show f ≠ f + 5 by omega), upR_n _ (show f + 1 ≠ f by omega), upR_n _ (show f + 1 ≠ f + 2 by omega), upR_n _ (show f + 1 ≠ f + 3 by omega), upR_n _ (show f + 1 ≠ f + 4 by omega), upR_n _ (show f + 1 ≠ f + 5 by omega), upR_n _ (show f + 2 ≠ f by omega), upR_n _ (show f + 2 ≠ f + 1 by omega), upR_n _ (show f + 2 ≠ f + 3 by omega), upR_n _ (show f + 2 ≠ f + 4 by omega), upR_n _ (show f + 2 ≠ f + 5 by omega), upR_n _ (show f + 3 ≠ f by omega), upR_n _ (show f + 3 ≠ f + 1 by omega), upR_n _ (show f + 3 ≠ f + 2 by omega), upR_n _ (show f + 3 ≠ f + 4 by omega), upR_n _ (show f + 3 ≠ f + 5 by omega), upR_n _ (show f + 4 ≠ f by omega), upR_n _ (show f + 4 ≠ f + 1 by omega), upR_n _ (show f + 4 ≠ f + 2 by omega), upR_n _ (show f + 4 ≠ f + 3 by omega), upR_n _ (show f + 4 ≠ f + 5 by omega), upR_n _ (show f + 5 ≠ f by omega), upR_n _ (show f + 5 ≠ f + 1 by omega), upR_n _ (show f + 5 ≠ f + 2 by omega), upR_n _ (show f + 5 ≠ f + 3 by omega), upR_n _ (show f + 5 ≠ f + 4 by omega), upR_s, ur_s, ur_n _ (show (1 : Int) ≠ 0 by omega)]
    rfl
  · rw [a2]
    refine HlC_cong hH (fun k h1 h2 => ?_)
    rw [hW, upR_n _ (by omega), upR_n _ (by omega), upR_n _ (by omega), upR_n _ (by omega), upR_n _ (by omega), upR_n _ (by omega)]
  · rw [hW, upR_n _ (by omega), upR_n _ (by omega), upR_n _ (by omega), upR_n _ (by omega), upR_n _ (by omega), upR_n _ (by omega)]

theorem wrap_loop {g : GC} {X : CX} {Q : Option AV → MM → Prop} {f : Nat} {V : MM} {w : Int} (hf : isF f) (hh : isH (V f 2).toNat) (hw : w = V (V f 2).toNat 0) (hw9 : 1 ≤ w ∧ w ≤ 99) (hwa : ∀ i : Int, 0 ≤ i ∧ i < 48 → 0 ≤ V (f + 4) i ∧ V (f + 4) i < 99) (hz : Fi g X none Q) (hD : Dp X 3) (hQ : Q none (upR V (f + 4) (wrS w (V (f + 4)) 48))) : ∀ (n : Nat) (i : Int) (V1 : MM), 0 ≤ i → i + n = 48 → V1 = upR V (f + 4) (wrS w (V (f + 4)) i) → SW g X RX2 cX2_wrapAll 2 [some (vr f), some (vi i)] [] V1 := by
  have hfb := isF_b hf
  have hhb : 43 ≤ (V f 2).toNat := by unfold isH at hh; omega
  intro n
  induction n with
  | zero =>
    intro i V1 h0 h1 hV
    have e : i = 48 := by omega
    subst e
    refine S_il1 qX2_wrapAll_2 ?_
    refine S_bipush (d := qX2_wrapAll_3) (k := ?_)
    refine S_icmp_ge (d := qX2_wrapAll_5) (kt := fun c5 => ?_) (kf := fun c5 => ?_)
    rotate_left
    · omega
    refine S_vret hz qX2_wrapAll_36 ?_
    rw [hV]
    exact hQ
  | succ n ih =>
    intro i V1 h0 h1 hV
    have e4 : V1 (f + 4) = wrS w (V (f + 4)) i := by rw [hV, upR_s]
    have e5 : V1 (f + 4) i = V (f + 4) i := by rw [e4]; unfold wrS; rw [if_neg (by omega)]
    have ef : V1 f 2 = V f 2 := by rw [hV, upR_n _ (by omega)]
    have hh1 : isH (V1 f 2).toNat := by rw [ef]; exact hh
    have ew : V1 (V1 f 2).toNat 0 = w := by rw [ef, hV, upR_n _ (by omega), hw]
    have w1 := hwa i (by omega)
    refine S_il1 qX2_wrapAll_2 ?_
    refine S_bipush (d := qX2_wrapAll_3) (k := ?_)
    refine S_icmp_ge (d := qX2_wrapAll_5) (kt := fun c5 => ?_) (kf := fun c5 => ?_)
    · omega
    refine S_al0 qX2_wrapAll_8 ?_
    refine S_getR qX2_wrapAll_9 fX2_21 (F_6 hf) ?_
    refine S_il1 qX2_wrapAll_12 ?_
    refine S_al0 qX2_wrapAll_13 ?_
    refine S_getR qX2_wrapAll_14 fX2_21 (F_6 hf) ?_
    refine S_il1 qX2_wrapAll_17 ?_
    refine S_iald qX2_wrapAll_18 (Fa_4 hf) (K := ?_)
    refine S_al0 qX2_wrapAll_19 ?_
    refine S_getH qX2_wrapAll_20 fX2_30 (F_2 hf) ?_
    refine S_getI qX2_wrapAll_23 fX2_47 (H_0 hh1) ?_
    refine S_S2E hD qX2_wrapAll_26 lX2_60 sX6_modulo (c_modulo (by omega) (by omega)) (K := ?_)
    refine S_iast qX2_wrapAll_29 (Fa_4 hf) (K := ?_)
    refine S_inc1 qX2_wrapAll_30 (K := ?_)
    refine S_goto qX2_wrapAll_33 ?_
    refine ih (i + 1) _ (by omega) (by omega) ?_
    rw [e5, ew, e4, wrS_1 _ _ h0, hV, upR_u]
theorem c_wrapAll {g : GC} {f : Nat} {V : MM} {w : Int} (hf : isF f) (hh : isH (V f 2).toNat) (hw : w = V (V f 2).toNat 0) (hw9 : 1 ≤ w ∧ w ≤ 99) (hwa : ∀ i : Int, 0 ≤ i ∧ i < 48 → 0 ≤ V (f + 4) i ∧ V (f + 4) i < 99) : Ct g mX2_wrapAll 3 [vr f] V (RW (upR V (f + 4) (wrS w (V (f + 4)) 48))) := by
  refine Ct.of (ls := [some (vr f), none]) (plainFor_of_name (by decide +kernel)) rfl (by exact Nat.le_of_ble_eq_true rfl) (fun X hz hD => ?_)
  refine S_iconst qX2_wrapAll_0 ?_
  refine S_is1 qX2_wrapAll_1 (K := ?_)
  exact wrap_loop hf hh hw hw9 hwa hz hD ⟨rfl, rfl⟩ 48 0 V (by omega) (by omega) (by rw [wrS_0, upR_id])
