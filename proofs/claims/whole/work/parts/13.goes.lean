theorem b2i_TF {g : GC} {M : MN} {n : Nat} {as : List AV} {V : MM} {b : Bool} (h : Ct g M n as V (RE V (b2i b))) : Ct g M n as V (RB V (b = true)) :=
  h.mono (fun r V' h => by
    obtain ⟨rfl, h1⟩ := h
    subst h1
    refine RB.mk ?_
    cases b <;> simp [b2i])

theorem stepFor_loop {g : GC} {X : CX} {Q : Option AV → MM → Prop} {h f : Nat} {V : MM} {d xf : Int} (hh : isH h) (hf : isF f) (hH : HInv V h) (rd : 0 ≤ d ∧ d < 6) (rb : 0 ≤ V f 1 ∧ V f 1 ≤ 20000) (re : ∀ l, 0 ≤ envS (fsC V f) d l ∧ envS (fsC V f) d l ≤ 99) (hz : Fi g X (some .int) Q) (hD : Dp X 4) (hQ : Q (some (vi xf)) V) : ∀ (n : Nat) (i fr sum : Int), 0 ≤ i → i + n = V h 2 → (0 ≤ fr ∧ fr ≤ 100) → stC (V (h + 1)) (V (h + 2)) (V (h + 3)) (fsC V f) d n i fr sum = xf → SW g X RX3 cX3_stepFor 8 [some (vr h), some (vr f), some (vi d), some (vi sum), some (vi fr), some (vi i)] [] V := by
  obtain ⟨-, hw1, hw2, hs, ha, hc⟩ := id hH
  intro n
  induction n with
  | zero =>
    intro i fr sum h0 h1 h2 hx
    unfold stC at hx
    subst hx
    refine S_il5 qX3_stepFor_8 ?_
    refine S_al0 qX3_stepFor_10 ?_
    refine S_getI qX3_stepFor_11 fX3_30 (H_2 hh) ?_
    refine S_icmp_ge (d := qX3_stepFor_14) (kt := fun c14 => ?_) (kf := fun c14 => ?_)
    rotate_left
    · omega
    refine S_il3 qX3_stepFor_60 ?_
    refine S_iret hz qX3_stepFor_61 ?_
    exact hQ
  | succ n ih =>
    intro i fr sum h0 h1 h2 hx
    unfold stC at hx
    have hai := ha i (by omega)
    refine S_il5 qX3_stepFor_8 ?_
    refine S_al0 qX3_stepFor_10 ?_
    refine S_getI qX3_stepFor_11 fX3_30 (H_2 hh) ?_
    refine S_icmp_ge (d := qX3_stepFor_14) (kt := fun c14 => ?_) (kf := fun c14 => ?_)
    · omega
    refine S_al0 qX3_stepFor_17 ?_
    refine S_il4 qX3_stepFor_18 ?_
    refine S_al0 qX3_stepFor_20 ?_
    refine S_getR qX3_stepFor_21 fX3_19 (H_5 hh) ?_
    refine S_il5 qX3_stepFor_24 ?_
    refine S_iald qX3_stepFor_26 (Ha_2 hh) (K := ?_)
    refine S_al1 qX3_stepFor_27 ?_
    refine S_il2 qX3_stepFor_28 ?_
    refine S_V4B hD qX3_stepFor_29 lX3_45 vX3_holds (H_r hh) (b2i_TF (c_holds hh hf (by omega) (by omega) hc (by omega) rb re)) (kt := fun j29 => ?_) (kf := fun j29 => ?_)
    · refine S_if_eq (d := qX3_stepFor_32) (kt := fun c => absurd c (by decide)) (kf := fun _ => ?_)
      refine S_il3 qX3_stepFor_35 ?_
      refine S_al0 qX3_stepFor_36 ?_
      refine S_getR qX3_stepFor_37 fX3_15 (H_4 hh) ?_
      refine S_il5 qX3_stepFor_40 ?_
      refine S_iald qX3_stepFor_42 (Ha_1 hh) (K := ?_)
      refine S_iadd qX3_stepFor_43 ?_
      refine S_is3 qX3_stepFor_44 (K := ?_)
      refine S_al0 qX3_stepFor_45 ?_
      refine S_getR qX3_stepFor_46 fX3_19 (H_5 hh) ?_
      refine S_il5 qX3_stepFor_49 ?_
      refine S_iald qX3_stepFor_51 (Ha_2 hh) (K := ?_)
      refine S_is4 qX3_stepFor_52 (K := ?_)
      refine S_inc5 qX3_stepFor_54 (K := ?_)
      refine S_goto qX3_stepFor_57 ?_
      refine ih (i + 1) (V (h + 2) i) _ (by omega) (by omega) (by omega) ?_
      rw [← hx]
      first | (rw [if_pos j29]; done) | (rw [if_neg j29]; done)
    · refine S_if_eq (d := qX3_stepFor_32) (kt := fun _ => ?_) (kf := fun c => absurd c (by decide))
      refine S_al0 qX3_stepFor_45 ?_
      refine S_getR qX3_stepFor_46 fX3_19 (H_5 hh) ?_
      refine S_il5 qX3_stepFor_49 ?_
      refine S_iald qX3_stepFor_51 (Ha_2 hh) (K := ?_)
      refine S_is4 qX3_stepFor_52 (K := ?_)
      refine S_inc5 qX3_stepFor_54 (K := ?_)
      refine S_goto qX3_stepFor_57 ?_
      refine ih (i + 1) (V (h + 2) i) _ (by omega) (by omega) (by omega) ?_
      rw [← hx]
      first | (rw [if_pos j29]; done) | (rw [if_neg j29]; done)
theorem c_stepFor {g : GC} {h f : Nat} {V : MM} {d : Int} (hf : isF f) (hH : HInv V h) (rd : 0 ≤ d ∧ d < 6) (rb : 0 ≤ V f 1 ∧ V f 1 ≤ 20000) (re : ∀ l, 0 ≤ envS (fsC V f) d l ∧ envS (fsC V f) d l ≤ 99) : Ct g mX3_stepFor 4 [vr h, vr f, vi d] V (RE V (stepC V h (fsC V f) d)) := by
  refine Ct.of (ls := [some (vr h), some (vr f), some (vi d), none, none, none]) (plainFor_of_name (by decide +kernel)) rfl (by exact Nat.le_of_ble_eq_true rfl) (fun X hz hD => ?_)
  have hh := hH.1
  have hs := hH.2.2.2.1
  refine S_iconst qX3_stepFor_0 ?_
  refine S_is3 qX3_stepFor_1 (K := ?_)
  refine S_iconst qX3_stepFor_2 ?_
  refine S_is4 qX3_stepFor_3 (K := ?_)
  refine S_iconst qX3_stepFor_5 ?_
  refine S_is5 qX3_stepFor_6 (K := ?_)
  exact stepFor_loop hh hf hH rd rb re hz hD ⟨rfl, rfl⟩ (V h 2).toNat 0 0 0 (by omega) (by omega) (by omega) rfl

theorem c_stopsAfter {g : GC} {h : Nat} {V : MM} {b : Int} (hH : HInv V h) (rb : 0 ≤ b ∧ b ≤ 20000) : Ct g mX3_stopsAfter 1 [vr h, vi b] V (RB V (0 < V h 1 ∧ (b + 1) % V h 1 = 0)) := by
  refine Ct.of (ls := [some (vr h), some (vi b)]) (plainFor_of_name (by decide +kernel)) rfl (by exact Nat.le_of_ble_eq_true rfl) (fun X hz hD => ?_)
  have hh := hH.1
  have hs := hH.2.2.1
  refine S_al0 qX3_stopsAfter_0 ?_
  refine S_getI qX3_stopsAfter_1 fX3_27 (H_1 hh) ?_
  refine S_if_le (d := qX3_stopsAfter_4) (kt := fun c4 => ?_) (kf := fun c4 => ?_)
  · refine S_iconst qX3_stopsAfter_22 ?_
    refine S_zret hz qX3_stopsAfter_23 (by omega) ?_
    exact RB.mk (by omega)
  · refine S_il1 qX3_stopsAfter_7 ?_
    refine S_iconst qX3_stopsAfter_8 ?_
    refine S_iadd qX3_stopsAfter_9 ?_
    refine S_al0 qX3_stopsAfter_10 ?_
    refine S_getI qX3_stopsAfter_11 fX3_27 (H_1 hh) ?_
    refine S_irem (d := qX3_stopsAfter_14) (k := ?_)
    refine S_if_ne (d := qX3_stopsAfter_15) (ha := by have := Int.emod_nonneg (b + 1) (show V h 1 ≠ 0 by omega); have := Int.emod_lt_of_pos (b + 1) (show 0 < V h 1 by omega); omega) (kt := fun c15 => ?_) (kf := fun c15 => ?_)
    · refine S_iconst qX3_stopsAfter_22 ?_
      refine S_zret hz qX3_stopsAfter_23 (by omega) ?_
      exact RB.mk (by omega)
    · refine S_iconst qX3_stopsAfter_18 ?_
      refine S_goto qX3_stopsAfter_19 ?_
      refine S_zret hz qX3_stopsAfter_23 (by omega) ?_
      exact RB.mk (by omega)

theorem c_was0 {g : GC} {f : Nat} {V : MM} {d : Int} (hf : isF f) (rd : 0 ≤ d ∧ d < V f 0) (hn : V f 0 ≤ 6) : Ct g mX2_wasOf 2 [vr f, vi d, vi 0] V (RE V (V (f + 4) (8 * d))) :=
  (c_wasOf hf rd (by omega) hn).mono (fun r V' h => by rw [Int.add_zero] at h; exact h)

theorem c_goesOf {g : GC} {f : Nat} {V : MM} {d : Int} {hs : HS} {s : FS} (hF : FlC V f hs s) (hd : 0 ≤ d ∧ d < V f 0) : Ct g mX2_goesOf 5 [vr f, vi d] V (RE V (goesS hs s d)) := by
  refine Ct.of (ls := [some (vr f), some (vi d), none, none, none, none, none, none]) (plainFor_of_name (by decide +kernel)) rfl (by exact Nat.le_of_ble_eq_true rfl) (fun X hz hD => ?_)
  obtain ⟨hf, rfl, hn, hb, hkv, hfo, hwa, hro, hH, hh0, rfl⟩ := hF.facts
  have hh := hH.1
  have hw := hH.2.1
  have a1 := hkv d (by omega)
  have a2 := hfo d hd
  have a3 := hwa (8 * d) (by omega)
  have a4 := hwa (8 * V (f + 3) d + 2) (by omega)
  have a5 := hwa (8 * V (f + 3) d + 3) (by omega)
  have a6 := step_rg hH (fsC V f) d
  have re : ∀ l, 0 ≤ envS (fsC V f) d l ∧ envS (fsC V f) d l ≤ 99 := fun l => env_rg l hF.2.2.2.2 (by show V (V f 2).toNat 0 ≤ 99; omega) hd
  have a7 := Int.emod_nonneg (V (f + 4) (8 * V (f + 3) d + 3) + stepC V (V f 2).toNat (fsC V f) d - V (f + 4) (8 * d)) (show V (V f 2).toNat 0 ≠ 0 by omega)
  have a8 := Int.emod_lt_of_pos (V (f + 4) (8 * V (f + 3) d + 3) + stepC V (V f 2).toNat (fsC V f) d - V (f + 4) (8 * d)) (show 0 < V (V f 2).toNat 0 by omega)
  have a9 := hro (4 * d + V f 1 % 4) (by omega)
  have a10 : V (f + 5) (d * 4 + V f 1 % 4) = V (f + 5) (4 * d + V f 1 % 4) := congrArg _ (by omega)
  refine S_al0 qX2_goesOf_0 ?_
  refine S_il1 qX2_goesOf_1 ?_
  refine S_V1B hD qX2_goesOf_2 lX2_52 vX2_has (F_r hf) (c_has hf (by omega) (by omega)) (kt := fun j2 => ?_) (kf := fun j2 => ?_)
  · refine S_if_ne (d := qX2_goesOf_5) (kt := fun _ => ?_) (kf := fun c => absurd c (by decide))
    refine S_al0 qX2_goesOf_10 ?_
    refine S_getH qX2_goesOf_11 fX2_30 (F_2 hf) ?_
    refine S_al0 qX2_goesOf_14 ?_
    refine S_il1 qX2_goesOf_15 ?_
    refine S_V2E hD qX2_goesOf_16 lX2_64 vX3_stepFor (H_r hh) (c_stepFor hf hH (by omega) (by omega) re) (K := ?_)
    refine S_is2 qX2_goesOf_19 (K := ?_)
    refine S_al0 qX2_goesOf_20 ?_
    refine S_il1 qX2_goesOf_21 ?_
    refine S_iconst qX2_goesOf_22 ?_
    refine S_V2E hD qX2_goesOf_23 lX2_68 vX2_wasOf (F_r hf) (c_was0 hf (by omega) (by omega)) (K := ?_)
    refine S_is3 qX2_goesOf_26 (K := ?_)
    refine S_al0 qX2_goesOf_27 ?_
    refine S_al0 qX2_goesOf_28 ?_
    refine S_getR qX2_goesOf_29 fX2_18 (F_5 hf) ?_
    refine S_il1 qX2_goesOf_32 ?_
    refine S_iald qX2_goesOf_33 (Fa_3 hf) (K := ?_)
    refine S_iconst qX2_goesOf_34 ?_
    refine S_V2E hD qX2_goesOf_35 lX2_68 vX2_wasOf (F_r hf) (c_wasOf hf (by omega) (by omega) (by omega)) (K := ?_)
    refine S_il2 qX2_goesOf_38 ?_
    refine S_iadd qX2_goesOf_39 ?_
    refine S_is4 qX2_goesOf_40 (K := ?_)
    refine S_al0 qX2_goesOf_42 ?_
    refine S_al0 qX2_goesOf_43 ?_
    refine S_getR qX2_goesOf_44 fX2_18 (F_5 hf) ?_
    refine S_il1 qX2_goesOf_47 ?_
    refine S_iald qX2_goesOf_48 (Fa_3 hf) (K := ?_)
    refine S_iconst qX2_goesOf_49 ?_
    refine S_V2E hD qX2_goesOf_50 lX2_68 vX2_wasOf (F_r hf) (c_wasOf hf (by omega) (by omega) (by omega)) (K := ?_)
    refine S_il2 qX2_goesOf_53 ?_
    refine S_iadd qX2_goesOf_54 ?_
    refine S_is5 qX2_goesOf_55 (K := ?_)
    refine S_al0 qX2_goesOf_57 ?_
    refine S_getH qX2_goesOf_58 fX2_30 (F_2 hf) ?_
    refine S_getI qX2_goesOf_61 fX2_47 (H_0 hh) ?_
    refine S_iconst qX2_goesOf_64 ?_
    refine S_isub qX2_goesOf_65 ?_
    refine S_al0 qX2_goesOf_66 ?_
    refine S_al0 qX2_goesOf_67 ?_
    refine S_getR qX2_goesOf_68 fX2_18 (F_5 hf) ?_
    refine S_il1 qX2_goesOf_71 ?_
    refine S_iald qX2_goesOf_72 (Fa_3 hf) (K := ?_)
    refine S_iconst qX2_goesOf_73 ?_
    refine S_V2E hD qX2_goesOf_74 lX2_68 vX2_wasOf (F_r hf) (c_wasOf hf (by omega) (by omega) (by omega)) (K := ?_)
    refine S_isub qX2_goesOf_77 ?_
    refine S_il2 qX2_goesOf_78 ?_
    refine S_iadd qX2_goesOf_79 ?_
    refine S_is6 qX2_goesOf_80 (K := ?_)
    refine S_al0 qX2_goesOf_82 ?_
    refine S_il1 qX2_goesOf_83 ?_
    refine S_V1B hD qX2_goesOf_84 lX2_71 vX2_isLazyNow (F_r hf) (c_isLazyNow hf (by omega) (by omega) (by omega)) (kt := fun j84 => ?_) (kf := fun j84 => ?_)
    · refine S_if_eq (d := qX2_goesOf_87) (kt := fun c => absurd c (by decide)) (kf := fun _ => ?_)
      refine S_il3 qX2_goesOf_90 ?_
      refine S_goto qX2_goesOf_91 ?_
      refine S_is7 qX2_goesOf_96 (K := ?_)
      refine S_al0 qX2_goesOf_98 ?_
      refine S_getR qX2_goesOf_99 fX2_9 (F_3 hf) ?_
      refine S_il1 qX2_goesOf_102 ?_
      refine S_iald qX2_goesOf_103 (Fa_1 hf) (K := ?_)
      by_cases s104_1 : V (f + 1) d = 1
      · refine S_tabIn (tgt := 144) (off := 40) qX2_goesOf_104 (by omega) (by omega) (by rw [s104_1]; rfl) (by decide) ?_
        refine S_il5 qX2_goesOf_144 ?_
        refine S_al0 qX2_goesOf_146 ?_
        refine S_getH qX2_goesOf_147 fX2_30 (F_2 hf) ?_
        refine S_getI qX2_goesOf_150 fX2_47 (H_0 hh) ?_
        refine S_S2E hD qX2_goesOf_153 lX2_60 sX6_modulo (c_modulo (by omega) (by omega)) (K := ?_)
        refine S_iret hz qX2_goesOf_156 ?_
        refine RE.mk ?_
        simp only [goesS, lzS, miS, fsC_1, fsC_2, fsC_3, fsC_4, fsC_5, fsC_6, fsC_7]
        first | rw [if_pos j84] | rw [if_neg j84]
        (repeat' split) <;> first | rfl | (exfalso; omega) | (congr 1; omega)
      by_cases s104_2 : V (f + 1) d = 2
      · refine S_tabIn (tgt := 157) (off := 53) qX2_goesOf_104 (by omega) (by omega) (by rw [s104_2]; rfl) (by decide) ?_
        refine S_il6 qX2_goesOf_157 ?_
        refine S_al0 qX2_goesOf_159 ?_
        refine S_getH qX2_goesOf_160 fX2_30 (F_2 hf) ?_
        refine S_getI qX2_goesOf_163 fX2_47 (H_0 hh) ?_
        refine S_S2E hD qX2_goesOf_166 lX2_60 sX6_modulo (c_modulo (by omega) (by omega)) (K := ?_)
        refine S_iret hz qX2_goesOf_169 ?_
        refine RE.mk ?_
        simp only [goesS, lzS, miS, fsC_1, fsC_2, fsC_3, fsC_4, fsC_5, fsC_6, fsC_7]
        first | rw [if_pos j84] | rw [if_neg j84]
        (repeat' split) <;> first | rfl | (exfalso; omega) | (congr 1; omega)
      by_cases s104_3 : V (f + 1) d = 3
      · refine S_tabIn (tgt := 170) (off := 66) qX2_goesOf_104 (by omega) (by omega) (by rw [s104_3]; rfl) (by decide) ?_
        refine S_il7 qX2_goesOf_170 ?_
        refine S_al0 qX2_goesOf_172 ?_
        refine S_getH qX2_goesOf_173 fX2_30 (F_2 hf) ?_
        refine S_getI qX2_goesOf_176 fX2_47 (H_0 hh) ?_
        refine S_S2E hD qX2_goesOf_179 lX2_60 sX6_modulo (c_modulo (by omega) (by omega)) (K := ?_)
        refine S_iret hz qX2_goesOf_182 ?_
        refine RE.mk ?_
        simp only [goesS, lzS, miS, fsC_1, fsC_2, fsC_3, fsC_4, fsC_5, fsC_6, fsC_7]
        first | rw [if_pos j84] | rw [if_neg j84]
        (repeat' split) <;> first | rfl | (exfalso; omega) | (congr 1; omega)
      by_cases s104_4 : V (f + 1) d = 4
      · refine S_tabIn (tgt := 183) (off := 79) qX2_goesOf_104 (by omega) (by omega) (by rw [s104_4]; rfl) (by decide) ?_
        refine S_il3 qX2_goesOf_183 ?_
        refine S_il5 qX2_goesOf_184 ?_
        refine S_il3 qX2_goesOf_186 ?_
        refine S_isub qX2_goesOf_187 ?_
        refine S_al0 qX2_goesOf_188 ?_
        refine S_getH qX2_goesOf_189 fX2_30 (F_2 hf) ?_
        refine S_getI qX2_goesOf_192 fX2_47 (H_0 hh) ?_
        refine S_S2E hD qX2_goesOf_195 lX2_60 sX6_modulo (c_modulo (by omega) (by omega)) (K := ?_)
        refine S_iconst qX2_goesOf_198 ?_
        refine S_idiv (d := qX2_goesOf_199) (k := ?_)
        refine S_iadd qX2_goesOf_200 ?_
        refine S_al0 qX2_goesOf_201 ?_
        refine S_getH qX2_goesOf_202 fX2_30 (F_2 hf) ?_
        refine S_getI qX2_goesOf_205 fX2_47 (H_0 hh) ?_
        refine S_S2E hD qX2_goesOf_208 lX2_60 sX6_modulo (c_modulo (by omega) (by omega)) (K := ?_)
        refine S_iret hz qX2_goesOf_211 ?_
        refine RE.mk ?_
        simp only [goesS, lzS, miS, fsC_1, fsC_2, fsC_3, fsC_4, fsC_5, fsC_6, fsC_7]
        first | rw [if_pos j84] | rw [if_neg j84]
        (repeat' split) <;> first | rfl | (exfalso; omega) | (congr 1; omega)
      by_cases s104_5 : V (f + 1) d = 5
      · refine S_tabIn (tgt := 212) (off := 108) qX2_goesOf_104 (by omega) (by omega) (by rw [s104_5]; rfl) (by decide) ?_
        refine S_il6 qX2_goesOf_212 ?_
        refine S_al0 qX2_goesOf_214 ?_
        refine S_getI qX2_goesOf_215 fX2_38 (F_1 hf) ?_
        refine S_iconst qX2_goesOf_218 ?_
        refine S_irem (d := qX2_goesOf_219) (k := ?_)
        refine S_iadd qX2_goesOf_220 ?_
        refine S_al0 qX2_goesOf_221 ?_
        refine S_getH qX2_goesOf_222 fX2_30 (F_2 hf) ?_
        refine S_getI qX2_goesOf_225 fX2_47 (H_0 hh) ?_
        refine S_S2E hD qX2_goesOf_228 lX2_60 sX6_modulo (c_modulo (by omega) (by omega)) (K := ?_)
        refine S_iret hz qX2_goesOf_231 ?_
        refine RE.mk ?_
        simp only [goesS, lzS, miS, fsC_1, fsC_2, fsC_3, fsC_4, fsC_5, fsC_6, fsC_7]
        first | rw [if_pos j84] | rw [if_neg j84]
        (repeat' split) <;> first | rfl | (exfalso; omega) | (congr 1; omega)
      by_cases s104_6 : V (f + 1) d = 6
      · refine S_tabIn (tgt := 232) (off := 128) qX2_goesOf_104 (by omega) (by omega) (by rw [s104_6]; rfl) (by decide) ?_
        refine S_il7 qX2_goesOf_232 ?_
        refine S_al0 qX2_goesOf_234 ?_
        refine S_getR qX2_goesOf_235 fX2_24 (F_7 hf) ?_
        refine S_il1 qX2_goesOf_238 ?_
        refine S_iconst qX2_goesOf_239 ?_
        refine S_imul qX2_goesOf_240 ?_
        refine S_al0 qX2_goesOf_241 ?_
        refine S_getI qX2_goesOf_242 fX2_38 (F_1 hf) ?_
        refine S_iconst qX2_goesOf_245 ?_
        refine S_S2E hD qX2_goesOf_246 lX2_60 sX6_modulo (c_modulo (by omega) (by omega)) (K := ?_)
        refine S_iadd qX2_goesOf_249 ?_
        refine S_iald qX2_goesOf_250 (Fa_5 hf) (K := ?_)
        refine S_iadd qX2_goesOf_251 ?_
        refine S_al0 qX2_goesOf_252 ?_
        refine S_getH qX2_goesOf_253 fX2_30 (F_2 hf) ?_
        refine S_getI qX2_goesOf_256 fX2_47 (H_0 hh) ?_
        refine S_S2E hD qX2_goesOf_259 lX2_60 sX6_modulo (c_modulo (by omega) (by omega)) (K := ?_)
        refine S_iret hz qX2_goesOf_262 ?_
        refine RE.mk ?_
        simp only [goesS, lzS, miS, fsC_1, fsC_2, fsC_3, fsC_4, fsC_5, fsC_6, fsC_7]
        first | rw [if_pos j84] | rw [if_neg j84]
        (repeat' split) <;> first | rfl | (exfalso; omega) | (congr 1; omega)
      refine S_tabOut (tgt := 263) qX2_goesOf_104 (by omega) (by omega) (by decide) ?_
      refine S_il4 qX2_goesOf_263 ?_
      refine S_al0 qX2_goesOf_265 ?_
      refine S_getH qX2_goesOf_266 fX2_30 (F_2 hf) ?_
      refine S_getI qX2_goesOf_269 fX2_47 (H_0 hh) ?_
      refine S_S2E hD qX2_goesOf_272 lX2_60 sX6_modulo (c_modulo (by omega) (by omega)) (K := ?_)
      refine S_iret hz qX2_goesOf_275 ?_
      refine RE.mk ?_
      simp only [goesS, lzS, miS, fsC_1, fsC_2, fsC_3, fsC_4, fsC_5, fsC_6, fsC_7]
      first | rw [if_pos j84] | rw [if_neg j84]
      (repeat' split) <;> first | rfl | (exfalso; omega) | (congr 1; omega)
    · refine S_if_eq (d := qX2_goesOf_87) (kt := fun _ => ?_) (kf := fun c => absurd c (by decide))
      refine S_il4 qX2_goesOf_94 ?_
      refine S_is7 qX2_goesOf_96 (K := ?_)
      refine S_al0 qX2_goesOf_98 ?_
      refine S_getR qX2_goesOf_99 fX2_9 (F_3 hf) ?_
      refine S_il1 qX2_goesOf_102 ?_
      refine S_iald qX2_goesOf_103 (Fa_1 hf) (K := ?_)
      by_cases s104_1 : V (f + 1) d = 1
      · refine S_tabIn (tgt := 144) (off := 40) qX2_goesOf_104 (by omega) (by omega) (by rw [s104_1]; rfl) (by decide) ?_
        refine S_il5 qX2_goesOf_144 ?_
        refine S_al0 qX2_goesOf_146 ?_
        refine S_getH qX2_goesOf_147 fX2_30 (F_2 hf) ?_
        refine S_getI qX2_goesOf_150 fX2_47 (H_0 hh) ?_
        refine S_S2E hD qX2_goesOf_153 lX2_60 sX6_modulo (c_modulo (by omega) (by omega)) (K := ?_)
        refine S_iret hz qX2_goesOf_156 ?_
        refine RE.mk ?_
        simp only [goesS, lzS, miS, fsC_1, fsC_2, fsC_3, fsC_4, fsC_5, fsC_6, fsC_7]
        first | rw [if_pos j84] | rw [if_neg j84]
        (repeat' split) <;> first | rfl | (exfalso; omega) | (congr 1; omega)
      by_cases s104_2 : V (f + 1) d = 2
      · refine S_tabIn (tgt := 157) (off := 53) qX2_goesOf_104 (by omega) (by omega) (by rw [s104_2]; rfl) (by decide) ?_
        refine S_il6 qX2_goesOf_157 ?_
        refine S_al0 qX2_goesOf_159 ?_
        refine S_getH qX2_goesOf_160 fX2_30 (F_2 hf) ?_
        refine S_getI qX2_goesOf_163 fX2_47 (H_0 hh) ?_
        refine S_S2E hD qX2_goesOf_166 lX2_60 sX6_modulo (c_modulo (by omega) (by omega)) (K := ?_)
        refine S_iret hz qX2_goesOf_169 ?_
        refine RE.mk ?_
        simp only [goesS, lzS, miS, fsC_1, fsC_2, fsC_3, fsC_4, fsC_5, fsC_6, fsC_7]
        first | rw [if_pos j84] | rw [if_neg j84]
        (repeat' split) <;> first | rfl | (exfalso; omega) | (congr 1; omega)
      by_cases s104_3 : V (f + 1) d = 3
      · refine S_tabIn (tgt := 170) (off := 66) qX2_goesOf_104 (by omega) (by omega) (by rw [s104_3]; rfl) (by decide) ?_
        refine S_il7 qX2_goesOf_170 ?_
        refine S_al0 qX2_goesOf_172 ?_
        refine S_getH qX2_goesOf_173 fX2_30 (F_2 hf) ?_
        refine S_getI qX2_goesOf_176 fX2_47 (H_0 hh) ?_
        refine S_S2E hD qX2_goesOf_179 lX2_60 sX6_modulo (c_modulo (by omega) (by omega)) (K := ?_)
        refine S_iret hz qX2_goesOf_182 ?_
        refine RE.mk ?_
        simp only [goesS, lzS, miS, fsC_1, fsC_2, fsC_3, fsC_4, fsC_5, fsC_6, fsC_7]
        first | rw [if_pos j84] | rw [if_neg j84]
        (repeat' split) <;> first | rfl | (exfalso; omega) | (congr 1; omega)
      by_cases s104_4 : V (f + 1) d = 4
      · refine S_tabIn (tgt := 183) (off := 79) qX2_goesOf_104 (by omega) (by omega) (by rw [s104_4]; rfl) (by decide) ?_
        refine S_il3 qX2_goesOf_183 ?_
        refine S_il5 qX2_goesOf_184 ?_
        refine S_il3 qX2_goesOf_186 ?_
        refine S_isub qX2_goesOf_187 ?_
        refine S_al0 qX2_goesOf_188 ?_
        refine S_getH qX2_goesOf_189 fX2_30 (F_2 hf) ?_
        refine S_getI qX2_goesOf_192 fX2_47 (H_0 hh) ?_
        refine S_S2E hD qX2_goesOf_195 lX2_60 sX6_modulo (c_modulo (by omega) (by omega)) (K := ?_)
        refine S_iconst qX2_goesOf_198 ?_
        refine S_idiv (d := qX2_goesOf_199) (k := ?_)
        refine S_iadd qX2_goesOf_200 ?_
        refine S_al0 qX2_goesOf_201 ?_
        refine S_getH qX2_goesOf_202 fX2_30 (F_2 hf) ?_
        refine S_getI qX2_goesOf_205 fX2_47 (H_0 hh) ?_
        refine S_S2E hD qX2_goesOf_208 lX2_60 sX6_modulo (c_modulo (by omega) (by omega)) (K := ?_)
        refine S_iret hz qX2_goesOf_211 ?_
        refine RE.mk ?_
        simp only [goesS, lzS, miS, fsC_1, fsC_2, fsC_3, fsC_4, fsC_5, fsC_6, fsC_7]
        first | rw [if_pos j84] | rw [if_neg j84]
        (repeat' split) <;> first | rfl | (exfalso; omega) | (congr 1; omega)
      by_cases s104_5 : V (f + 1) d = 5
      · refine S_tabIn (tgt := 212) (off := 108) qX2_goesOf_104 (by omega) (by omega) (by rw [s104_5]; rfl) (by decide) ?_
        refine S_il6 qX2_goesOf_212 ?_
        refine S_al0 qX2_goesOf_214 ?_
        refine S_getI qX2_goesOf_215 fX2_38 (F_1 hf) ?_
        refine S_iconst qX2_goesOf_218 ?_
        refine S_irem (d := qX2_goesOf_219) (k := ?_)
        refine S_iadd qX2_goesOf_220 ?_
        refine S_al0 qX2_goesOf_221 ?_
        refine S_getH qX2_goesOf_222 fX2_30 (F_2 hf) ?_
        refine S_getI qX2_goesOf_225 fX2_47 (H_0 hh) ?_
        refine S_S2E hD qX2_goesOf_228 lX2_60 sX6_modulo (c_modulo (by omega) (by omega)) (K := ?_)
        refine S_iret hz qX2_goesOf_231 ?_
        refine RE.mk ?_
        simp only [goesS, lzS, miS, fsC_1, fsC_2, fsC_3, fsC_4, fsC_5, fsC_6, fsC_7]
        first | rw [if_pos j84] | rw [if_neg j84]
        (repeat' split) <;> first | rfl | (exfalso; omega) | (congr 1; omega)
      by_cases s104_6 : V (f + 1) d = 6
      · refine S_tabIn (tgt := 232) (off := 128) qX2_goesOf_104 (by omega) (by omega) (by rw [s104_6]; rfl) (by decide) ?_
        refine S_il7 qX2_goesOf_232 ?_
        refine S_al0 qX2_goesOf_234 ?_
        refine S_getR qX2_goesOf_235 fX2_24 (F_7 hf) ?_
        refine S_il1 qX2_goesOf_238 ?_
        refine S_iconst qX2_goesOf_239 ?_
        refine S_imul qX2_goesOf_240 ?_
        refine S_al0 qX2_goesOf_241 ?_
        refine S_getI qX2_goesOf_242 fX2_38 (F_1 hf) ?_
        refine S_iconst qX2_goesOf_245 ?_
        refine S_S2E hD qX2_goesOf_246 lX2_60 sX6_modulo (c_modulo (by omega) (by omega)) (K := ?_)
        refine S_iadd qX2_goesOf_249 ?_
        refine S_iald qX2_goesOf_250 (Fa_5 hf) (K := ?_)
        refine S_iadd qX2_goesOf_251 ?_
        refine S_al0 qX2_goesOf_252 ?_
        refine S_getH qX2_goesOf_253 fX2_30 (F_2 hf) ?_
        refine S_getI qX2_goesOf_256 fX2_47 (H_0 hh) ?_
        refine S_S2E hD qX2_goesOf_259 lX2_60 sX6_modulo (c_modulo (by omega) (by omega)) (K := ?_)
        refine S_iret hz qX2_goesOf_262 ?_
        refine RE.mk ?_
        simp only [goesS, lzS, miS, fsC_1, fsC_2, fsC_3, fsC_4, fsC_5, fsC_6, fsC_7]
        first | rw [if_pos j84] | rw [if_neg j84]
        (repeat' split) <;> first | rfl | (exfalso; omega) | (congr 1; omega)
      refine S_tabOut (tgt := 263) qX2_goesOf_104 (by omega) (by omega) (by decide) ?_
      refine S_il4 qX2_goesOf_263 ?_
      refine S_al0 qX2_goesOf_265 ?_
      refine S_getH qX2_goesOf_266 fX2_30 (F_2 hf) ?_
      refine S_getI qX2_goesOf_269 fX2_47 (H_0 hh) ?_
      refine S_S2E hD qX2_goesOf_272 lX2_60 sX6_modulo (c_modulo (by omega) (by omega)) (K := ?_)
      refine S_iret hz qX2_goesOf_275 ?_
      refine RE.mk ?_
      simp only [goesS, lzS, miS, fsC_1, fsC_2, fsC_3, fsC_4, fsC_5, fsC_6, fsC_7]
      first | rw [if_pos j84] | rw [if_neg j84]
      (repeat' split) <;> first | rfl | (exfalso; omega) | (congr 1; omega)
  · refine S_if_ne (d := qX2_goesOf_5) (kt := fun c => absurd c (by decide)) (kf := fun _ => ?_)
    refine S_iconst qX2_goesOf_8 ?_
    refine S_iret hz qX2_goesOf_9 ?_
    exfalso; omega
