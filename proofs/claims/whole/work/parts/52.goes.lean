theorem em_add (a b w : Int) : (a % w + b) % w = (a + b) % w := by
  have e := Int.emod_def a w
  have e2 : a % w + b = a + b + w * (-(a / w)) := by rw [e, Int.mul_neg]; omega
  rw [e2, Int.add_mul_emod_self_left]
theorem em_sub (a b w : Int) : (a % w - b) % w = (a - b) % w := by
  rw [Int.sub_eq_add_neg, em_add, ← Int.sub_eq_add_neg]
theorem sum_rg {V : MM} {s : FS} {d e : Int} : ∀ (k : Nat) (c a : Int), c + k = e → (∀ j, c ≤ j ∧ j < e → 0 ≤ V 92 j ∧ V 92 j ≤ 99) → a - 99 * k ≤ sumM V s d k c a ∧ sumM V s d k c a ≤ a + 99 * k := by
  intro k
  induction k with
  | zero => intro c a h0 h1; unfold sumM; omega
  | succ k ih =>
    intro c a h0 h1
    unfold sumM
    have h2 := h1 c (by omega)
    have h3 := ih (c + 1) (if V 91 c ≤ 1 ∧ hldM V c s d = true then (if V 91 c = 0 then a + V 92 c else a + -(V 92 c)) else a) (by omega) (fun j hj => h1 j (by omega))
    split at h3
    · split at h3 <;> (rename_i q1 q2; first | (rw [if_pos q1, if_pos q2]; omega) | (rw [if_pos q1, if_neg q2]; omega))
    · rename_i q1
      rw [if_neg q1]
      omega
theorem FM.st {V : MM} {hs : HS} {s : FS} (M : FM V hs s) (s' : FS) (d : Int) : -990 ≤ hs.2.2 s' d ∧ hs.2.2 s' d ≤ 990 := by
  have hM := M.2.2.1
  have h := sum_rg (V := V) (s := s') (d := d) (e := fstM (V 83 8) + nclM V (V 83 8)) (nclM V (V 83 8)).toNat (fstM (V 83 8)) 0 (by have := hM.2.1; omega) (fun j hj => (hM.2.2 j hj).2.1)
  have e : hs.2.2 s' d = sumM V s' d (nclM V (V 83 8)).toNat (fstM (V 83 8)) 0 := by rw [M.2.1]; rfl
  have := hM.2.1
  omega

theorem m_round {g : GC} {V : MM} {hs : HS} {s : FS} {x : Int} (M : FM V hs s) (hx : -1000000 ≤ x ∧ x ≤ 1000000) : Ct g mX7_round 4 [vr 83, vi x] V (RE V (x % hs.1)) := by
  refine Ct.of (ls := [some (vr 83), some (vi x), none]) (plainFor_of_name (by decide +kernel)) rfl (by exact Nat.le_of_ble_eq_true rfl) (fun X hz hD => ?_)
  have hw := M.hw.1
  have tb := tm_bounds (x := x) (y := hs.1) (by omega) (by omega)
  have h0 := Int.tmod_lt_of_pos x (show 0 < hs.1 by omega)
  refine S_il1 qX7_round_0 ?_
  refine S_al0 qX7_round_1 ?_
  refine S_V0E hD qX7_round_2 lX7_210 vX7_wide r83 (m_wide M) (K := ?_)
  refine S_iremT (d := qX7_round_5) (k := ?_)
  refine S_is2 qX7_round_6 (K := ?_)
  refine S_il2 qX7_round_7 ?_
  refine S_if_ge (d := qX7_round_8) (kt := fun c8 => ?_) (kf := fun c8 => ?_)
  · refine S_il2 qX7_round_20 ?_
    refine S_iret hz qX7_round_21 ?_
    refine RE.mk ?_
    rcases (show 0 ≤ x ∨ x < 0 by omega) with h7 | h7
    · have e := tm_pos (y := hs.1) h7
      have e2 := Int.emod_nonneg x (show hs.1 ≠ 0 by omega)
      omega
    · rcases tm_neg h7 (show 0 < hs.1 by omega) with h | h <;> omega
  · refine S_il2 qX7_round_11 ?_
    refine S_al0 qX7_round_12 ?_
    refine S_V0E hD qX7_round_13 lX7_210 vX7_wide r83 (m_wide M) (K := ?_)
    refine S_iadd qX7_round_16 ?_
    refine S_goto qX7_round_17 ?_
    refine S_iret hz qX7_round_21 ?_
    refine RE.mk ?_
    rcases (show 0 ≤ x ∨ x < 0 by omega) with h7 | h7
    · have e := tm_pos (y := hs.1) h7
      have e2 := Int.emod_nonneg x (show hs.1 ≠ 0 by omega)
      omega
    · rcases tm_neg h7 (show 0 < hs.1 by omega) with h | h <;> omega

theorem m_goes {g : GC} {V : MM} {hs : HS} {s : FS} {d : Int} (M : FM V hs s) (hd : 0 ≤ d ∧ d < s.1) : Ct g mX7_goes 5 [vr 83, vi d] V (RO V (goesS hs s d)) := by
  refine Ct.of (ls := [some (vr 83), some (vi d), none, none, none, none, none]) (plainFor_of_name (by decide +kernel)) rfl (by exact Nat.le_of_ble_eq_true rfl) (fun X hz hD => ?_)
  have hI := M.2.2.2
  have hw := M.hw.1
  have hn6 := hI.1
  have hb := hI.2.1
  have hkv := hI.2.2.1 d (by omega)
  have hfo := hI.2.2.2.1 d hd
  have w0 := hI.2.2.2.2.1 (8 * d) (by omega)
  have w2 := hI.2.2.2.2.1 (8 * s.2.2.2.2.1 d + 2) (by omega)
  have w3 := hI.2.2.2.2.1 (8 * s.2.2.2.2.1 d + 3) (by omega)
  have hst := M.st s d
  have hro := hI.2.2.2.2.2 (4 * d + s.2.1 % 4) (by omega)
  have hO := Om.rf V
  have wne : hs.1 ≠ 0 := by omega
  have wpo : 0 < hs.1 := by omega
  have z1 := Int.emod_nonneg (s.2.2.2.2.2.1 (8 * s.2.2.2.2.1 d + 3) + hs.2.2 s d) wne
  have z2 := Int.emod_lt_of_pos (s.2.2.2.2.2.1 (8 * s.2.2.2.2.1 d + 3) + hs.2.2 s d) wpo
  have z3 := Int.emod_nonneg (s.2.2.2.2.2.1 (8 * s.2.2.2.2.1 d + 2) + hs.2.2 s d) wne
  have z4 := Int.emod_lt_of_pos (s.2.2.2.2.2.1 (8 * s.2.2.2.2.1 d + 2) + hs.2.2 s d) wpo
  have z5 := Int.emod_nonneg (hs.1 - 1 - s.2.2.2.2.2.1 (8 * s.2.2.2.2.1 d + 2) + hs.2.2 s d) wne
  have z6 := Int.emod_lt_of_pos (hs.1 - 1 - s.2.2.2.2.2.1 (8 * s.2.2.2.2.1 d + 2) + hs.2.2 s d) wpo
  have z7 := Int.emod_nonneg ((s.2.2.2.2.2.1 (8 * s.2.2.2.2.1 d + 3) + hs.2.2 s d) % hs.1 - s.2.2.2.2.2.1 (8 * d)) wne
  have z8 := Int.emod_lt_of_pos ((s.2.2.2.2.2.1 (8 * s.2.2.2.2.1 d + 3) + hs.2.2 s d) % hs.1 - s.2.2.2.2.2.1 (8 * d)) wpo
  have y1 := Int.emod_nonneg s.2.1 (show s.2.2.2.1 d + 2 ≠ 0 by omega)
  have y2 := Int.emod_lt_of_pos s.2.1 (show 0 < s.2.2.2.1 d + 2 by omega)
  refine S_al0 qX7_goes_0 ?_
  refine S_getR qX7_goes_1 fX7_29 e83_6 ?_
  refine S_bipush (d := qX7_goes_4) (k := ?_)
  refine S_il1 qX7_goes_6 ?_
  refine S_imul qX7_goes_7 ?_
  refine S_iald qX7_goes_8 a88 (K := ?_)
  rw [M.w88]
  refine S_is2 qX7_goes_9 (K := ?_)
  refine S_al0 qX7_goes_10 ?_
  refine S_getR qX7_goes_11 fX7_29 e83_6 ?_
  refine S_bipush (d := qX7_goes_14) (k := ?_)
  refine S_al0 qX7_goes_16 ?_
  refine S_getR qX7_goes_17 fX7_23 e83_4 ?_
  refine S_il1 qX7_goes_20 ?_
  refine S_iald qX7_goes_21 a86 (K := ?_)
  rw [M.w86]
  refine S_imul qX7_goes_22 ?_
  refine S_iconst qX7_goes_23 ?_
  refine S_iadd qX7_goes_24 ?_
  refine S_iald qX7_goes_25 a88 (K := ?_)
  rw [M.w88]
  refine S_is3 qX7_goes_26 (K := ?_)
  refine S_al0 qX7_goes_27 ?_
  refine S_al0 qX7_goes_28 ?_
  refine S_getR qX7_goes_29 fX7_29 e83_6 ?_
  refine S_bipush (d := qX7_goes_32) (k := ?_)
  refine S_al0 qX7_goes_34 ?_
  refine S_getR qX7_goes_35 fX7_23 e83_4 ?_
  refine S_il1 qX7_goes_38 ?_
  refine S_iald qX7_goes_39 a86 (K := ?_)
  rw [M.w86]
  refine S_imul qX7_goes_40 ?_
  refine S_iconst qX7_goes_41 ?_
  refine S_iadd qX7_goes_42 ?_
  refine S_iald qX7_goes_43 a88 (K := ?_)
  rw [M.w88]
  refine S_al0 qX7_goes_44 ?_
  refine S_il1 qX7_goes_45 ?_
  refine S_V1I hD qX7_goes_46 lX7_284 vX7_step r83 (m_step M (by omega)) (kk := fun z46 V46 h46 => ?_)
  obtain ⟨rfl, hO46⟩ := h46
  have hO := hO.tr hO46
  have M := M.om hO46
  refine S_iadd qX7_goes_49 ?_
  refine S_V1E hD qX7_goes_50 lX7_287 vX7_round r83 (m_round M (by omega)) (K := ?_)
  refine S_is4 qX7_goes_53 (K := ?_)
  refine S_al0 qX7_goes_55 ?_
  refine S_getI qX7_goes_56 fX7_13 e83_1 ?_
  rw [M.b]
  refine S_al0 qX7_goes_59 ?_
  refine S_getR qX7_goes_60 fX7_20 e83_3 ?_
  refine S_il1 qX7_goes_63 ?_
  refine S_iald qX7_goes_64 a85 (K := ?_)
  rw [M.w85]
  refine S_iconst qX7_goes_65 ?_
  refine S_iadd qX7_goes_66 ?_
  refine S_irem (d := qX7_goes_67) (k := ?_)
  refine S_if_ne (d := qX7_goes_68) (kt := fun c68 => ?_) (kf := fun c68 => ?_)
  · refine S_al0 qX7_goes_75 ?_
    refine S_il3 qX7_goes_76 ?_
    refine S_al0 qX7_goes_77 ?_
    refine S_il1 qX7_goes_78 ?_
    refine S_V1I hD qX7_goes_79 lX7_284 vX7_step r83 (m_step M (by omega)) (kk := fun z79 V79 h79 => ?_)
    obtain ⟨rfl, hO79⟩ := h79
    have hO := hO.tr hO79
    have M := M.om hO79
    refine S_iadd qX7_goes_82 ?_
    refine S_V1E hD qX7_goes_83 lX7_287 vX7_round r83 (m_round M (by omega)) (K := ?_)
    refine S_is5 qX7_goes_86 (K := ?_)
    refine S_al0 qX7_goes_88 ?_
    refine S_al0 qX7_goes_89 ?_
    refine S_V0E hD qX7_goes_90 lX7_210 vX7_wide r83 (m_wide M) (K := ?_)
    refine S_iconst qX7_goes_93 ?_
    refine S_isub qX7_goes_94 ?_
    refine S_il3 qX7_goes_95 ?_
    refine S_isub qX7_goes_96 ?_
    refine S_al0 qX7_goes_97 ?_
    refine S_il1 qX7_goes_98 ?_
    refine S_V1I hD qX7_goes_99 lX7_284 vX7_step r83 (m_step M (by omega)) (kk := fun z99 V99 h99 => ?_)
    obtain ⟨rfl, hO99⟩ := h99
    have hO := hO.tr hO99
    have M := M.om hO99
    refine S_iadd qX7_goes_102 ?_
    refine S_V1E hD qX7_goes_103 lX7_287 vX7_round r83 (m_round M (by omega)) (K := ?_)
    refine S_is6 qX7_goes_106 (K := ?_)
    refine S_al0 qX7_goes_108 ?_
    refine S_getR qX7_goes_109 fX7_16 e83_2 ?_
    refine S_il1 qX7_goes_112 ?_
    refine S_iald qX7_goes_113 a84 (K := ?_)
    rw [M.w84]
    by_cases s114_1 : s.2.2.1 d = 1
    · refine S_tabIn (tgt := 152) (off := 38) qX7_goes_114 (by omega) (by omega) (by rw [s114_1]; rfl) (by decide) ?_
      refine S_il4 qX7_goes_152 ?_
      refine S_iret hz qX7_goes_154 ?_
      refine RO.mk hO ?_
      unfold goesS
      first
        | (rw [if_pos (by omega)]; done)
        | (rw [if_neg (by omega), if_pos (by omega)]; rfl)
        | (rw [if_neg (by omega), if_neg (by omega), if_pos (by omega)]; unfold lzS; first | (rw [if_pos (by omega), Int.emod_eq_of_lt w0.1 w0.2]; done) | (rw [if_neg (by omega)]; done))
        | (rw [if_neg (by omega), if_neg (by omega), if_neg (by omega), if_pos (by omega), em_sub]; done)
        | (rw [if_neg (by omega), if_neg (by omega), if_neg (by omega), if_neg (by omega), if_pos (by omega)]; unfold miS; rw [em_add])
        | (rw [if_neg (by omega), if_neg (by omega), if_neg (by omega), if_neg (by omega), if_neg (by omega), if_pos (by omega)]; unfold lzS; first | (rw [if_pos (by omega)]; done) | (rw [if_neg (by omega), em_add]; done))
        | (rw [if_neg (by omega), if_neg (by omega), if_neg (by omega), if_neg (by omega), if_neg (by omega), if_neg (by omega)]; done)
    by_cases s114_2 : s.2.2.1 d = 2
    · refine S_tabIn (tgt := 155) (off := 41) qX7_goes_114 (by omega) (by omega) (by rw [s114_2]; rfl) (by decide) ?_
      refine S_il6 qX7_goes_155 ?_
      refine S_iret hz qX7_goes_157 ?_
      refine RO.mk hO ?_
      unfold goesS
      first
        | (rw [if_pos (by omega)]; done)
        | (rw [if_neg (by omega), if_pos (by omega)]; rfl)
        | (rw [if_neg (by omega), if_neg (by omega), if_pos (by omega)]; unfold lzS; first | (rw [if_pos (by omega), Int.emod_eq_of_lt w0.1 w0.2]; done) | (rw [if_neg (by omega)]; done))
        | (rw [if_neg (by omega), if_neg (by omega), if_neg (by omega), if_pos (by omega), em_sub]; done)
        | (rw [if_neg (by omega), if_neg (by omega), if_neg (by omega), if_neg (by omega), if_pos (by omega)]; unfold miS; rw [em_add])
        | (rw [if_neg (by omega), if_neg (by omega), if_neg (by omega), if_neg (by omega), if_neg (by omega), if_pos (by omega)]; unfold lzS; first | (rw [if_pos (by omega)]; done) | (rw [if_neg (by omega), em_add]; done))
        | (rw [if_neg (by omega), if_neg (by omega), if_neg (by omega), if_neg (by omega), if_neg (by omega), if_neg (by omega)]; done)
    by_cases s114_3 : s.2.2.1 d = 3
    · refine S_tabIn (tgt := 158) (off := 44) qX7_goes_114 (by omega) (by omega) (by rw [s114_3]; rfl) (by decide) ?_
      refine S_il5 qX7_goes_158 ?_
      refine S_iret hz qX7_goes_160 ?_
      refine RO.mk hO ?_
      unfold goesS
      first
        | (rw [if_pos (by omega)]; done)
        | (rw [if_neg (by omega), if_pos (by omega)]; rfl)
        | (rw [if_neg (by omega), if_neg (by omega), if_pos (by omega)]; unfold lzS; first | (rw [if_pos (by omega), Int.emod_eq_of_lt w0.1 w0.2]; done) | (rw [if_neg (by omega)]; done))
        | (rw [if_neg (by omega), if_neg (by omega), if_neg (by omega), if_pos (by omega), em_sub]; done)
        | (rw [if_neg (by omega), if_neg (by omega), if_neg (by omega), if_neg (by omega), if_pos (by omega)]; unfold miS; rw [em_add])
        | (rw [if_neg (by omega), if_neg (by omega), if_neg (by omega), if_neg (by omega), if_neg (by omega), if_pos (by omega)]; unfold lzS; first | (rw [if_pos (by omega)]; done) | (rw [if_neg (by omega), em_add]; done))
        | (rw [if_neg (by omega), if_neg (by omega), if_neg (by omega), if_neg (by omega), if_neg (by omega), if_neg (by omega)]; done)
    by_cases s114_4 : s.2.2.1 d = 4
    · refine S_tabIn (tgt := 161) (off := 47) qX7_goes_114 (by omega) (by omega) (by rw [s114_4]; rfl) (by decide) ?_
      refine S_al0 qX7_goes_161 ?_
      refine S_il2 qX7_goes_162 ?_
      refine S_al0 qX7_goes_163 ?_
      refine S_il4 qX7_goes_164 ?_
      refine S_il2 qX7_goes_166 ?_
      refine S_isub qX7_goes_167 ?_
      refine S_V1E hD qX7_goes_168 lX7_287 vX7_round r83 (m_round M (by omega)) (K := ?_)
      refine S_iconst qX7_goes_171 ?_
      refine S_idiv (d := qX7_goes_172) (k := ?_)
      refine S_iadd qX7_goes_173 ?_
      refine S_V1E hD qX7_goes_174 lX7_287 vX7_round r83 (m_round M (by omega)) (K := ?_)
      refine S_iret hz qX7_goes_177 ?_
      refine RO.mk hO ?_
      unfold goesS
      first
        | (rw [if_pos (by omega)]; done)
        | (rw [if_neg (by omega), if_pos (by omega)]; rfl)
        | (rw [if_neg (by omega), if_neg (by omega), if_pos (by omega)]; unfold lzS; first | (rw [if_pos (by omega), Int.emod_eq_of_lt w0.1 w0.2]; done) | (rw [if_neg (by omega)]; done))
        | (rw [if_neg (by omega), if_neg (by omega), if_neg (by omega), if_pos (by omega), em_sub]; done)
        | (rw [if_neg (by omega), if_neg (by omega), if_neg (by omega), if_neg (by omega), if_pos (by omega)]; unfold miS; rw [em_add])
        | (rw [if_neg (by omega), if_neg (by omega), if_neg (by omega), if_neg (by omega), if_neg (by omega), if_pos (by omega)]; unfold lzS; first | (rw [if_pos (by omega)]; done) | (rw [if_neg (by omega), em_add]; done))
        | (rw [if_neg (by omega), if_neg (by omega), if_neg (by omega), if_neg (by omega), if_neg (by omega), if_neg (by omega)]; done)
    by_cases s114_5 : s.2.2.1 d = 5
    · refine S_tabIn (tgt := 178) (off := 64) qX7_goes_114 (by omega) (by omega) (by rw [s114_5]; rfl) (by decide) ?_
      refine S_al0 qX7_goes_178 ?_
      refine S_il6 qX7_goes_179 ?_
      refine S_al0 qX7_goes_181 ?_
      refine S_getI qX7_goes_182 fX7_13 e83_1 ?_
      rw [M.b]
      refine S_iconst qX7_goes_185 ?_
      refine S_irem (d := qX7_goes_186) (k := ?_)
      refine S_iadd qX7_goes_187 ?_
      refine S_V1E hD qX7_goes_188 lX7_287 vX7_round r83 (m_round M (by omega)) (K := ?_)
      refine S_iret hz qX7_goes_191 ?_
      refine RO.mk hO ?_
      unfold goesS
      first
        | (rw [if_pos (by omega)]; done)
        | (rw [if_neg (by omega), if_pos (by omega)]; rfl)
        | (rw [if_neg (by omega), if_neg (by omega), if_pos (by omega)]; unfold lzS; first | (rw [if_pos (by omega), Int.emod_eq_of_lt w0.1 w0.2]; done) | (rw [if_neg (by omega)]; done))
        | (rw [if_neg (by omega), if_neg (by omega), if_neg (by omega), if_pos (by omega), em_sub]; done)
        | (rw [if_neg (by omega), if_neg (by omega), if_neg (by omega), if_neg (by omega), if_pos (by omega)]; unfold miS; rw [em_add])
        | (rw [if_neg (by omega), if_neg (by omega), if_neg (by omega), if_neg (by omega), if_neg (by omega), if_pos (by omega)]; unfold lzS; first | (rw [if_pos (by omega)]; done) | (rw [if_neg (by omega), em_add]; done))
        | (rw [if_neg (by omega), if_neg (by omega), if_neg (by omega), if_neg (by omega), if_neg (by omega), if_neg (by omega)]; done)
    by_cases s114_6 : s.2.2.1 d = 6
    · refine S_tabIn (tgt := 192) (off := 78) qX7_goes_114 (by omega) (by omega) (by rw [s114_6]; rfl) (by decide) ?_
      refine S_al0 qX7_goes_192 ?_
      refine S_il5 qX7_goes_193 ?_
      refine S_al0 qX7_goes_195 ?_
      refine S_getR qX7_goes_196 fX7_26 e83_5 ?_
      refine S_iconst qX7_goes_199 ?_
      refine S_il1 qX7_goes_200 ?_
      refine S_imul qX7_goes_201 ?_
      refine S_al0 qX7_goes_202 ?_
      refine S_getI qX7_goes_203 fX7_13 e83_1 ?_
      rw [M.b]
      refine S_iconst qX7_goes_206 ?_
      refine S_irem (d := qX7_goes_207) (k := ?_)
      refine S_iadd qX7_goes_208 ?_
      refine S_iald qX7_goes_209 a87 (K := ?_)
      rw [M.w87]
      refine S_iadd qX7_goes_210 ?_
      refine S_V1E hD qX7_goes_211 lX7_287 vX7_round r83 (m_round M (by omega)) (K := ?_)
      refine S_iret hz qX7_goes_214 ?_
      refine RO.mk hO ?_
      unfold goesS
      first
        | (rw [if_pos (by omega)]; done)
        | (rw [if_neg (by omega), if_pos (by omega)]; rfl)
        | (rw [if_neg (by omega), if_neg (by omega), if_pos (by omega)]; unfold lzS; first | (rw [if_pos (by omega), Int.emod_eq_of_lt w0.1 w0.2]; done) | (rw [if_neg (by omega)]; done))
        | (rw [if_neg (by omega), if_neg (by omega), if_neg (by omega), if_pos (by omega), em_sub]; done)
        | (rw [if_neg (by omega), if_neg (by omega), if_neg (by omega), if_neg (by omega), if_pos (by omega)]; unfold miS; rw [em_add])
        | (rw [if_neg (by omega), if_neg (by omega), if_neg (by omega), if_neg (by omega), if_neg (by omega), if_pos (by omega)]; unfold lzS; first | (rw [if_pos (by omega)]; done) | (rw [if_neg (by omega), em_add]; done))
        | (rw [if_neg (by omega), if_neg (by omega), if_neg (by omega), if_neg (by omega), if_neg (by omega), if_neg (by omega)]; done)
    refine S_tabOut (tgt := 215) qX7_goes_114 (by omega) (by omega) (by decide) ?_
    refine S_al0 qX7_goes_215 ?_
    refine S_il3 qX7_goes_216 ?_
    refine S_al0 qX7_goes_217 ?_
    refine S_il1 qX7_goes_218 ?_
    refine S_V1I hD qX7_goes_219 lX7_284 vX7_step r83 (m_step M (by omega)) (kk := fun z219 V219 h219 => ?_)
    obtain ⟨rfl, hO219⟩ := h219
    have hO := hO.tr hO219
    have M := M.om hO219
    refine S_iadd qX7_goes_222 ?_
    refine S_V1E hD qX7_goes_223 lX7_287 vX7_round r83 (m_round M (by omega)) (K := ?_)
    refine S_iret hz qX7_goes_226 ?_
    refine RO.mk hO ?_
    unfold goesS
    first
      | (rw [if_pos (by omega)]; done)
      | (rw [if_neg (by omega), if_pos (by omega)]; rfl)
      | (rw [if_neg (by omega), if_neg (by omega), if_pos (by omega)]; unfold lzS; first | (rw [if_pos (by omega), Int.emod_eq_of_lt w0.1 w0.2]; done) | (rw [if_neg (by omega)]; done))
      | (rw [if_neg (by omega), if_neg (by omega), if_neg (by omega), if_pos (by omega), em_sub]; done)
      | (rw [if_neg (by omega), if_neg (by omega), if_neg (by omega), if_neg (by omega), if_pos (by omega)]; unfold miS; rw [em_add])
      | (rw [if_neg (by omega), if_neg (by omega), if_neg (by omega), if_neg (by omega), if_neg (by omega), if_pos (by omega)]; unfold lzS; first | (rw [if_pos (by omega)]; done) | (rw [if_neg (by omega), em_add]; done))
      | (rw [if_neg (by omega), if_neg (by omega), if_neg (by omega), if_neg (by omega), if_neg (by omega), if_neg (by omega)]; done)
  · refine S_il2 qX7_goes_71 ?_
    refine S_goto qX7_goes_72 ?_
    refine S_is5 qX7_goes_86 (K := ?_)
    refine S_al0 qX7_goes_88 ?_
    refine S_al0 qX7_goes_89 ?_
    refine S_V0E hD qX7_goes_90 lX7_210 vX7_wide r83 (m_wide M) (K := ?_)
    refine S_iconst qX7_goes_93 ?_
    refine S_isub qX7_goes_94 ?_
    refine S_il3 qX7_goes_95 ?_
    refine S_isub qX7_goes_96 ?_
    refine S_al0 qX7_goes_97 ?_
    refine S_il1 qX7_goes_98 ?_
    refine S_V1I hD qX7_goes_99 lX7_284 vX7_step r83 (m_step M (by omega)) (kk := fun z99 V99 h99 => ?_)
    obtain ⟨rfl, hO99⟩ := h99
    have hO := hO.tr hO99
    have M := M.om hO99
    refine S_iadd qX7_goes_102 ?_
    refine S_V1E hD qX7_goes_103 lX7_287 vX7_round r83 (m_round M (by omega)) (K := ?_)
    refine S_is6 qX7_goes_106 (K := ?_)
    refine S_al0 qX7_goes_108 ?_
    refine S_getR qX7_goes_109 fX7_16 e83_2 ?_
    refine S_il1 qX7_goes_112 ?_
    refine S_iald qX7_goes_113 a84 (K := ?_)
    rw [M.w84]
    by_cases s114_1 : s.2.2.1 d = 1
    · refine S_tabIn (tgt := 152) (off := 38) qX7_goes_114 (by omega) (by omega) (by rw [s114_1]; rfl) (by decide) ?_
      refine S_il4 qX7_goes_152 ?_
      refine S_iret hz qX7_goes_154 ?_
      refine RO.mk hO ?_
      unfold goesS
      first
        | (rw [if_pos (by omega)]; done)
        | (rw [if_neg (by omega), if_pos (by omega)]; rfl)
        | (rw [if_neg (by omega), if_neg (by omega), if_pos (by omega)]; unfold lzS; first | (rw [if_pos (by omega), Int.emod_eq_of_lt w0.1 w0.2]; done) | (rw [if_neg (by omega)]; done))
        | (rw [if_neg (by omega), if_neg (by omega), if_neg (by omega), if_pos (by omega), em_sub]; done)
        | (rw [if_neg (by omega), if_neg (by omega), if_neg (by omega), if_neg (by omega), if_pos (by omega)]; unfold miS; rw [em_add])
        | (rw [if_neg (by omega), if_neg (by omega), if_neg (by omega), if_neg (by omega), if_neg (by omega), if_pos (by omega)]; unfold lzS; first | (rw [if_pos (by omega)]; done) | (rw [if_neg (by omega), em_add]; done))
        | (rw [if_neg (by omega), if_neg (by omega), if_neg (by omega), if_neg (by omega), if_neg (by omega), if_neg (by omega)]; done)
    by_cases s114_2 : s.2.2.1 d = 2
    · refine S_tabIn (tgt := 155) (off := 41) qX7_goes_114 (by omega) (by omega) (by rw [s114_2]; rfl) (by decide) ?_
      refine S_il6 qX7_goes_155 ?_
      refine S_iret hz qX7_goes_157 ?_
      refine RO.mk hO ?_
      unfold goesS
      first
        | (rw [if_pos (by omega)]; done)
        | (rw [if_neg (by omega), if_pos (by omega)]; rfl)
        | (rw [if_neg (by omega), if_neg (by omega), if_pos (by omega)]; unfold lzS; first | (rw [if_pos (by omega), Int.emod_eq_of_lt w0.1 w0.2]; done) | (rw [if_neg (by omega)]; done))
        | (rw [if_neg (by omega), if_neg (by omega), if_neg (by omega), if_pos (by omega), em_sub]; done)
        | (rw [if_neg (by omega), if_neg (by omega), if_neg (by omega), if_neg (by omega), if_pos (by omega)]; unfold miS; rw [em_add])
        | (rw [if_neg (by omega), if_neg (by omega), if_neg (by omega), if_neg (by omega), if_neg (by omega), if_pos (by omega)]; unfold lzS; first | (rw [if_pos (by omega)]; done) | (rw [if_neg (by omega), em_add]; done))
        | (rw [if_neg (by omega), if_neg (by omega), if_neg (by omega), if_neg (by omega), if_neg (by omega), if_neg (by omega)]; done)
    by_cases s114_3 : s.2.2.1 d = 3
    · refine S_tabIn (tgt := 158) (off := 44) qX7_goes_114 (by omega) (by omega) (by rw [s114_3]; rfl) (by decide) ?_
      refine S_il5 qX7_goes_158 ?_
      refine S_iret hz qX7_goes_160 ?_
      refine RO.mk hO ?_
      unfold goesS
      first
        | (rw [if_pos (by omega)]; done)
        | (rw [if_neg (by omega), if_pos (by omega)]; rfl)
        | (rw [if_neg (by omega), if_neg (by omega), if_pos (by omega)]; unfold lzS; first | (rw [if_pos (by omega), Int.emod_eq_of_lt w0.1 w0.2]; done) | (rw [if_neg (by omega)]; done))
        | (rw [if_neg (by omega), if_neg (by omega), if_neg (by omega), if_pos (by omega), em_sub]; done)
        | (rw [if_neg (by omega), if_neg (by omega), if_neg (by omega), if_neg (by omega), if_pos (by omega)]; unfold miS; rw [em_add])
        | (rw [if_neg (by omega), if_neg (by omega), if_neg (by omega), if_neg (by omega), if_neg (by omega), if_pos (by omega)]; unfold lzS; first | (rw [if_pos (by omega)]; done) | (rw [if_neg (by omega), em_add]; done))
        | (rw [if_neg (by omega), if_neg (by omega), if_neg (by omega), if_neg (by omega), if_neg (by omega), if_neg (by omega)]; done)
    by_cases s114_4 : s.2.2.1 d = 4
    · refine S_tabIn (tgt := 161) (off := 47) qX7_goes_114 (by omega) (by omega) (by rw [s114_4]; rfl) (by decide) ?_
      refine S_al0 qX7_goes_161 ?_
      refine S_il2 qX7_goes_162 ?_
      refine S_al0 qX7_goes_163 ?_
      refine S_il4 qX7_goes_164 ?_
      refine S_il2 qX7_goes_166 ?_
      refine S_isub qX7_goes_167 ?_
      refine S_V1E hD qX7_goes_168 lX7_287 vX7_round r83 (m_round M (by omega)) (K := ?_)
      refine S_iconst qX7_goes_171 ?_
      refine S_idiv (d := qX7_goes_172) (k := ?_)
      refine S_iadd qX7_goes_173 ?_
      refine S_V1E hD qX7_goes_174 lX7_287 vX7_round r83 (m_round M (by omega)) (K := ?_)
      refine S_iret hz qX7_goes_177 ?_
      refine RO.mk hO ?_
      unfold goesS
      first
        | (rw [if_pos (by omega)]; done)
        | (rw [if_neg (by omega), if_pos (by omega)]; rfl)
        | (rw [if_neg (by omega), if_neg (by omega), if_pos (by omega)]; unfold lzS; first | (rw [if_pos (by omega), Int.emod_eq_of_lt w0.1 w0.2]; done) | (rw [if_neg (by omega)]; done))
        | (rw [if_neg (by omega), if_neg (by omega), if_neg (by omega), if_pos (by omega), em_sub]; done)
        | (rw [if_neg (by omega), if_neg (by omega), if_neg (by omega), if_neg (by omega), if_pos (by omega)]; unfold miS; rw [em_add])
        | (rw [if_neg (by omega), if_neg (by omega), if_neg (by omega), if_neg (by omega), if_neg (by omega), if_pos (by omega)]; unfold lzS; first | (rw [if_pos (by omega)]; done) | (rw [if_neg (by omega), em_add]; done))
        | (rw [if_neg (by omega), if_neg (by omega), if_neg (by omega), if_neg (by omega), if_neg (by omega), if_neg (by omega)]; done)
    by_cases s114_5 : s.2.2.1 d = 5
    · refine S_tabIn (tgt := 178) (off := 64) qX7_goes_114 (by omega) (by omega) (by rw [s114_5]; rfl) (by decide) ?_
      refine S_al0 qX7_goes_178 ?_
      refine S_il6 qX7_goes_179 ?_
      refine S_al0 qX7_goes_181 ?_
      refine S_getI qX7_goes_182 fX7_13 e83_1 ?_
      rw [M.b]
      refine S_iconst qX7_goes_185 ?_
      refine S_irem (d := qX7_goes_186) (k := ?_)
      refine S_iadd qX7_goes_187 ?_
      refine S_V1E hD qX7_goes_188 lX7_287 vX7_round r83 (m_round M (by omega)) (K := ?_)
      refine S_iret hz qX7_goes_191 ?_
      refine RO.mk hO ?_
      unfold goesS
      first
        | (rw [if_pos (by omega)]; done)
        | (rw [if_neg (by omega), if_pos (by omega)]; rfl)
        | (rw [if_neg (by omega), if_neg (by omega), if_pos (by omega)]; unfold lzS; first | (rw [if_pos (by omega), Int.emod_eq_of_lt w0.1 w0.2]; done) | (rw [if_neg (by omega)]; done))
        | (rw [if_neg (by omega), if_neg (by omega), if_neg (by omega), if_pos (by omega), em_sub]; done)
        | (rw [if_neg (by omega), if_neg (by omega), if_neg (by omega), if_neg (by omega), if_pos (by omega)]; unfold miS; rw [em_add])
        | (rw [if_neg (by omega), if_neg (by omega), if_neg (by omega), if_neg (by omega), if_neg (by omega), if_pos (by omega)]; unfold lzS; first | (rw [if_pos (by omega)]; done) | (rw [if_neg (by omega), em_add]; done))
        | (rw [if_neg (by omega), if_neg (by omega), if_neg (by omega), if_neg (by omega), if_neg (by omega), if_neg (by omega)]; done)
    by_cases s114_6 : s.2.2.1 d = 6
    · refine S_tabIn (tgt := 192) (off := 78) qX7_goes_114 (by omega) (by omega) (by rw [s114_6]; rfl) (by decide) ?_
      refine S_al0 qX7_goes_192 ?_
      refine S_il5 qX7_goes_193 ?_
      refine S_al0 qX7_goes_195 ?_
      refine S_getR qX7_goes_196 fX7_26 e83_5 ?_
      refine S_iconst qX7_goes_199 ?_
      refine S_il1 qX7_goes_200 ?_
      refine S_imul qX7_goes_201 ?_
      refine S_al0 qX7_goes_202 ?_
      refine S_getI qX7_goes_203 fX7_13 e83_1 ?_
      rw [M.b]
      refine S_iconst qX7_goes_206 ?_
      refine S_irem (d := qX7_goes_207) (k := ?_)
      refine S_iadd qX7_goes_208 ?_
      refine S_iald qX7_goes_209 a87 (K := ?_)
      rw [M.w87]
      refine S_iadd qX7_goes_210 ?_
      refine S_V1E hD qX7_goes_211 lX7_287 vX7_round r83 (m_round M (by omega)) (K := ?_)
      refine S_iret hz qX7_goes_214 ?_
      refine RO.mk hO ?_
      unfold goesS
      first
        | (rw [if_pos (by omega)]; done)
        | (rw [if_neg (by omega), if_pos (by omega)]; rfl)
        | (rw [if_neg (by omega), if_neg (by omega), if_pos (by omega)]; unfold lzS; first | (rw [if_pos (by omega), Int.emod_eq_of_lt w0.1 w0.2]; done) | (rw [if_neg (by omega)]; done))
        | (rw [if_neg (by omega), if_neg (by omega), if_neg (by omega), if_pos (by omega), em_sub]; done)
        | (rw [if_neg (by omega), if_neg (by omega), if_neg (by omega), if_neg (by omega), if_pos (by omega)]; unfold miS; rw [em_add])
        | (rw [if_neg (by omega), if_neg (by omega), if_neg (by omega), if_neg (by omega), if_neg (by omega), if_pos (by omega)]; unfold lzS; first | (rw [if_pos (by omega)]; done) | (rw [if_neg (by omega), em_add]; done))
        | (rw [if_neg (by omega), if_neg (by omega), if_neg (by omega), if_neg (by omega), if_neg (by omega), if_neg (by omega)]; done)
    refine S_tabOut (tgt := 215) qX7_goes_114 (by omega) (by omega) (by decide) ?_
    refine S_al0 qX7_goes_215 ?_
    refine S_il3 qX7_goes_216 ?_
    refine S_al0 qX7_goes_217 ?_
    refine S_il1 qX7_goes_218 ?_
    refine S_V1I hD qX7_goes_219 lX7_284 vX7_step r83 (m_step M (by omega)) (kk := fun z219 V219 h219 => ?_)
    obtain ⟨rfl, hO219⟩ := h219
    have hO := hO.tr hO219
    have M := M.om hO219
    refine S_iadd qX7_goes_222 ?_
    refine S_V1E hD qX7_goes_223 lX7_287 vX7_round r83 (m_round M (by omega)) (K := ?_)
    refine S_iret hz qX7_goes_226 ?_
    refine RO.mk hO ?_
    unfold goesS
    first
      | (rw [if_pos (by omega)]; done)
      | (rw [if_neg (by omega), if_pos (by omega)]; rfl)
      | (rw [if_neg (by omega), if_neg (by omega), if_pos (by omega)]; unfold lzS; first | (rw [if_pos (by omega), Int.emod_eq_of_lt w0.1 w0.2]; done) | (rw [if_neg (by omega)]; done))
      | (rw [if_neg (by omega), if_neg (by omega), if_neg (by omega), if_pos (by omega), em_sub]; done)
      | (rw [if_neg (by omega), if_neg (by omega), if_neg (by omega), if_neg (by omega), if_pos (by omega)]; unfold miS; rw [em_add])
      | (rw [if_neg (by omega), if_neg (by omega), if_neg (by omega), if_neg (by omega), if_neg (by omega), if_pos (by omega)]; unfold lzS; first | (rw [if_pos (by omega)]; done) | (rw [if_neg (by omega), em_add]; done))
      | (rw [if_neg (by omega), if_neg (by omega), if_neg (by omega), if_neg (by omega), if_neg (by omega), if_neg (by omega)]; done)

def takR (wa : Int → Int) (d : Int) : Int → Int := fun p => b2i (!allN (fun o => decide (wa (8 * o) ≠ p)) d.toNat)
theorem takR_0 (wa : Int → Int) : takR wa 0 = fun _ => 0 := rfl
theorem takR_at (wa : Int → Int) (d : Int) : takR wa d (wa (8 * d)) = b2i (!firB wa d) := rfl
theorem takR_1 (wa : Int → Int) {d : Int} (hd : 0 ≤ d) : ur (takR wa d) (wa (8 * d)) 1 = takR wa (d + 1) := by
  funext p
  unfold takR
  rw [allN_s hd]
  by_cases e : p = wa (8 * d)
  · rw [e, ur_s]
    have : decide (wa (8 * d) ≠ wa (8 * d)) = false := decide_eq_false (by omega)
    rw [this, Bool.and_false]
    rfl
  · rw [ur_n _ e]
    have : decide (wa (8 * d) ≠ p) = true := decide_eq_true (by omega)
    rw [this, Bool.and_true]
theorem lz99 {V : MM} {k n0 : Nat} (hk : ak k = some (2, n0)) {n1 : Int} (hn : n1 = n0) : ∀ j i, inR j i → upR V k (lz (V k) 0 0 n1) j i = upR V k (fun _ => 0) j i := by
  intro j i h
  by_cases e : j = k
  · subst e
    have h2 := inR_a hk h
    rw [upR_s, upR_s]
    unfold lz
    rw [if_pos (by omega)]
  · rw [upR_n _ e, upR_n _ e]

theorem many_l1 {g : GC} {X : CX} {V : MM} (hk : SW g X RX7 cX7_many 21 [some (vr 83), none, none] [] (upR V 99 (lz (V 99) 0 0 99))) : ∀ (n : Nat) (i : Int), 0 ≤ i → i + n = 99 → SW g X RX7 cX7_many 2 [some (vr 83), some (vi i), none] [] (upR V 99 (lz (V 99) 0 0 i)) := by
  intro n
  induction n with
  | zero =>
    intro i h0 h1
    have e : i = 99 := by omega
    subst e
    refine S_il1 qX7_many_2 ?_
    refine S_bipush (d := qX7_many_3) (k := ?_)
    refine S_icmp_ge (d := qX7_many_5) (kt := fun c5 => ?_) (kf := fun c5 => ?_)
    rotate_left
    · omega
    exact SW.forget 1 hk
  | succ n ih =>
    intro i h0 h1
    refine S_il1 qX7_many_2 ?_
    refine S_bipush (d := qX7_many_3) (k := ?_)
    refine S_icmp_ge (d := qX7_many_5) (kt := fun c5 => ?_) (kf := fun c5 => ?_)
    · omega
    refine S_al0 qX7_many_8 ?_
    refine S_getR qX7_many_9 fX7_87 e83_25 ?_
    refine S_il1 qX7_many_12 ?_
    refine S_iconst qX7_many_13 ?_
    refine S_bast qX7_many_14 a99 (K := ?_)
    refine S_inc1 qX7_many_15 (K := ?_)
    refine S_goto qX7_many_18 ?_
    rw [upR_s, upR_u, lz_1 _ h0 (by omega)]
    exact ih (i + 1) (by omega) (by omega)
theorem many_l2 {g : GC} {X : CX} {Q : Option AV → MM → Prop} {V : MM} {hs : HS} {s : FS} {xf : Int} (M0 : FM V hs s) (hz : Fi g X (some .int) Q) (hQ : ∀ V', Om V V' → Q (some (vi xf)) V') : ∀ (n : Nat) (d c : Int), 0 ≤ d → d + n = s.1 → manS s.2.2.2.2.2.1 n d c = xf → SW g X RX7 cX7_many 25 [some (vr 83), some (vi c), some (vi d)] [] (upR V 99 (takR s.2.2.2.2.2.1 d)) := by
  have hI := M0.2.2.2
  have hn6 := hI.1
  have hw := M0.hw.1
  intro n
  induction n with
  | zero =>
    intro d c h0 h1 hx
    have hO : Om V (upR V 99 (takR s.2.2.2.2.2.1 d)) := fun k a b c => upR_n _ b
    have M := M0.om hO
    unfold manS at hx
    subst hx
    refine S_il2 qX7_many_25 ?_
    refine S_al0 qX7_many_26 ?_
    refine S_getI qX7_many_27 fX7_7 e83_0 ?_
    rw [M.n]
    refine S_icmp_ge (d := qX7_many_30) (kt := fun c30 => ?_) (kf := fun c30 => ?_)
    rotate_left
    · omega
    refine S_il1 qX7_many_79 ?_
    refine S_iret hz qX7_many_80 ?_
    exact hQ _ hO
  | succ n ih =>
    intro d c h0 h1 hx
    have hO : Om V (upR V 99 (takR s.2.2.2.2.2.1 d)) := fun k a b c => upR_n _ b
    have M := M0.om hO
    unfold manS at hx
    have w0 := hI.2.2.2.2.1 (8 * d) (by omega)
    have e1 := takR_at s.2.2.2.2.2.1 d
    have hb := b2i_c (!firB s.2.2.2.2.2.1 d)
    have eq1 : ∀ x : Int, (if firB s.2.2.2.2.2.1 d then x + 1 else x) = x + (1 - b2i (!firB s.2.2.2.2.2.1 d)) := fun x => by cases firB s.2.2.2.2.2.1 d <;> simp [b2i]
    rw [eq1] at hx
    refine S_il2 qX7_many_25 ?_
    refine S_al0 qX7_many_26 ?_
    refine S_getI qX7_many_27 fX7_7 e83_0 ?_
    rw [M.n]
    refine S_icmp_ge (d := qX7_many_30) (kt := fun c30 => ?_) (kf := fun c30 => ?_)
    · omega
    refine S_il1 qX7_many_33 ?_
    refine S_al0 qX7_many_34 ?_
    refine S_getR qX7_many_35 fX7_87 e83_25 ?_
    refine S_al0 qX7_many_38 ?_
    refine S_getR qX7_many_39 fX7_29 e83_6 ?_
    refine S_bipush (d := qX7_many_42) (k := ?_)
    refine S_il2 qX7_many_44 ?_
    refine S_imul qX7_many_45 ?_
    refine S_iald qX7_many_46 a88 (K := ?_)
    rw [M.w88]
    refine S_bald qX7_many_47 a99 (K := ?_)
    rw [upR_s, e1]
    refine S_if_eq (d := qX7_many_48) (kt := fun c48 => ?_) (kf := fun c48 => ?_)
    · refine S_iconst qX7_many_55 ?_
      refine S_iadd qX7_many_56 ?_
      refine S_is1 qX7_many_57 (K := ?_)
      refine S_al0 qX7_many_58 ?_
      refine S_getR qX7_many_59 fX7_87 e83_25 ?_
      refine S_al0 qX7_many_62 ?_
      refine S_getR qX7_many_63 fX7_29 e83_6 ?_
      refine S_bipush (d := qX7_many_66) (k := ?_)
      refine S_il2 qX7_many_68 ?_
      refine S_imul qX7_many_69 ?_
      refine S_iald qX7_many_70 a88 (K := ?_)
      rw [M.w88]
      refine S_iconst qX7_many_71 ?_
      refine S_bast qX7_many_72 a99 (K := ?_)
      refine S_inc2 qX7_many_73 (K := ?_)
      refine S_goto qX7_many_76 ?_
      rw [upR_s, upR_u, takR_1 _ h0]
      refine ih (d + 1) _ (by omega) (by omega) ?_
      rw [← hx]
      exact congrArg _ (by omega)
    · refine S_iconst qX7_many_51 ?_
      refine S_goto qX7_many_52 ?_
      refine S_iadd qX7_many_56 ?_
      refine S_is1 qX7_many_57 (K := ?_)
      refine S_al0 qX7_many_58 ?_
      refine S_getR qX7_many_59 fX7_87 e83_25 ?_
      refine S_al0 qX7_many_62 ?_
      refine S_getR qX7_many_63 fX7_29 e83_6 ?_
      refine S_bipush (d := qX7_many_66) (k := ?_)
      refine S_il2 qX7_many_68 ?_
      refine S_imul qX7_many_69 ?_
      refine S_iald qX7_many_70 a88 (K := ?_)
      rw [M.w88]
      refine S_iconst qX7_many_71 ?_
      refine S_bast qX7_many_72 a99 (K := ?_)
      refine S_inc2 qX7_many_73 (K := ?_)
      refine S_goto qX7_many_76 ?_
      rw [upR_s, upR_u, takR_1 _ h0]
      refine ih (d + 1) _ (by omega) (by omega) ?_
      rw [← hx]
      exact congrArg _ (by omega)
theorem m_many {g : GC} {V : MM} {hs : HS} {s : FS} (M : FM V hs s) : Ct g mX7_many 1 [vr 83] V (RO V (manF s)) := by
  refine Ct.of (ls := [some (vr 83), none, none]) (plainFor_of_name (by decide +kernel)) rfl (by exact Nat.le_of_ble_eq_true rfl) (fun X hz hD => ?_)
  refine S_iconst qX7_many_0 ?_
  refine S_is1 qX7_many_1 (K := ?_)
  rw [← upR_id V 99, ← lz_0 (V 99) 0 0]
  refine many_l1 ?_ 99 0 (by omega) (by omega)
  refine SW.castR ?_ (lz99 a99 rfl)
  rw [← takR_0 s.2.2.2.2.2.1]
  refine S_iconst qX7_many_21 ?_
  refine S_is1 qX7_many_22 (K := ?_)
  refine S_iconst qX7_many_23 ?_
  refine S_is2 qX7_many_24 (K := ?_)
  exact many_l2 M hz (fun V' h => RO.mk h rfl) s.1.toNat 0 0 (by omega) (by have := M.2.2.2.1; omega) rfl

theorem m_apart {g : GC} {V : MM} {hs : HS} {s : FS} {a b : Int} (M : FM V hs s) (ra : 0 ≤ a ∧ a < s.1) (rb : 0 ≤ b ∧ b < s.1) : Ct g mX7_apart 5 [vr 83, vi a, vi b] V (RE V (apaS hs s a b)) := by
  refine Ct.of (ls := [some (vr 83), some (vi a), some (vi b), none]) (plainFor_of_name (by decide +kernel)) rfl (by exact Nat.le_of_ble_eq_true rfl) (fun X hz hD => ?_)
  have hI := M.2.2.2
  have hn6 := hI.1
  have hw := M.hw.1
  have w0 := hI.2.2.2.2.1 (8 * a) (by omega)
  have w1 := hI.2.2.2.2.1 (8 * b) (by omega)
  have z1 := Int.emod_nonneg (s.2.2.2.2.2.1 (8 * a) - s.2.2.2.2.2.1 (8 * b)) (show hs.1 ≠ 0 by omega)
  have z2 := Int.emod_lt_of_pos (s.2.2.2.2.2.1 (8 * a) - s.2.2.2.2.2.1 (8 * b)) (show 0 < hs.1 by omega)
  refine S_al0 qX7_apart_0 ?_
  refine S_al0 qX7_apart_1 ?_
  refine S_getR qX7_apart_2 fX7_29 e83_6 ?_
  refine S_bipush (d := qX7_apart_5) (k := ?_)
  refine S_il1 qX7_apart_7 ?_
  refine S_imul qX7_apart_8 ?_
  refine S_iald qX7_apart_9 a88 (K := ?_)
  rw [M.w88]
  refine S_al0 qX7_apart_10 ?_
  refine S_getR qX7_apart_11 fX7_29 e83_6 ?_
  refine S_bipush (d := qX7_apart_14) (k := ?_)
  refine S_il2 qX7_apart_16 ?_
  refine S_imul qX7_apart_17 ?_
  refine S_iald qX7_apart_18 a88 (K := ?_)
  rw [M.w88]
  refine S_isub qX7_apart_19 ?_
  refine S_V1E hD qX7_apart_20 lX7_287 vX7_round r83 (m_round M (by omega)) (K := ?_)
  refine S_is3 qX7_apart_23 (K := ?_)
  refine S_iconst qX7_apart_24 ?_
  refine S_il3 qX7_apart_25 ?_
  refine S_imul qX7_apart_26 ?_
  refine S_al0 qX7_apart_27 ?_
  refine S_V0E hD qX7_apart_28 lX7_210 vX7_wide r83 (m_wide M) (K := ?_)
  refine S_icmp_le (d := qX7_apart_31) (kt := fun c31 => ?_) (kf := fun c31 => ?_)
  · refine S_il3 qX7_apart_43 ?_
    refine S_iret hz qX7_apart_44 ?_
    refine RE.mk ?_
    unfold apaS
    simp only []
    split <;> omega
  · refine S_al0 qX7_apart_34 ?_
    refine S_V0E hD qX7_apart_35 lX7_210 vX7_wide r83 (m_wide M) (K := ?_)
    refine S_il3 qX7_apart_38 ?_
    refine S_isub qX7_apart_39 ?_
    refine S_goto qX7_apart_40 ?_
    refine S_iret hz qX7_apart_44 ?_
    refine RE.mk ?_
    unfold apaS
    simp only []
    split <;> omega

theorem mal_loop {g : GC} {X : CX} {Q : Option AV → MM → Prop} {V : MM} {hs : HS} {s : FS} {d : Int} (M : FM V hs s) (rd : 0 ≤ d ∧ d < s.1) (hz : Fi g X (some .boolean) Q) (hQ1 : (∀ i : Int, 0 ≤ i ∧ i < s.1 → (i ≠ d → s.2.2.2.2.2.1 (8 * i) ≠ s.2.2.2.2.2.1 (8 * d))) → Q (some (vi 1)) V) (hQ0 : ¬ (∀ i : Int, 0 ≤ i ∧ i < s.1 → (i ≠ d → s.2.2.2.2.2.1 (8 * i) ≠ s.2.2.2.2.2.1 (8 * d))) → Q (some (vi 0)) V) : ∀ (n : Nat) (o : Int), 0 ≤ o → o + n = s.1 → (∀ i : Int, 0 ≤ i ∧ i < o → (i ≠ d → s.2.2.2.2.2.1 (8 * i) ≠ s.2.2.2.2.2.1 (8 * d))) → SW g X RX7 cX7_isAlone 2 [some (vr 83), some (vi d), some (vi o)] [] V := by
  have hI := M.2.2.2
  have hn6 := hI.1
  have hw := M.hw.1
  have w1 := hI.2.2.2.2.1 (8 * d) (by omega)
  intro n
  induction n with
  | zero =>
    intro o h0 h1 hall
    refine S_il2 qX7_isAlone_2 ?_
    refine S_al0 qX7_isAlone_3 ?_
    refine S_getI qX7_isAlone_4 fX7_7 e83_0 ?_
    rw [M.n]
    refine S_icmp_ge (d := qX7_isAlone_7) (kt := fun c7 => ?_) (kf := fun c7 => ?_)
    rotate_left
    · omega
    refine S_iconst qX7_isAlone_44 ?_
    refine S_zret hz qX7_isAlone_45 (by omega) ?_
    exact hQ1 (fun i hi => hall i (by omega))
  | succ n ih =>
    intro o h0 h1 hall
    have w0 := hI.2.2.2.2.1 (8 * o) (by omega)
    refine S_il2 qX7_isAlone_2 ?_
    refine S_al0 qX7_isAlone_3 ?_
    refine S_getI qX7_isAlone_4 fX7_7 e83_0 ?_
    rw [M.n]
    refine S_icmp_ge (d := qX7_isAlone_7) (kt := fun c7 => ?_) (kf := fun c7 => ?_)
    · omega
    refine S_il2 qX7_isAlone_10 ?_
    refine S_il1 qX7_isAlone_11 ?_
    refine S_icmp_eq (d := qX7_isAlone_12) (kt := fun c12 => ?_) (kf := fun c12 => ?_)
    · refine S_inc2 qX7_isAlone_38 (K := ?_)
      refine S_goto qX7_isAlone_41 ?_
      refine ih (o + 1) (by omega) (by omega) (fun i hi => ?_)
      by_cases e : i = o
      · subst e
        first | (intro h6; exact absurd (by omega) h6) | (intro h6; exact c33)
      · exact hall i (by omega)
    · refine S_al0 qX7_isAlone_15 ?_
      refine S_getR qX7_isAlone_16 fX7_29 e83_6 ?_
      refine S_bipush (d := qX7_isAlone_19) (k := ?_)
      refine S_il2 qX7_isAlone_21 ?_
      refine S_imul qX7_isAlone_22 ?_
      refine S_iald qX7_isAlone_23 a88 (K := ?_)
      rw [M.w88]
      refine S_al0 qX7_isAlone_24 ?_
      refine S_getR qX7_isAlone_25 fX7_29 e83_6 ?_
      refine S_bipush (d := qX7_isAlone_28) (k := ?_)
      refine S_il1 qX7_isAlone_30 ?_
      refine S_imul qX7_isAlone_31 ?_
      refine S_iald qX7_isAlone_32 a88 (K := ?_)
      rw [M.w88]
      refine S_icmp_ne (d := qX7_isAlone_33) (kt := fun c33 => ?_) (kf := fun c33 => ?_)
      · refine S_inc2 qX7_isAlone_38 (K := ?_)
        refine S_goto qX7_isAlone_41 ?_
        refine ih (o + 1) (by omega) (by omega) (fun i hi => ?_)
        by_cases e : i = o
        · subst e
          first | (intro h6; exact absurd (by omega) h6) | (intro h6; exact c33)
        · exact hall i (by omega)
      · refine S_iconst qX7_isAlone_36 ?_
        refine S_zret hz qX7_isAlone_37 (by omega) ?_
        exact hQ0 (fun h => absurd c33 (h o (by omega) (by omega)))
theorem m_isAlone {g : GC} {V : MM} {hs : HS} {s : FS} {d : Int} (M : FM V hs s) (rd : 0 ≤ d ∧ d < s.1) : Ct g mX7_isAlone 1 [vr 83, vi d] V (RB V (aloB s d = true)) := by
  refine Ct.of (ls := [some (vr 83), some (vi d), none]) (plainFor_of_name (by decide +kernel)) rfl (by exact Nat.le_of_ble_eq_true rfl) (fun X hz hD => ?_)
  have hi : aloB s d = true ↔ ∀ i : Int, 0 ≤ i ∧ i < s.1 → (i ≠ d → s.2.2.2.2.2.1 (8 * i) ≠ s.2.2.2.2.2.1 (8 * d)) := by unfold aloB; rw [allN_I M.2.2.2.1.1]; simp only [decide_eq_true_eq]
  refine S_iconst qX7_isAlone_0 ?_
  refine S_is2 qX7_isAlone_1 (K := ?_)
  exact mal_loop M rd hz (fun h => ⟨rfl, Or.inl ⟨rfl, hi.mpr h⟩⟩) (fun h => ⟨rfl, Or.inr ⟨rfl, fun q => h (hi.mp q)⟩⟩) s.1.toNat 0 (by omega) (by omega) (fun i hi => by omega)

theorem kept_loop {g : GC} {X : CX} {Q : Option AV → MM → Prop} {V : MM} {hs : HS} {s : FS} (M : FM V hs s) (hk : ∀ i : Int, 0 ≤ i ∧ i < 48 → 0 ≤ V 101 i ∧ V 101 i < 99) (hz : Fi g X (some .boolean) Q) (hQ1 : (∀ i : Int, 0 ≤ i ∧ i < 8 * s.1 → s.2.2.2.2.2.1 i = V 101 i) → Q (some (vi 1)) V) (hQ0 : ¬ (∀ i : Int, 0 ≤ i ∧ i < 8 * s.1 → s.2.2.2.2.2.1 i = V 101 i) → Q (some (vi 0)) V) : ∀ (n : Nat) (k : Int), 0 ≤ k → k + n = 8 * s.1 → (∀ i : Int, 0 ≤ i ∧ i < k → s.2.2.2.2.2.1 i = V 101 i) → SW g X RX7 cX7_isAsKept 2 [some (vr 83), some (vi k)] [] V := by
  have hI := M.2.2.2
  have hn6 := hI.1
  have hw := M.hw.1
  intro n
  induction n with
  | zero =>
    intro i h0 h1 hall
    refine S_il1 qX7_isAsKept_2 ?_
    refine S_bipush (d := qX7_isAsKept_3) (k := ?_)
    refine S_al0 qX7_isAsKept_5 ?_
    refine S_getI qX7_isAsKept_6 fX7_7 e83_0 ?_
    rw [M.n]
    refine S_imul qX7_isAsKept_9 ?_
    refine S_icmp_ge (d := qX7_isAsKept_10) (kt := fun c10 => ?_) (kf := fun c10 => ?_)
    rotate_left
    · omega
    refine S_iconst qX7_isAsKept_36 ?_
    refine S_zret hz qX7_isAsKept_37 (by omega) ?_
    exact hQ1 (fun j hj => hall j (by omega))
  | succ n ih =>
    intro i h0 h1 hall
    have w0 := hI.2.2.2.2.1 i (by omega)
    have w1 := hk i (by omega)
    refine S_il1 qX7_isAsKept_2 ?_
    refine S_bipush (d := qX7_isAsKept_3) (k := ?_)
    refine S_al0 qX7_isAsKept_5 ?_
    refine S_getI qX7_isAsKept_6 fX7_7 e83_0 ?_
    rw [M.n]
    refine S_imul qX7_isAsKept_9 ?_
    refine S_icmp_ge (d := qX7_isAsKept_10) (kt := fun c10 => ?_) (kf := fun c10 => ?_)
    · omega
    refine S_al0 qX7_isAsKept_13 ?_
    refine S_getR qX7_isAsKept_14 fX7_29 e83_6 ?_
    refine S_il1 qX7_isAsKept_17 ?_
    refine S_iald qX7_isAsKept_18 a88 (K := ?_)
    rw [M.w88]
    refine S_al0 qX7_isAsKept_19 ?_
    refine S_getR qX7_isAsKept_20 fX7_96 e83_28 ?_
    refine S_il1 qX7_isAsKept_23 ?_
    refine S_iald qX7_isAsKept_24 a101 (K := ?_)
    refine S_icmp_eq (d := qX7_isAsKept_25) (kt := fun c25 => ?_) (kf := fun c25 => ?_)
    · refine S_inc1 qX7_isAsKept_30 (K := ?_)
      refine S_goto qX7_isAsKept_33 ?_
      refine ih (i + 1) (by omega) (by omega) (fun j hj => ?_)
      by_cases e : j = i
      · rw [e]; exact c25
      · exact hall j (by omega)
    · refine S_iconst qX7_isAsKept_28 ?_
      refine S_zret hz qX7_isAsKept_29 (by omega) ?_
      exact hQ0 (fun h => absurd (h i (by omega)) c25)
theorem m_isAsKept {g : GC} {V : MM} {hs : HS} {s s0 : FS} (M : FM V hs s) (hk : ∀ i : Int, 0 ≤ i ∧ i < 48 → V 101 i = s0.2.2.2.2.2.1 i) (h0 : ∀ i : Int, 0 ≤ i ∧ i < 48 → 0 ≤ s0.2.2.2.2.2.1 i ∧ s0.2.2.2.2.2.1 i < 99) : Ct g mX7_isAsKept 1 [vr 83] V (RB V (samB s s0 = true)) := by
  refine Ct.of (ls := [some (vr 83), none]) (plainFor_of_name (by decide +kernel)) rfl (by exact Nat.le_of_ble_eq_true rfl) (fun X hz hD => ?_)
  have hn6 := M.2.2.2.1
  have hi : samB s s0 = true ↔ ∀ i : Int, 0 ≤ i ∧ i < 8 * s.1 → s.2.2.2.2.2.1 i = V 101 i := by
    unfold samB
    rw [allN_I (by omega)]
    simp only [decide_eq_true_eq]
    exact ⟨fun h i q => by rw [h i q, hk i (by omega)], fun h i q => by rw [h i q, hk i (by omega)]⟩
  refine S_iconst qX7_isAsKept_0 ?_
  refine S_is1 qX7_isAsKept_1 (K := ?_)
  exact kept_loop M (fun i q => by rw [hk i q]; exact h0 i q) hz (fun h => ⟨rfl, Or.inl ⟨rfl, hi.mpr h⟩⟩) (fun h => ⟨rfl, Or.inr ⟨rfl, fun q => h (hi.mp q)⟩⟩) (8 * s.1).toNat 0 (by omega) (by omega) (fun i hi => by omega)

theorem still_l {g : GC} {X : CX} {Q : Option AV → MM → Prop} {V : MM} {hs : HS} {s : FS} (M0 : FM V hs s) (hz : Fi g X (some .boolean) Q) (hD : Dp X 6) (hQ1 : (∀ i : Int, 0 ≤ i ∧ i < s.1 → goesS hs s i = s.2.2.2.2.2.1 (8 * i)) → ∀ V', Om V V' → Q (some (vi 1)) V') (hQ0 : ¬ (∀ i : Int, 0 ≤ i ∧ i < s.1 → goesS hs s i = s.2.2.2.2.2.1 (8 * i)) → ∀ V', Om V V' → Q (some (vi 0)) V') : ∀ (n : Nat) (d : Int) (V1 : MM), 0 ≤ d → d + n = s.1 → Om V V1 → (∀ i : Int, 0 ≤ i ∧ i < d → goesS hs s i = s.2.2.2.2.2.1 (8 * i)) → SW g X RX7 cX7_isStill 2 [some (vr 83), some (vi d)] [] V1 := by
  have hI := M0.2.2.2
  have hn6 := hI.1
  have hw := M0.hw.1
  intro n
  induction n with
  | zero =>
    intro i V1 h0 h1 hO hall
    have M := M0.om hO
    refine S_il1 qX7_isStill_2 ?_
    refine S_al0 qX7_isStill_3 ?_
    refine S_getI qX7_isStill_4 fX7_7 e83_0 ?_
    rw [M.n]
    refine S_icmp_ge (d := qX7_isStill_7) (kt := fun c7 => ?_) (kf := fun c7 => ?_)
    rotate_left
    · omega
    refine S_iconst qX7_isStill_35 ?_
    refine S_zret hz qX7_isStill_36 (by omega) ?_
    exact hQ1 (fun j hj => hall j (by omega)) _ hO
  | succ n ih =>
    intro i V1 h0 h1 hO hall
    have M := M0.om hO
    have w0 := hI.2.2.2.2.1 (8 * i) (by omega)
    have w1 := goes_rg s i hw.1
    refine S_il1 qX7_isStill_2 ?_
    refine S_al0 qX7_isStill_3 ?_
    refine S_getI qX7_isStill_4 fX7_7 e83_0 ?_
    rw [M.n]
    refine S_icmp_ge (d := qX7_isStill_7) (kt := fun c7 => ?_) (kf := fun c7 => ?_)
    · omega
    refine S_al0 qX7_isStill_10 ?_
    refine S_il1 qX7_isStill_11 ?_
    refine S_V1I hD qX7_isStill_12 lX7_290 vX7_goes r83 (m_goes M (by omega)) (kk := fun z12 V12 h12 => ?_)
    obtain ⟨rfl, hO12⟩ := h12
    have hO := hO.tr hO12
    have M := M.om hO12
    refine S_al0 qX7_isStill_15 ?_
    refine S_getR qX7_isStill_16 fX7_29 e83_6 ?_
    refine S_bipush (d := qX7_isStill_19) (k := ?_)
    refine S_il1 qX7_isStill_21 ?_
    refine S_imul qX7_isStill_22 ?_
    refine S_iald qX7_isStill_23 a88 (K := ?_)
    rw [M.w88]
    refine S_icmp_eq (d := qX7_isStill_24) (kt := fun c24 => ?_) (kf := fun c24 => ?_)
    · refine S_inc1 qX7_isStill_29 (K := ?_)
      refine S_goto qX7_isStill_32 ?_
      refine ih (i + 1) _ (by omega) (by omega) hO (fun j hj => ?_)
      by_cases e : j = i
      · rw [e]; exact c24
      · exact hall j (by omega)
    · refine S_iconst qX7_isStill_27 ?_
      refine S_zret hz qX7_isStill_28 (by omega) ?_
      exact hQ0 (fun h => absurd (h i (by omega)) c24) _ hO
theorem m_isStill {g : GC} {V : MM} {hs : HS} {s : FS} (M : FM V hs s) : Ct g mX7_isStill 6 [vr 83] V (RI (fun z V' => (z = 1 ∧ stiB hs s = true ∨ z = 0 ∧ ¬ stiB hs s = true) ∧ Om V V')) := by
  refine Ct.of (ls := [some (vr 83), none]) (plainFor_of_name (by decide +kernel)) rfl (by exact Nat.le_of_ble_eq_true rfl) (fun X hz hD => ?_)
  have hn6 := M.2.2.2.1
  have hi : stiB hs s = true ↔ ∀ i : Int, 0 ≤ i ∧ i < s.1 → goesS hs s i = s.2.2.2.2.2.1 (8 * i) := by unfold stiB; rw [allN_I hn6.1]; simp only [decide_eq_true_eq]
  refine S_iconst qX7_isStill_0 ?_
  refine S_is1 qX7_isStill_1 (K := ?_)
  exact still_l M hz hD (fun h V' q => ⟨_, rfl, Or.inl ⟨rfl, hi.mpr h⟩, q⟩) (fun h V' q => ⟨_, rfl, Or.inr ⟨rfl, fun q => h (hi.mp q)⟩, q⟩) s.1.toNat 0 V (by omega) (by omega) (Om.rf V) (fun i hi => by omega)
