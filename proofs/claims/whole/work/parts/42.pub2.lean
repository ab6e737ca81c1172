def folS (s : FS) (d k : Int) : FS := (s.1, s.2.1, s.2.2.1, s.2.2.2.1, ur s.2.2.2.2.1 d k, s.2.2.2.2.2.1, s.2.2.2.2.2.2)
def layF (s : FS) (d p : Int) : FS := (s.1, s.2.1, s.2.2.1, s.2.2.2.1, s.2.2.2.2.1, layS s.2.2.2.2.2.1 d p 8, s.2.2.2.2.2.2)
theorem fol_fl {V : MM} {f : Nat} {hs : HS} {s : FS} {d k : Int} (hF : FlC V f hs s) (rd : 0 ≤ d ∧ d < V f 0) (rk : 0 ≤ k ∧ k < V f 0) : FlC (upR V (f + 3) (ur (V (f + 3)) d k)) f hs (folS s d k) := by
  have hI := hF.2.2.2.2
  have es := hF.2.1
  have h := hF.fo (ur s.2.2.2.2.1 d k) (fun i hi => by
    have h4 := hI.2.2.2.1 i hi
    have e : s.1 = V f 0 := by rw [es]
    unfold ur
    split <;> omega)
  rw [es] at h ⊢
  exact h
theorem c_followF {g : GC} {f : Nat} {V : MM} {hs : HS} {s : FS} {d k : Int} (hF : FlC V f hs s) (rd : 0 ≤ d ∧ d < V f 0) (rk : 0 ≤ k ∧ k < V f 0) : Ct g mX2_follow 2 [vr f, vi d, vi k] V (RV (fun V' => FlC V' f hs (folS s d k) ∧ Sm V V' f 7 ∧ V' f 2 = V f 2)) :=
  (c_follow hF.1 rd rk hF.n6.2.2.1.2).mono (fun r V' h => by
    obtain ⟨rfl, rfl⟩ := h
    exact ⟨rfl, fol_fl hF rd rk, fun j hj => upR_n _ (by omega), by rw [upR_n _ (by omega)]⟩)
theorem lay_fl {V : MM} {f : Nat} {hs : HS} {s : FS} {d p : Int} (hF : FlC V f hs s) (rp : 0 ≤ p ∧ p < hs.1) : FlC (upR V (f + 4) (layS (V (f + 4)) d p 8)) f hs (layF s d p) := by
  obtain ⟨hf, rfl, hH, h0, hI⟩ := hF
  have hfb := isF_b hf
  obtain ⟨h1, h2, h3, h4, h5, h6⟩ := hI
  have e : upR V (f + 4) (layS (V (f + 4)) d p 8) f = V f := upR_n _ (by omega)
  refine ⟨hf, ?_, ?_, by rw [e]; exact h0, ⟨h1, h2, h3, h4, fun i hi => ?_, h6⟩⟩
  · show _ = (upR V (f + 4) (layS (V (f + 4)) d p 8) f 0, upR V (f + 4) (layS (V (f + 4)) d p 8) f 1, upR V (f + 4) (layS (V (f + 4)) d p 8) (f + 1), upR V (f + 4) (layS (V (f + 4)) d p 8) (f + 2), upR V (f + 4) (layS (V (f + 4)) d p 8) (f + 3), upR V (f + 4) (layS (V (f + 4)) d p 8) (f + 4), upR V (f + 4) (layS (V (f + 4)) d p 8) (f + 5))
    rw [e, upR_n _ (by omega), upR_n _ (by omega), upR_n _ (by omega), upR_s, upR_n _ (by omega)]
    rfl
  · rw [e]
    exact HlC_cong hH (fun k h1 h2 => upR_n _ (by omega))
  · have := h5 i hi
    show 0 ≤ layS (V (f + 4)) d p 8 i ∧ layS (V (f + 4)) d p 8 i < hs.1
    replace this : 0 ≤ V (f + 4) i ∧ V (f + 4) i < hs.1 := this
    unfold layS
    split <;> omega
theorem c_standF {g : GC} {f : Nat} {V : MM} {hs : HS} {s : FS} {d p : Int} (hF : FlC V f hs s) (rd : 0 ≤ d ∧ d < V f 0) (rp : 0 ≤ p ∧ p < hs.1) : Ct g mX2_standAt 2 [vr f, vi d, vi p] V (RV (fun V' => FlC V' f hs (layF s d p) ∧ Sm V V' f 7 ∧ V' f 2 = V f 2)) :=
  (c_standAt hF.1 rd hF.n6.2.2.1.2).mono (fun r V' h => by
    obtain ⟨rfl, rfl⟩ := h
    exact ⟨rfl, lay_fl hF rp, fun j hj => upR_n _ (by omega), by rw [upR_n _ (by omega)]⟩)
theorem fst_rg (hs : HS) (P : FS → Bool) (sb : Int) : ∀ (n : Nat) (k : Int) (s : FS), fstS hs P sb n k s = -5 ∨ (k ≤ fstS hs P sb n k s ∧ fstS hs P sb n k s < k + n) := by
  intro n
  induction n with
  | zero => intro k s; exact Or.inl rfl
  | succ n ih =>
    intro k s
    unfold fstS
    split
    · right; omega
    · have := ih (k + 1) (goS hs (decide (k = sb)) s)
      omega
def plaS (s : FS) (w : Int) : Int := if w = 0 then manF s else s.2.2.2.2.2.1 (8 * (w - 10))
def agnS (hs : HS) (s0 : FS) : Nat → Int → FS → Int
  | 0, _, _ => -5
  | n + 1, k, s => if samB (goS hs false s) s0 then k else agnS hs s0 n (k + 1) (goS hs false s)
def farS (hs : HS) (a b : Int) : Nat → FS → Int → Int
  | 0, _, m => m
  | n + 1, s, m => farS hs a b n (goS hs false s) (if m < apaS hs (goS hs false s) a b then apaS hs (goS hs false s) a b else m)
def tiS (hs : HS) (s : FS) (sb m : Int) : Int := fstS hs togB sb (m + 1).toNat 0 s
theorem ti_rg (hs : HS) (s : FS) (sb : Int) {m : Int} (hm : -1 ≤ m) : tiS hs s sb m = -5 ∨ (0 ≤ tiS hs s sb m ∧ tiS hs s sb m ≤ m) := by
  have := fst_rg hs togB sb (m + 1).toNat 0 s
  unfold tiS
  omega
def oOn (Z : ZT) (n w : Int) : Int := if ¬ (w = 0 ∨ 10 ≤ w ∧ w - 10 < Z.1.1) then -1 else if n < 0 ∨ 60 < n then -2 else plaS (goN Z.2.1 n.toNat Z.1) w
def oAgain (Z : ZT) : Int := agnS Z.2.1 Z.1 60 1 Z.1
def oTog (Z : ZT) : Int := tiS Z.2.1 Z.1 (-5) 60
def oStill (Z : ZT) : Int := fstS Z.2.1 (stiB Z.2.1) (-5) 61 0 Z.1
def hasZ (Z : ZT) (d : Int) : Prop := 0 ≤ d ∧ d < Z.1.1
theorem has_d (Z : ZT) (d : Int) : hasZ Z d ↔ 0 ≤ d ∧ d < Z.1.1 := Iff.rfl
def oMeet (Z : ZT) (a b : Int) : Int := if a < 0 ∨ Z.1.1 ≤ a ∨ b < 0 ∨ Z.1.1 ≤ b then -1 else if a = b then -2 else fstS Z.2.1 (fun s => decide (s.2.2.2.2.2.1 (8 * a) = s.2.2.2.2.2.1 (8 * b))) (-5) 61 0 Z.1
def oFar (Z : ZT) (a b n : Int) : Int := if a < 0 ∨ Z.1.1 ≤ a ∨ b < 0 ∨ Z.1.1 ≤ b then -1 else if a = b ∨ n < 0 ∨ 60 < n then -2 else farS Z.2.1 a b n.toNat Z.1 (apaS Z.2.1 Z.1 a b)
theorem apa_rg {hs : HS} (s : FS) (a b : Int) (hw : 1 ≤ hs.1 ∧ hs.1 ≤ 99) : 0 ≤ apaS hs s a b ∧ apaS hs s a b ≤ 99 := by
  have h1 := Int.emod_nonneg (s.2.2.2.2.2.1 (8 * a) - s.2.2.2.2.2.1 (8 * b)) (show hs.1 ≠ 0 by omega)
  have h2 := Int.emod_lt_of_pos (s.2.2.2.2.2.1 (8 * a) - s.2.2.2.2.2.1 (8 * b)) (show 0 < hs.1 by omega)
  unfold apaS
  simp only []
  split <;> omega

theorem c_placesAsked {g : GC} {V : MM} {hs : HS} {s : FS} {w : Int} (hG : FlC V 15 hs s) (hw : w = 0 ∨ 10 ≤ w ∧ w - 10 < s.1) : Ct g mX6_placesAsked 4 [vr 0, vi w] V (RE V (plaS s w)) := by
  refine Ct.of (ls := [some (vr 0), some (vi w)]) (plainFor_of_name (by decide +kernel)) rfl (by exact Nat.le_of_ble_eq_true rfl) (fun X hz hD => ?_)
  have hg6 := hG.n6
  have es := hG.2.1
  refine S_il1 qX6_placesAsked_0 ?_
  refine S_if_ne (d := qX6_placesAsked_1) (kt := fun c1 => ?_) (kf := fun c1 => ?_)
  · refine S_al0 qX6_placesAsked_14 ?_
    refine S_getR qX6_placesAsked_15 fX6_23 e0_1 ?_
    refine S_il1 qX6_placesAsked_18 ?_
    refine S_bipush (d := qX6_placesAsked_19) (k := ?_)
    refine S_isub qX6_placesAsked_21 ?_
    refine S_iconst qX6_placesAsked_22 ?_
    refine S_V2E hD qX6_placesAsked_23 lX6_104 vX2_wasOf (F_r F15) (c_was0 F15 (by omega) (by omega)) (K := ?_)
    refine S_iret hz qX6_placesAsked_26 ?_
    refine RE.mk ?_
    unfold plaS
    first | (rw [if_pos (by omega)]; done) | (rw [if_neg (by omega), es]; done) | (rw [if_neg (by omega), es]; rfl)
  · refine S_al0 qX6_placesAsked_4 ?_
    refine S_getR qX6_placesAsked_5 fX6_23 e0_1 ?_
    refine S_V0E hD qX6_placesAsked_8 lX6_147 vX2_placesTaken (F_r F15) (c_placesTaken hG) (K := ?_)
    refine S_goto qX6_placesAsked_11 ?_
    refine S_iret hz qX6_placesAsked_26 ?_
    refine RE.mk ?_
    unfold plaS
    first | (rw [if_pos (by omega)]; done) | (rw [if_neg (by omega), es]; done) | (rw [if_neg (by omega), es]; rfl)

theorem c_on {g : GC} {V : MM} {Z : ZT} {n w : Int} (hZ : CA V Z) (rn : -2147483648 ≤ n ∧ n ≤ 2147483647) (rw : -2147483648 ≤ w ∧ w ≤ 2147483647) : Ct g mX6_on 9 [vr 0, vi n, vi w] V (RZ V (oOn Z n w) Z) := by
  refine Ct.of (ls := [some (vr 0), some (vi n), some (vi w)]) (plainFor_of_name (by decide +kernel)) rfl (by exact Nat.le_of_ble_eq_true rfl) (fun X hz hD => ?_)
  obtain ⟨hF, es, e1, e2, hn, hb, hkv, hfo, hwa, hro, hH, hh, h0, eh, hw, hk, hwz⟩ := hZ.fl
  have hTl := Tl.rf V
  have hr := hZ.1.2.1
  refine S_al0 qX6_on_0 ?_
  refine S_il2 qX6_on_1 ?_
  refine S_V1B hD qX6_on_2 lX6_155 vX6_asksForPlaces r0 (c_asks (by omega) (by omega)) (kt := fun j2 => ?_) (kf := fun j2 => ?_)
  · refine S_if_ne (d := qX6_on_5) (kt := fun _ => ?_) (kf := fun c => absurd c (by decide))
    refine S_il1 qX6_on_10 ?_
    refine S_if_lt (d := qX6_on_11) (kt := fun c11 => ?_) (kf := fun c11 => ?_)
    · refine S_bipush (d := qX6_on_20) (k := ?_)
      refine S_iret hz qX6_on_22 ?_
      refine RZ.tl hZ hTl ?_
      unfold oOn
      first | (rw [if_pos (by omega)]; done) | (rw [if_neg (by omega), if_pos (by omega)]; done) | (rw [if_neg (by omega), if_neg (by omega)]; done)
    · refine S_il1 qX6_on_14 ?_
      refine S_bipush (d := qX6_on_15) (k := ?_)
      refine S_icmp_le (d := qX6_on_17) (kt := fun c17 => ?_) (kf := fun c17 => ?_)
      · refine S_al0 qX6_on_23 ?_
        refine S_getR qX6_on_24 fX6_23 e0_1 ?_
        refine S_al0 qX6_on_27 ?_
        refine S_getR qX6_on_28 fX6_17 e0_0 ?_
        refine S_V1V hD qX6_on_31 lX6_158 vX2_become (F_r F15) (c_become F15 (by decide) hF) (kk := fun V31 h31 => ?_)
        obtain ⟨hG, hM31, -⟩ := h31
        have hTl := hTl.tr (Tl.of hM31 (by omega))
        have hg6 := hG.n6
        refine S_al0 qX6_on_34 ?_
        refine S_getR qX6_on_35 fX6_23 e0_1 ?_
        refine S_il1 qX6_on_38 ?_
        refine S_V1V hD qX6_on_39 lX6_151 vX2_goBeats (F_r F15) (c_goBeats hG (by omega) (by omega)) (kk := fun V39 h39 => ?_)
        obtain ⟨hG, hM39, -⟩ := h39
        have hTl := hTl.tr (Tl.of hM39 (by omega))
        have hg6 := hG.n6
        have hgn := goN_n Z.2.1 n.toNat Z.1
        refine S_al0 qX6_on_42 ?_
        refine S_il2 qX6_on_43 ?_
        refine S_V1E hD qX6_on_44 lX6_162 vX6_placesAsked r0 (c_placesAsked hG (by omega)) (K := ?_)
        refine S_iret hz qX6_on_47 ?_
        refine RZ.tl hZ hTl ?_
        unfold oOn
        first | (rw [if_pos (by omega)]; done) | (rw [if_neg (by omega), if_pos (by omega)]; done) | (rw [if_neg (by omega), if_neg (by omega)]; done)
      · refine S_bipush (d := qX6_on_20) (k := ?_)
        refine S_iret hz qX6_on_22 ?_
        refine RZ.tl hZ hTl ?_
        unfold oOn
        first | (rw [if_pos (by omega)]; done) | (rw [if_neg (by omega), if_pos (by omega)]; done) | (rw [if_neg (by omega), if_neg (by omega)]; done)
  · refine S_if_ne (d := qX6_on_5) (kt := fun c => absurd c (by decide)) (kf := fun _ => ?_)
    refine S_iconst qX6_on_8 ?_
    refine S_iret hz qX6_on_9 ?_
    refine RZ.tl hZ hTl ?_
    unfold oOn
    first | (rw [if_pos (by omega)]; done) | (rw [if_neg (by omega), if_pos (by omega)]; done) | (rw [if_neg (by omega), if_neg (by omega)]; done)

theorem again_loop {g : GC} {X : CX} {Q : Option AV → MM → Prop} {V : MM} {Z : ZT} {xf : Int} (hZ : CA V Z) (hz : Fi g X (some .int) Q) (hD : Dp X 8) (hQ : ∀ V', Tl V V' → Q (some (vi xf)) V') : ∀ (n : Nat) (k : Int) (V1 : MM) (s1 : FS), 1 ≤ k → k + n = 61 → Tl V V1 → FlC V1 15 Z.2.1 s1 → agnS Z.2.1 Z.1 n k s1 = xf → s1.2.1 + n ≤ 20000 → SW g X RX6 cX6_again 13 [some (vr 0), some (vi k)] [] V1 := by
  intro n
  induction n with
  | zero =>
    intro k V1 s1 h0 h1 hTl hG hx hb
    unfold agnS at hx
    subst hx
    refine S_il1 qX6_again_13 ?_
    refine S_bipush (d := qX6_again_14) (k := ?_)
    refine S_icmp_gt (d := qX6_again_16) (kt := fun c16 => ?_) (kf := fun c16 => ?_)
    rotate_left
    · omega
    refine S_bipush (d := qX6_again_49) (k := ?_)
    refine S_iret hz qX6_again_51 ?_
    exact hQ V1 hTl
  | succ n ih =>
    intro k V1 s1 h0 h1 hTl hG hx hb
    unfold agnS at hx
    refine S_il1 qX6_again_13 ?_
    refine S_bipush (d := qX6_again_14) (k := ?_)
    refine S_icmp_gt (d := qX6_again_16) (kt := fun c16 => ?_) (kf := fun c16 => ?_)
    · omega
    refine S_al0 qX6_again_19 ?_
    refine S_getR qX6_again_20 fX6_23 e0_1 ?_
    refine S_iconst qX6_again_23 ?_
    refine S_V1V hD qX6_again_24 lX6_165 vX2_goBeat (F_r F15) (c_goBeat false hG (by omega)) (kk := fun V24 h24 => ?_)
    obtain ⟨hG, hM24, -⟩ := h24
    have hTl := hTl.tr (Tl.of hM24 (by omega))
    have hg6 := hG.n6
    refine S_al0 qX6_again_27 ?_
    refine S_getR qX6_again_28 fX6_23 e0_1 ?_
    refine S_al0 qX6_again_31 ?_
    refine S_getR qX6_again_32 fX6_17 e0_0 ?_
    refine S_V1B hD qX6_again_35 lX6_169 vX2_standsAs (F_r F15) (c_standsAs hG (hTl.ca hZ).fl.1) (kt := fun j35 => ?_) (kf := fun j35 => ?_)
    · refine S_if_eq (d := qX6_again_38) (kt := fun c => absurd c (by decide)) (kf := fun _ => ?_)
      refine S_il1 qX6_again_41 ?_
      refine S_iret hz qX6_again_42 ?_
      rw [if_pos j35] at hx
      subst hx
      exact hQ _ hTl
    · refine S_if_eq (d := qX6_again_38) (kt := fun _ => ?_) (kf := fun c => absurd c (by decide))
      refine S_inc1 qX6_again_43 (K := ?_)
      refine S_goto qX6_again_46 ?_
      rw [if_neg j35] at hx
      exact ih (k + 1) _ _ (by omega) (by omega) hTl hG hx (by show s1.2.1 + 1 + (n : Int) ≤ 20000; omega)
theorem c_again {g : GC} {V : MM} {Z : ZT} (hZ : CA V Z) : Ct g mX6_again 8 [vr 0] V (RZ V (oAgain Z) Z) := by
  refine Ct.of (ls := [some (vr 0), none]) (plainFor_of_name (by decide +kernel)) rfl (by exact Nat.le_of_ble_eq_true rfl) (fun X hz hD => ?_)
  obtain ⟨hF, es, e1, e2, hn, hb, hkv, hfo, hwa, hro, hH, hh, h0, eh, hw, hk, hwz⟩ := hZ.fl
  have hTl := Tl.rf V
  have hr := hZ.1.2.1
  refine S_al0 qX6_again_0 ?_
  refine S_getR qX6_again_1 fX6_23 e0_1 ?_
  refine S_al0 qX6_again_4 ?_
  refine S_getR qX6_again_5 fX6_17 e0_0 ?_
  refine S_V1V hD qX6_again_8 lX6_158 vX2_become (F_r F15) (c_become F15 (by decide) hF) (kk := fun V8 h8 => ?_)
  obtain ⟨hG, hM8, -⟩ := h8
  have hTl := hTl.tr (Tl.of hM8 (by omega))
  have hg6 := hG.n6
  refine S_iconst qX6_again_11 ?_
  refine S_is1 qX6_again_12 (K := ?_)
  exact again_loop hZ hz hD (fun V' h => RZ.tl hZ h rfl) 60 1 _ _ (by omega) (by omega) hTl hG rfl (by omega)

theorem c_together {g : GC} {V : MM} {Z : ZT} (hZ : CA V Z) : Ct g mX6_together 8 [vr 0] V (RZ V (oTog Z) Z) := by
  refine Ct.of (ls := [some (vr 0)]) (plainFor_of_name (by decide +kernel)) rfl (by exact Nat.le_of_ble_eq_true rfl) (fun X hz hD => ?_)
  obtain ⟨hF, es, e1, e2, hn, hb, hkv, hfo, hwa, hro, hH, hh, h0, eh, hw, hk, hwz⟩ := hZ.fl
  have hTl := Tl.rf V
  have hr := hZ.1.2.1
  refine S_al0 qX6_together_0 ?_
  refine S_getR qX6_together_1 fX6_23 e0_1 ?_
  refine S_al0 qX6_together_4 ?_
  refine S_getR qX6_together_5 fX6_17 e0_0 ?_
  refine S_V1V hD qX6_together_8 lX6_158 vX2_become (F_r F15) (c_become F15 (by decide) hF) (kk := fun V8 h8 => ?_)
  obtain ⟨hG, hM8, -⟩ := h8
  have hTl := hTl.tr (Tl.of hM8 (by omega))
  have hg6 := hG.n6
  refine S_al0 qX6_together_11 ?_
  refine S_getR qX6_together_12 fX6_23 e0_1 ?_
  refine S_bipush (d := qX6_together_15) (k := ?_)
  refine S_bipush (d := qX6_together_17) (k := ?_)
  refine S_V2I hD qX6_together_19 lX6_173 vX2_beatsTillTogether (F_r F15) (c_till hG (by omega) (by omega) (by omega)) (kk := fun z19 V19 h19 => ?_)
  obtain ⟨rfl, hM19⟩ := h19
  have hTl := hTl.tr (Tl.of hM19 (by omega))
  refine S_iret hz qX6_together_22 ?_
  exact RZ.tl hZ hTl rfl

theorem still_loop {g : GC} {X : CX} {Q : Option AV → MM → Prop} {V : MM} {Z : ZT} {xf  : Int} (hZ : CA V Z) (hz : Fi g X (some .int) Q) (hD : Dp X 8) (hQ : ∀ V', Tl V V' → Q (some (vi xf)) V') : ∀ (n : Nat) (k : Int) (V1 : MM) (s1 : FS), 0 ≤ k → k + n = 61 → Tl V V1 → FlC V1 15 Z.2.1 s1 → fstS Z.2.1 (stiB Z.2.1) (-5) n k s1 = xf → s1.2.1 + n ≤ 20000 → SW g X RX6 cX6_still 13 [some (vr 0), some (vi k)] [] V1 := by
  intro n
  induction n with
  | zero =>
    intro k V1 s1 h0 h1 hTl hG hx hb
    unfold fstS at hx
    subst hx
    refine S_il1 qX6_still_13 ?_
    refine S_bipush (d := qX6_still_14) (k := ?_)
    refine S_icmp_gt (d := qX6_still_16) (kt := fun c16 => ?_) (kf := fun c16 => ?_)
    rotate_left
    · omega
    refine S_bipush (d := qX6_still_45) (k := ?_)
    refine S_iret hz qX6_still_47 ?_
    exact hQ V1 hTl
  | succ n ih =>
    intro k V1 s1 h0 h1 hTl hG hx hb
    have hg6 := hG.n6
    have dk : decide (k = (-5 : Int)) = false := decide_eq_false (by omega)
    unfold fstS at hx
    rw [dk] at hx
    refine S_il1 qX6_still_13 ?_
    refine S_bipush (d := qX6_still_14) (k := ?_)
    refine S_icmp_gt (d := qX6_still_16) (kt := fun c16 => ?_) (kf := fun c16 => ?_)
    · omega
    refine S_al0 qX6_still_19 ?_
    refine S_getR qX6_still_20 fX6_23 e0_1 ?_
    refine S_V0B hD qX6_still_23 lX6_176 vX2_nobodyMoves (F_r F15) (c_nobodyMoves hG) (kt := fun j23 => ?_) (kf := fun j23 => ?_)
    · refine S_if_eq (d := qX6_still_26) (kt := fun c => absurd c (by decide)) (kf := fun _ => ?_)
      refine S_il1 qX6_still_29 ?_
      refine S_iret hz qX6_still_30 ?_
      rw [if_pos j23] at hx
      subst hx
      exact hQ _ hTl
    · refine S_if_eq (d := qX6_still_26) (kt := fun _ => ?_) (kf := fun c => absurd c (by decide))
      refine S_al0 qX6_still_31 ?_
      refine S_getR qX6_still_32 fX6_23 e0_1 ?_
      refine S_iconst qX6_still_35 ?_
      refine S_V1V hD qX6_still_36 lX6_165 vX2_goBeat (F_r F15) (c_goBeat false hG (by omega)) (kk := fun V36 h36 => ?_)
      obtain ⟨hG, hM36, -⟩ := h36
      have hTl := hTl.tr (Tl.of hM36 (by omega))
      have hg6 := hG.n6
      refine S_inc1 qX6_still_39 (K := ?_)
      refine S_goto qX6_still_42 ?_
      rw [if_neg j23] at hx
      exact ih (k + 1) _ _ (by omega) (by omega) hTl hG hx (by show s1.2.1 + 1 + (n : Int) ≤ 20000; omega)
theorem c_still {g : GC} {V : MM} {Z : ZT} (hZ : CA V Z) : Ct g mX6_still 8 [vr 0] V (RZ V (oStill Z) Z) := by
  refine Ct.of (ls := [some (vr 0), none]) (plainFor_of_name (by decide +kernel)) rfl (by exact Nat.le_of_ble_eq_true rfl) (fun X hz hD => ?_)
  obtain ⟨hF, es, e1, e2, hn, hb, hkv, hfo, hwa, hro, hH, hh, h0, eh, hw, hk, hwz⟩ := hZ.fl
  have hTl := Tl.rf V
  have hr := hZ.1.2.1
  refine S_al0 qX6_still_0 ?_
  refine S_getR qX6_still_1 fX6_23 e0_1 ?_
  refine S_al0 qX6_still_4 ?_
  refine S_getR qX6_still_5 fX6_17 e0_0 ?_
  refine S_V1V hD qX6_still_8 lX6_158 vX2_become (F_r F15) (c_become F15 (by decide) hF) (kk := fun V8 h8 => ?_)
  obtain ⟨hG, hM8, -⟩ := h8
  have hTl := hTl.tr (Tl.of hM8 (by omega))
  have hg6 := hG.n6
  refine S_iconst qX6_still_11 ?_
  refine S_is1 qX6_still_12 (K := ?_)
  exact still_loop hZ hz hD (fun V' h => RZ.tl hZ h rfl) 61 0 _ _ (by omega) (by omega) hTl hG rfl (by omega)

theorem meet_loop {g : GC} {X : CX} {Q : Option AV → MM → Prop} {V : MM} {Z : ZT} {xf a b : Int} (hZ : CA V Z) (ra : 0 ≤ a ∧ a < Z.1.1) (rb : 0 ≤ b ∧ b < Z.1.1) (hz : Fi g X (some .int) Q) (hD : Dp X 8) (hQ : ∀ V', Tl V V' → Q (some (vi xf)) V') : ∀ (n : Nat) (k : Int) (V1 : MM) (s1 : FS), 0 ≤ k → k + n = 61 → Tl V V1 → FlC V1 15 Z.2.1 s1 → s1.1 = Z.1.1 → fstS Z.2.1 (fun s => decide (s.2.2.2.2.2.1 (8 * a) = s.2.2.2.2.2.1 (8 * b))) (-5) n k s1 = xf → s1.2.1 + n ≤ 20000 → SW g X RX6 cX6_meet 45 [some (vr 0), some (vi a), some (vi b), some (vi k)] [] V1 := by
  intro n
  induction n with
  | zero =>
    intro k V1 s1 h0 h1 hTl hG hn1 hx hb
    unfold fstS at hx
    subst hx
    refine S_il3 qX6_meet_45 ?_
    refine S_bipush (d := qX6_meet_46) (k := ?_)
    refine S_icmp_gt (d := qX6_meet_48) (kt := fun c48 => ?_) (kf := fun c48 => ?_)
    rotate_left
    · omega
    refine S_bipush (d := qX6_meet_88) (k := ?_)
    refine S_iret hz qX6_meet_90 ?_
    exact hQ V1 hTl
  | succ n ih =>
    intro k V1 s1 h0 h1 hTl hG hn1 hx hb
    have hg6 := hG.n6
    have dk : decide (k = (-5 : Int)) = false := decide_eq_false (by omega)
    have hes := hG.2.1
    have w1 := hG.2.2.2.2.2.2.2.2.1 (8 * a) (by omega)
    have w2 := hG.2.2.2.2.2.2.2.2.1 (8 * b) (by omega)
    have w3 := hG.w99
    have w4 : s1.2.2.2.2.2.1 (8 * a) = V1 (15 + 4) (8 * a) := by rw [hes]
    have w5 : s1.2.2.2.2.2.1 (8 * b) = V1 (15 + 4) (8 * b) := by rw [hes]
    have hn := hZ.fl.2.2.2.2.1
    have e1 := hZ.fl.2.2.1
    unfold fstS at hx
    rw [dk] at hx
    refine S_il3 qX6_meet_45 ?_
    refine S_bipush (d := qX6_meet_46) (k := ?_)
    refine S_icmp_gt (d := qX6_meet_48) (kt := fun c48 => ?_) (kf := fun c48 => ?_)
    · omega
    refine S_al0 qX6_meet_51 ?_
    refine S_getR qX6_meet_52 fX6_23 e0_1 ?_
    refine S_il1 qX6_meet_55 ?_
    refine S_iconst qX6_meet_56 ?_
    refine S_V2E hD qX6_meet_57 lX6_104 vX2_wasOf (F_r F15) (c_was0 F15 (by omega) (by omega)) (K := ?_)
    refine S_al0 qX6_meet_60 ?_
    refine S_getR qX6_meet_61 fX6_23 e0_1 ?_
    refine S_il2 qX6_meet_64 ?_
    refine S_iconst qX6_meet_65 ?_
    refine S_V2E hD qX6_meet_66 lX6_104 vX2_wasOf (F_r F15) (c_was0 F15 (by omega) (by omega)) (K := ?_)
    refine S_icmp_ne (d := qX6_meet_69) (kt := fun c69 => ?_) (kf := fun c69 => ?_)
    · refine S_al0 qX6_meet_74 ?_
      refine S_getR qX6_meet_75 fX6_23 e0_1 ?_
      refine S_iconst qX6_meet_78 ?_
      refine S_V1V hD qX6_meet_79 lX6_165 vX2_goBeat (F_r F15) (c_goBeat false hG (by omega)) (kk := fun V79 h79 => ?_)
      obtain ⟨hG, hM79, -⟩ := h79
      have hTl := hTl.tr (Tl.of hM79 (by omega))
      have hg6 := hG.n6
      refine S_inc3 qX6_meet_82 (K := ?_)
      refine S_goto qX6_meet_85 ?_
      rw [if_neg (fun q => c69 (by have := of_decide_eq_true q; rw [hes] at this; exact this))] at hx
      exact ih (k + 1) _ _ (by omega) (by omega) hTl hG hn1 hx (by show s1.2.1 + 1 + (n : Int) ≤ 20000; omega)
    · refine S_il3 qX6_meet_72 ?_
      refine S_iret hz qX6_meet_73 ?_
      rw [if_pos (decide_eq_true (by rw [hes]; exact c69))] at hx
      subst hx
      exact hQ _ hTl
theorem c_meet {g : GC} {V : MM} {Z : ZT} {a b : Int} (hZ : CA V Z) (ra : -2147483648 ≤ a ∧ a ≤ 2147483647) (rb : -2147483648 ≤ b ∧ b ≤ 2147483647) : Ct g mX6_meet 8 [vr 0, vi a, vi b] V (RZ V (oMeet Z a b) Z) := by
  refine Ct.of (ls := [some (vr 0), some (vi a), some (vi b), none]) (plainFor_of_name (by decide +kernel)) rfl (by exact Nat.le_of_ble_eq_true rfl) (fun X hz hD => ?_)
  obtain ⟨hF, es, e1, e2, hn, hb, hkv, hfo, hwa, hro, hH, hh, h0, eh, hw, hk, hwz⟩ := hZ.fl
  have hTl := Tl.rf V
  have hr := hZ.1.2.1
  refine S_al0 qX6_meet_0 ?_
  refine S_getR qX6_meet_1 fX6_17 e0_0 ?_
  refine S_il1 qX6_meet_4 ?_
  refine S_V1B hD qX6_meet_5 lX6_80 vX2_has (F_r F8) (c_has F8 (by omega) (by omega)) (kt := fun j5 => ?_) (kf := fun j5 => ?_)
  · refine S_if_eq (d := qX6_meet_8) (kt := fun c => absurd c (by decide)) (kf := fun _ => ?_)
    refine S_al0 qX6_meet_11 ?_
    refine S_getR qX6_meet_12 fX6_17 e0_0 ?_
    refine S_il2 qX6_meet_15 ?_
    refine S_V1B hD qX6_meet_16 lX6_80 vX2_has (F_r F8) (c_has F8 (by omega) (by omega)) (kt := fun j16 => ?_) (kf := fun j16 => ?_)
    · refine S_if_ne (d := qX6_meet_19) (kt := fun _ => ?_) (kf := fun c => absurd c (by decide))
      refine S_il1 qX6_meet_24 ?_
      refine S_il2 qX6_meet_25 ?_
      refine S_icmp_ne (d := qX6_meet_26) (kt := fun c26 => ?_) (kf := fun c26 => ?_)
      · refine S_al0 qX6_meet_32 ?_
        refine S_getR qX6_meet_33 fX6_23 e0_1 ?_
        refine S_al0 qX6_meet_36 ?_
        refine S_getR qX6_meet_37 fX6_17 e0_0 ?_
        refine S_V1V hD qX6_meet_40 lX6_158 vX2_become (F_r F15) (c_become F15 (by decide) hF) (kk := fun V40 h40 => ?_)
        obtain ⟨hG, hM40, -⟩ := h40
        have hTl := hTl.tr (Tl.of hM40 (by omega))
        have hg6 := hG.n6
        refine S_iconst qX6_meet_43 ?_
        refine S_is3 qX6_meet_44 (K := ?_)
        refine meet_loop hZ (by omega) (by omega) hz hD (fun V' h => RZ.tl hZ h ?_) 61 0 _ _ (by omega) (by omega) hTl hG rfl rfl (by omega)
        unfold oMeet
        rw [if_neg (by omega), if_neg (by omega)]
      · refine S_bipush (d := qX6_meet_29) (k := ?_)
        refine S_iret hz qX6_meet_31 ?_
        refine RZ.tl hZ hTl ?_
        unfold oMeet
        first | (rw [if_pos (by omega)]; done) | (rw [if_neg (by omega), if_pos (by omega)]; done)
    · refine S_if_ne (d := qX6_meet_19) (kt := fun c => absurd c (by decide)) (kf := fun _ => ?_)
      refine S_iconst qX6_meet_22 ?_
      refine S_iret hz qX6_meet_23 ?_
      refine RZ.tl hZ hTl ?_
      unfold oMeet
      first | (rw [if_pos (by omega)]; done) | (rw [if_neg (by omega), if_pos (by omega)]; done)
  · refine S_if_eq (d := qX6_meet_8) (kt := fun _ => ?_) (kf := fun c => absurd c (by decide))
    refine S_iconst qX6_meet_22 ?_
    refine S_iret hz qX6_meet_23 ?_
    refine RZ.tl hZ hTl ?_
    unfold oMeet
    first | (rw [if_pos (by omega)]; done) | (rw [if_neg (by omega), if_pos (by omega)]; done)

theorem far_loop {g : GC} {X : CX} {Q : Option AV → MM → Prop} {V : MM} {Z : ZT} {xf a b m : Int} (ra : 0 ≤ a ∧ a < Z.1.1) (rb : 0 ≤ b ∧ b < Z.1.1) (rm : 0 ≤ m ∧ m ≤ 60) (hz : Fi g X (some .int) Q) (hD : Dp X 8) (hQ : ∀ V', Tl V V' → Q (some (vi xf)) V') : ∀ (n : Nat) (i t : Int) (V1 : MM) (s1 : FS), 1 ≤ i → i + n = m + 1 → Tl V V1 → FlC V1 15 Z.2.1 s1 → s1.1 = Z.1.1 → (0 ≤ t ∧ t ≤ 99) → farS Z.2.1 a b n s1 t = xf → s1.2.1 + n ≤ 20000 → SW g X RX6 cX6_far 67 [some (vr 0), some (vi a), some (vi b), some (vi m), some (vi t), some (vi i)] [] V1 := by
  intro n
  induction n with
  | zero =>
    intro i t V1 s1 h0 h1 hTl hG hn1 ht hx hb
    unfold farS at hx
    subst hx
    refine S_il5 qX6_far_67 ?_
    refine S_il3 qX6_far_69 ?_
    refine S_icmp_gt (d := qX6_far_70) (kt := fun c70 => ?_) (kf := fun c70 => ?_)
    rotate_left
    · omega
    refine S_il4 qX6_far_103 ?_
    refine S_iret hz qX6_far_105 ?_
    exact hQ V1 hTl
  | succ n ih =>
    intro i t V1 s1 h0 h1 hTl hG hn1 ht hx hb
    have hg6 := hG.n6
    have hap := apa_rg (goS Z.2.1 false s1) a b hG.w99.1
    unfold farS at hx
    refine S_il5 qX6_far_67 ?_
    refine S_il3 qX6_far_69 ?_
    refine S_icmp_gt (d := qX6_far_70) (kt := fun c70 => ?_) (kf := fun c70 => ?_)
    · omega
    refine S_al0 qX6_far_73 ?_
    refine S_getR qX6_far_74 fX6_23 e0_1 ?_
    refine S_iconst qX6_far_77 ?_
    refine S_V1V hD qX6_far_78 lX6_165 vX2_goBeat (F_r F15) (c_goBeat false hG (by omega)) (kk := fun V78 h78 => ?_)
    obtain ⟨hG, hM78, -⟩ := h78
    have hTl := hTl.tr (Tl.of hM78 (by omega))
    have hg6 := hG.n6
    have hn2 : (goS Z.2.1 false s1).1 = s1.1 := rfl
    refine S_il4 qX6_far_81 ?_
    refine S_al0 qX6_far_83 ?_
    refine S_getR qX6_far_84 fX6_23 e0_1 ?_
    refine S_il1 qX6_far_87 ?_
    refine S_il2 qX6_far_88 ?_
    refine S_V2E hD qX6_far_89 lX6_180 vX2_apart (F_r F15) (c_apart hG (by omega) (by omega)) (K := ?_)
    refine S_S2E hD qX6_far_92 lX6_183 sJ9_max_7cf53 (c_max (by omega) (by omega)) (K := ?_)
    refine S_is4 qX6_far_95 (K := ?_)
    refine S_inc5 qX6_far_97 (K := ?_)
    refine S_goto qX6_far_100 ?_
    exact ih (i + 1) _ _ _ (by omega) (by omega) hTl hG hn1 (by split <;> omega) hx (by show s1.2.1 + 1 + (n : Int) ≤ 20000; omega)
theorem c_far {g : GC} {V : MM} {Z : ZT} {a b n : Int} (hZ : CA V Z) (ra : -2147483648 ≤ a ∧ a ≤ 2147483647) (rb : -2147483648 ≤ b ∧ b ≤ 2147483647) (rn : -2147483648 ≤ n ∧ n ≤ 2147483647) : Ct g mX6_far 8 [vr 0, vi a, vi b, vi n] V (RZ V (oFar Z a b n) Z) := by
  refine Ct.of (ls := [some (vr 0), some (vi a), some (vi b), some (vi n), none, none]) (plainFor_of_name (by decide +kernel)) rfl (by exact Nat.le_of_ble_eq_true rfl) (fun X hz hD => ?_)
  obtain ⟨hF, es, e1, e2, hn, hb, hkv, hfo, hwa, hro, hH, hh, h0, eh, hw, hk, hwz⟩ := hZ.fl
  have hTl := Tl.rf V
  have hr := hZ.1.2.1
  refine S_al0 qX6_far_0 ?_
  refine S_getR qX6_far_1 fX6_17 e0_0 ?_
  refine S_il1 qX6_far_4 ?_
  refine S_V1B hD qX6_far_5 lX6_80 vX2_has (F_r F8) (c_has F8 (by omega) (by omega)) (kt := fun j5 => ?_) (kf := fun j5 => ?_)
  · refine S_if_eq (d := qX6_far_8) (kt := fun c => absurd c (by decide)) (kf := fun _ => ?_)
    refine S_al0 qX6_far_11 ?_
    refine S_getR qX6_far_12 fX6_17 e0_0 ?_
    refine S_il2 qX6_far_15 ?_
    refine S_V1B hD qX6_far_16 lX6_80 vX2_has (F_r F8) (c_has F8 (by omega) (by omega)) (kt := fun j16 => ?_) (kf := fun j16 => ?_)
    · refine S_if_ne (d := qX6_far_19) (kt := fun _ => ?_) (kf := fun c => absurd c (by decide))
      refine S_il1 qX6_far_24 ?_
      refine S_il2 qX6_far_25 ?_
      refine S_icmp_eq (d := qX6_far_26) (kt := fun c26 => ?_) (kf := fun c26 => ?_)
      · refine S_bipush (d := qX6_far_39) (k := ?_)
        refine S_iret hz qX6_far_41 ?_
        refine RZ.tl hZ hTl ?_
        unfold oFar
        first | (rw [if_pos (by omega)]; done) | (rw [if_neg (by omega), if_pos (by omega)]; done)
      · refine S_il3 qX6_far_29 ?_
        refine S_if_lt (d := qX6_far_30) (kt := fun c30 => ?_) (kf := fun c30 => ?_)
        · refine S_bipush (d := qX6_far_39) (k := ?_)
          refine S_iret hz qX6_far_41 ?_
          refine RZ.tl hZ hTl ?_
          unfold oFar
          first | (rw [if_pos (by omega)]; done) | (rw [if_neg (by omega), if_pos (by omega)]; done)
        · refine S_il3 qX6_far_33 ?_
          refine S_bipush (d := qX6_far_34) (k := ?_)
          refine S_icmp_le (d := qX6_far_36) (kt := fun c36 => ?_) (kf := fun c36 => ?_)
          · refine S_al0 qX6_far_42 ?_
            refine S_getR qX6_far_43 fX6_23 e0_1 ?_
            refine S_al0 qX6_far_46 ?_
            refine S_getR qX6_far_47 fX6_17 e0_0 ?_
            refine S_V1V hD qX6_far_50 lX6_158 vX2_become (F_r F15) (c_become F15 (by decide) hF) (kk := fun V50 h50 => ?_)
            obtain ⟨hG, hM50, -⟩ := h50
            have hTl := hTl.tr (Tl.of hM50 (by omega))
            have hg6 := hG.n6
            refine S_al0 qX6_far_53 ?_
            refine S_getR qX6_far_54 fX6_23 e0_1 ?_
            refine S_il1 qX6_far_57 ?_
            refine S_il2 qX6_far_58 ?_
            refine S_V2E hD qX6_far_59 lX6_180 vX2_apart (F_r F15) (c_apart hG (by omega) (by omega)) (K := ?_)
            refine S_is4 qX6_far_62 (K := ?_)
            refine S_iconst qX6_far_64 ?_
            refine S_is5 qX6_far_65 (K := ?_)
            refine far_loop (Z := Z) (by omega) (by omega) (by omega) hz hD (fun V' h => RZ.tl hZ h ?_) n.toNat 1 _ _ _ (by omega) (by omega) hTl hG rfl (apa_rg _ _ _ hG.w99.1) rfl (by omega)
            unfold oFar
            rw [if_neg (by omega), if_neg (by omega)]
          · refine S_bipush (d := qX6_far_39) (k := ?_)
            refine S_iret hz qX6_far_41 ?_
            refine RZ.tl hZ hTl ?_
            unfold oFar
            first | (rw [if_pos (by omega)]; done) | (rw [if_neg (by omega), if_pos (by omega)]; done)
    · refine S_if_ne (d := qX6_far_19) (kt := fun c => absurd c (by decide)) (kf := fun _ => ?_)
      refine S_iconst qX6_far_22 ?_
      refine S_iret hz qX6_far_23 ?_
      refine RZ.tl hZ hTl ?_
      unfold oFar
      first | (rw [if_pos (by omega)]; done) | (rw [if_neg (by omega), if_pos (by omega)]; done)
  · refine S_if_eq (d := qX6_far_8) (kt := fun _ => ?_) (kf := fun c => absurd c (by decide))
    refine S_iconst qX6_far_22 ?_
    refine S_iret hz qX6_far_23 ?_
    refine RZ.tl hZ hTl ?_
    unfold oFar
    first | (rw [if_pos (by omega)]; done) | (rw [if_neg (by omega), if_pos (by omega)]; done)
