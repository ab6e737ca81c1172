def Sk (s0 s : FS) : Prop := s.1 = s0.1 ∧ s.2.2.1 = s0.2.2.1 ∧ s.2.2.2.1 = s0.2.2.2.1 ∧ s.2.2.2.2.2.2 = s0.2.2.2.2.2.2
theorem Sk.rf (s : FS) : Sk s s := ⟨rfl, rfl, rfl, rfl⟩
theorem Sk.go {s0 s : FS} (h : Sk s0 s) (hs : HS) (b : Bool) : Sk s0 (goS hs b s) := h
theorem cp_lz (r q : Int → Int) (n : Int) : (fun i => if 0 ≤ i ∧ i < n then r i else q i) = cpS r q 0 0 n := by
  funext i
  unfold cpS
  by_cases h : 0 ≤ i ∧ i < n
  · rw [if_pos h, if_pos (by omega)]
    exact congrArg _ (by omega)
  · rw [if_neg h, if_neg (by omega)]
theorem cp_0 (r q : Int → Int) : cpS r q 0 0 0 = q := by
  funext i
  unfold cpS
  rw [if_neg (by omega)]
theorem cp_1 (r q : Int → Int) {n x : Int} (h : 0 ≤ n) (hx : x = r n) : ur (cpS r q 0 0 n) n x = cpS r q 0 0 (n + 1) := by
  funext i
  subst hx
  unfold ur cpS
  by_cases h1 : i = n
  · rw [if_pos h1, if_pos (by omega), h1]
    exact congrArg _ (by omega)
  · rw [if_neg h1]
    by_cases h2 : 0 ≤ i ∧ i < 0 + n
    · rw [if_pos h2, if_pos (by omega)]
    · rw [if_neg h2, if_neg (by omega)]
theorem cps_in (r q : Int → Int) {n i : Int} (h : 0 ≤ i ∧ i < n) : cpS r q 0 0 n i = r i := by
  unfold cpS
  rw [if_pos (by omega)]
  exact congrArg _ (by omega)

theorem save_l1 {g : GC} {X : CX} {V : MM} (hk : SW g X RX7 cX7_save 34 [some (vr 83), none] [] (upR V 101 (cpS (V 88) (V 101) 0 0 48))) : ∀ (n : Nat) (i : Int), 0 ≤ i → i + n = 48 → SW g X RX7 cX7_save 10 [some (vr 83), some (vi i)] [] (upR V 101 (cpS (V 88) (V 101) 0 0 i)) := by
  intro n
  induction n with
  | zero =>
    intro i h0 h1
    have e : i = 48 := by omega
    subst e
    refine S_il1 qX7_save_10 ?_
    refine S_bipush (d := qX7_save_11) (k := ?_)
    refine S_icmp_ge (d := qX7_save_13) (kt := fun c13 => ?_) (kf := fun c13 => ?_)
    rotate_left
    · omega
    exact SW.forget 1 hk
  | succ n ih =>
    intro i h0 h1
    refine S_il1 qX7_save_10 ?_
    refine S_bipush (d := qX7_save_11) (k := ?_)
    refine S_icmp_ge (d := qX7_save_13) (kt := fun c13 => ?_) (kf := fun c13 => ?_)
    · omega
    refine S_al0 qX7_save_16 ?_
    refine S_getR qX7_save_17 fX7_96 e83_28 ?_
    refine S_il1 qX7_save_20 ?_
    refine S_al0 qX7_save_21 ?_
    refine S_getR qX7_save_22 fX7_29 e83_6 ?_
    refine S_il1 qX7_save_25 ?_
    refine S_iald qX7_save_26 a88 (K := ?_)
    refine S_iast qX7_save_27 a101 (K := ?_)
    refine S_inc1 qX7_save_28 (K := ?_)
    refine S_goto qX7_save_31 ?_
    rw [upR_s, upR_u, upR_n _ (show (88 : Nat) ≠ 101 by omega), cp_1 _ _ h0 rfl]
    exact ih (i + 1) (by omega) (by omega)
theorem save_l2 {g : GC} {X : CX} {V : MM} (hk : SW g X RX7 cX7_save 60 [some (vr 83), none] [] (upR V 102 (cpS (V 86) (V 102) 0 0 6))) : ∀ (n : Nat) (i : Int), 0 ≤ i → i + n = 6 → SW g X RX7 cX7_save 36 [some (vr 83), some (vi i)] [] (upR V 102 (cpS (V 86) (V 102) 0 0 i)) := by
  intro n
  induction n with
  | zero =>
    intro i h0 h1
    have e : i = 6 := by omega
    subst e
    refine S_il1 qX7_save_36 ?_
    refine S_bipush (d := qX7_save_37) (k := ?_)
    refine S_icmp_ge (d := qX7_save_39) (kt := fun c39 => ?_) (kf := fun c39 => ?_)
    rotate_left
    · omega
    exact SW.forget 1 hk
  | succ n ih =>
    intro i h0 h1
    refine S_il1 qX7_save_36 ?_
    refine S_bipush (d := qX7_save_37) (k := ?_)
    refine S_icmp_ge (d := qX7_save_39) (kt := fun c39 => ?_) (kf := fun c39 => ?_)
    · omega
    refine S_al0 qX7_save_42 ?_
    refine S_getR qX7_save_43 fX7_99 e83_29 ?_
    refine S_il1 qX7_save_46 ?_
    refine S_al0 qX7_save_47 ?_
    refine S_getR qX7_save_48 fX7_23 e83_4 ?_
    refine S_il1 qX7_save_51 ?_
    refine S_iald qX7_save_52 a86 (K := ?_)
    refine S_iast qX7_save_53 a102 (K := ?_)
    refine S_inc1 qX7_save_54 (K := ?_)
    refine S_goto qX7_save_57 ?_
    rw [upR_s, upR_u, upR_n _ (show (86 : Nat) ≠ 102 by omega), cp_1 _ _ h0 rfl]
    exact ih (i + 1) (by omega) (by omega)
theorem m_save {g : GC} {V : MM} {hs : HS} {s : FS} (M : FM V hs s) : Ct g mX7_save 1 [vr 83] V (RV (fun V' => FM V' hs s ∧ Tm V V' ∧ KM V' s)) := by
  refine Ct.of (ls := [some (vr 83), none]) (plainFor_of_name (by decide +kernel)) rfl (by exact Nat.le_of_ble_eq_true rfl) (fun X hz hD => ?_)
  refine S_al0 qX7_save_0 ?_
  refine S_al0 qX7_save_1 ?_
  refine S_getI qX7_save_2 fX7_13 e83_1 ?_
  refine S_putI qX7_save_5 fX7_93 e83_27 tX7_27 ?_
  refine S_iconst qX7_save_8 ?_
  refine S_is1 qX7_save_9 (K := ?_)
  generalize hW : upR V 83 (ur (V 83) 27 (V 83 1)) = W
  have w83 : W 83 = ur (V 83) 27 (V 83 1) := by rw [← hW, upR_s]
  have wk : ∀ k : Nat, k ≠ 83 → W k = V k := fun k a => by rw [← hW, upR_n _ a]
  rw [← upR_id W 101]
  have h5 := save_l1 (g := g) (X := X) (V := W) ?_ 48 0 (by omega) (by omega)
  · rw [cp_0] at h5
    exact h5
  refine S_iconst qX7_save_34 ?_
  refine S_is1 qX7_save_35 (K := ?_)
  generalize hU : upR W 101 (cpS (W 88) (W 101) 0 0 48) = U
  have u101 : U 101 = cpS (W 88) (W 101) 0 0 48 := by rw [← hU, upR_s]
  have uk : ∀ k : Nat, k ≠ 101 → U k = W k := fun k a => by rw [← hU, upR_n _ a]
  rw [← upR_id U 102]
  have h6 := save_l2 (g := g) (X := X) (V := U) ?_ 6 0 (by omega) (by omega)
  · rw [cp_0] at h6
    exact h6
  refine S_vret hz qX7_save_60 ?_
  generalize hX : upR U 102 (cpS (U 86) (U 102) 0 0 6) = Y
  have y102 : Y 102 = cpS (U 86) (U 102) 0 0 6 := by rw [← hX, upR_s]
  have yk : ∀ k : Nat, k ≠ 102 → Y k = U k := fun k a => by rw [← hX, upR_n _ a]
  have zk : ∀ k : Nat, k ≠ 83 → k ≠ 101 → k ≠ 102 → Y k = V k := fun k a b c => by rw [yk k c, uk k b, wk k a]
  have z83 : Y 83 = ur (V 83) 27 (V 83 1) := by rw [yk 83 (by omega), uk 83 (by omega), w83]
  have hT : Tm V Y := ⟨fun k a b c d => zk k a (by omega) (by omega), fun j p q => by rw [z83, ur_n _ q]⟩
  refine ⟨rfl, M.mk2 hT ?_ M.2.2.2, hT, ?_, fun i hi => ?_, fun i hi => ?_⟩
  · rw [M.1]
    show _ = (Y 83 0, Y 83 1, Y 84, Y 85, Y 86, Y 88, Y 87)
    rw [z83, ur_n _ (by omega), ur_n _ (by omega), zk 84 (by omega) (by omega) (by omega), zk 85 (by omega) (by omega) (by omega), zk 86 (by omega) (by omega) (by omega), zk 87 (by omega) (by omega) (by omega), zk 88 (by omega) (by omega) (by omega)]
  · rw [z83, ur_s, M.b]
  · rw [yk 101 (by omega), u101, cps_in _ _ hi, wk 88 (by omega), M.w88]
  · rw [y102, cps_in _ _ hi, uk 86 (by omega), wk 86 (by omega), M.w86]

theorem pb_l1 {g : GC} {X : CX} {V : MM} (hk : SW g X RX7 cX7_putBack 34 [some (vr 83), none] [] (upR V 88 (cpS (V 101) (V 88) 0 0 48))) : ∀ (n : Nat) (i : Int), 0 ≤ i → i + n = 48 → SW g X RX7 cX7_putBack 10 [some (vr 83), some (vi i)] [] (upR V 88 (cpS (V 101) (V 88) 0 0 i)) := by
  intro n
  induction n with
  | zero =>
    intro i h0 h1
    have e : i = 48 := by omega
    subst e
    refine S_il1 qX7_putBack_10 ?_
    refine S_bipush (d := qX7_putBack_11) (k := ?_)
    refine S_icmp_ge (d := qX7_putBack_13) (kt := fun c13 => ?_) (kf := fun c13 => ?_)
    rotate_left
    · omega
    exact SW.forget 1 hk
  | succ n ih =>
    intro i h0 h1
    refine S_il1 qX7_putBack_10 ?_
    refine S_bipush (d := qX7_putBack_11) (k := ?_)
    refine S_icmp_ge (d := qX7_putBack_13) (kt := fun c13 => ?_) (kf := fun c13 => ?_)
    · omega
    refine S_al0 qX7_putBack_16 ?_
    refine S_getR qX7_putBack_17 fX7_29 e83_6 ?_
    refine S_il1 qX7_putBack_20 ?_
    refine S_al0 qX7_putBack_21 ?_
    refine S_getR qX7_putBack_22 fX7_96 e83_28 ?_
    refine S_il1 qX7_putBack_25 ?_
    refine S_iald qX7_putBack_26 a101 (K := ?_)
    refine S_iast qX7_putBack_27 a88 (K := ?_)
    refine S_inc1 qX7_putBack_28 (K := ?_)
    refine S_goto qX7_putBack_31 ?_
    rw [upR_s, upR_u, upR_n _ (show (101 : Nat) ≠ 88 by omega), cp_1 _ _ h0 rfl]
    exact ih (i + 1) (by omega) (by omega)
theorem pb_l2 {g : GC} {X : CX} {V : MM} (hk : SW g X RX7 cX7_putBack 60 [some (vr 83), none] [] (upR V 86 (cpS (V 102) (V 86) 0 0 6))) : ∀ (n : Nat) (i : Int), 0 ≤ i → i + n = 6 → SW g X RX7 cX7_putBack 36 [some (vr 83), some (vi i)] [] (upR V 86 (cpS (V 102) (V 86) 0 0 i)) := by
  intro n
  induction n with
  | zero =>
    intro i h0 h1
    have e : i = 6 := by omega
    subst e
    refine S_il1 qX7_putBack_36 ?_
    refine S_bipush (d := qX7_putBack_37) (k := ?_)
    refine S_icmp_ge (d := qX7_putBack_39) (kt := fun c39 => ?_) (kf := fun c39 => ?_)
    rotate_left
    · omega
    exact SW.forget 1 hk
  | succ n ih =>
    intro i h0 h1
    refine S_il1 qX7_putBack_36 ?_
    refine S_bipush (d := qX7_putBack_37) (k := ?_)
    refine S_icmp_ge (d := qX7_putBack_39) (kt := fun c39 => ?_) (kf := fun c39 => ?_)
    · omega
    refine S_al0 qX7_putBack_42 ?_
    refine S_getR qX7_putBack_43 fX7_23 e83_4 ?_
    refine S_il1 qX7_putBack_46 ?_
    refine S_al0 qX7_putBack_47 ?_
    refine S_getR qX7_putBack_48 fX7_99 e83_29 ?_
    refine S_il1 qX7_putBack_51 ?_
    refine S_iald qX7_putBack_52 a102 (K := ?_)
    refine S_iast qX7_putBack_53 a86 (K := ?_)
    refine S_inc1 qX7_putBack_54 (K := ?_)
    refine S_goto qX7_putBack_57 ?_
    rw [upR_s, upR_u, upR_n _ (show (102 : Nat) ≠ 86 by omega), cp_1 _ _ h0 rfl]
    exact ih (i + 1) (by omega) (by omega)
theorem m_putBack {g : GC} {V : MM} {hs : HS} {s s0 : FS} (M : FM V hs s) (K : KM V s0) (S : Sk s0 s) (hI : FInv hs.1 s0) : Ct g mX7_putBack 1 [vr 83] V (RV (fun V' => FM V' hs s0 ∧ Tm V V')) := by
  refine Ct.of (ls := [some (vr 83), none]) (plainFor_of_name (by decide +kernel)) rfl (by exact Nat.le_of_ble_eq_true rfl) (fun X hz hD => ?_)
  refine S_al0 qX7_putBack_0 ?_
  refine S_al0 qX7_putBack_1 ?_
  refine S_getI qX7_putBack_2 fX7_93 e83_27 ?_
  refine S_putI qX7_putBack_5 fX7_13 e83_1 tX7_1 ?_
  refine S_iconst qX7_putBack_8 ?_
  refine S_is1 qX7_putBack_9 (K := ?_)
  generalize hW : upR V 83 (ur (V 83) 1 (V 83 27)) = W
  have w83 : W 83 = ur (V 83) 1 (V 83 27) := by rw [← hW, upR_s]
  have wk : ∀ k : Nat, k ≠ 83 → W k = V k := fun k a => by rw [← hW, upR_n _ a]
  rw [← upR_id W 88]
  have h5 := pb_l1 (g := g) (X := X) (V := W) ?_ 48 0 (by omega) (by omega)
  · rw [cp_0] at h5
    exact h5
  refine S_iconst qX7_putBack_34 ?_
  refine S_is1 qX7_putBack_35 (K := ?_)
  refine SW.castR (V' := upR W 88 s0.2.2.2.2.2.1) ?_ (fun j i h => ?_)
  rotate_left
  · by_cases e : j = 88
    · subst e
      have h2 := inR_a a88 h
      rw [upR_s, upR_s, cps_in _ _ (by omega), wk 101 (by omega), K.2.1 i (by omega)]
    · rw [upR_n _ e, upR_n _ e]
  generalize hU : upR W 88 s0.2.2.2.2.2.1 = U
  have u88 : U 88 = s0.2.2.2.2.2.1 := by rw [← hU, upR_s]
  have uk : ∀ k : Nat, k ≠ 88 → U k = W k := fun k a => by rw [← hU, upR_n _ a]
  rw [← upR_id U 86]
  have h6 := pb_l2 (g := g) (X := X) (V := U) ?_ 6 0 (by omega) (by omega)
  · rw [cp_0] at h6
    exact h6
  refine SW.castR (V' := upR U 86 s0.2.2.2.2.1) ?_ (fun j i h => ?_)
  rotate_left
  · by_cases e : j = 86
    · subst e
      have h2 := inR_a a86 h
      rw [upR_s, upR_s, cps_in _ _ (by omega), uk 102 (by omega), wk 102 (by omega), K.2.2 i (by omega)]
    · rw [upR_n _ e, upR_n _ e]
  refine S_vret hz qX7_putBack_60 ?_
  generalize hX : upR U 86 s0.2.2.2.2.1 = Y
  have y86 : Y 86 = s0.2.2.2.2.1 := by rw [← hX, upR_s]
  have yk : ∀ k : Nat, k ≠ 86 → Y k = U k := fun k a => by rw [← hX, upR_n _ a]
  have zk : ∀ k : Nat, k ≠ 83 → k ≠ 88 → k ≠ 86 → Y k = V k := fun k a b c => by rw [yk k c, uk k b, wk k a]
  have z83 : Y 83 = ur (V 83) 1 (V 83 27) := by rw [yk 83 (by omega), uk 83 (by omega), w83]
  have z88 : Y 88 = s0.2.2.2.2.2.1 := by rw [yk 88 (by omega), u88]
  have hT : Tm V Y := ⟨fun k a b c d => zk k a c b, fun j p q => by rw [z83, ur_n _ p]⟩
  refine ⟨rfl, M.mk2 hT ?_ hI, hT⟩
  show _ = (Y 83 0, Y 83 1, Y 84, Y 85, Y 86, Y 88, Y 87)
  rw [z83, ur_n _ (show (0 : Int) ≠ 1 by omega), ur_s, zk 84 (by omega) (by omega) (by omega), zk 85 (by omega) (by omega) (by omega), y86, z88, zk 87 (by omega) (by omega) (by omega), K.1, M.n, M.w84, M.w85, M.w87, S.1, S.2.1, S.2.2.1, S.2.2.2]

def letL : List Int := [108, 101, 102, 116, 114, 105, 103, 104, 116, 119, 105, 100, 101, 115, 107, 105, 112]
abbrev snM (V : MM) : SN := (V 83 31, V 104, V 105, V 106, V 83 35, V 107, V 83 36, V 108, V 109)
abbrev snI (V : MM) : SN := (V 83 44, V 115, V 116, V 117, V 83 45, V 118, V 83 46, V 119, V 120)
abbrev fsI (V : MM) : FS := (V 83 42, V 83 43, V 110, V 111, V 112, V 114, V 113)
def MAf (V : MM) (Z : ZT) : Prop := FM V Z.2.1 Z.1 ∧ Z.1.2.1 ≤ 9999
def MAh (V : MM) (Z : ZT) : Prop := V 83 7 = Z.2.2.1 ∧ (0 ≤ Z.2.2.1 ∧ Z.2.2.1 ≤ 6) ∧ V 83 8 < Z.2.2.1
def MAt (V : MM) (Z : ZT) : Prop := V 83 9 = Z.2.2.2.1.1 ∧ V 89 = Z.2.2.2.1.2 ∧ (0 ≤ Z.2.2.2.1.1 ∧ Z.2.2.2.1.1 ≤ 100) ∧ ∀ i, 0 ≤ i ∧ i < 100 → 0 ≤ Z.2.2.2.1.2 i ∧ Z.2.2.2.1.2 i ≤ 127
def MAn (V : MM) (Z : ZT) : Prop := snM V = Z.2.2.2.2.1 ∧ NInv Z.1.1 Z.2.2.2.2.1
def MAi (V : MM) (Z : ZT) : Prop := (V 83 40 = 0 ∧ Z.2.2.2.2.2.1 = none) ∨ ∃ I : FS × HS × SN, V 83 40 = 1 ∧ Z.2.2.2.2.2.1 = some I ∧ fsI V = I.1 ∧ (I.2.1 = hsT V (V 83 41) ∧ MHi V (V 83 41) ∧ V 83 41 < Z.2.2.1) ∧ (FInv I.2.1.1 I.1 ∧ I.1.2.1 ≤ 9999) ∧ snI V = I.2.2 ∧ NInv I.1.1 I.2.2
def MAr (V : MM) (Z : ZT) : Prop := V 83 58 = Z.2.2.2.2.2.2.1.1 ∧ V 121 = Z.2.2.2.2.2.2.1.2 ∧ 0 ≤ V 83 58 ∧ V 83 58 ≤ 1000
def MAg (V : MM) (Z : ZT) : Prop := ∀ i : Nat, i < 6 → (V 122 i = tpS Z i ∧ V 123 i = tpN Z i ∧ ∀ j : Int, 0 ≤ j ∧ j < 60 → V 124 (60 * i + j) = tpR Z i j) ∧ (-1 ≤ tpS Z i ∧ tpS Z i ≤ 4) ∧ (0 ≤ tpN Z i ∧ tpN Z i ≤ 60) ∧ (tpS Z i = -1 → tpN Z i = 0)
def MAl (V : MM) : Prop := ∀ j : Int, 0 ≤ j ∧ j < 17 → V 97 j = letL.getD j.toNat 0
def MA (V : MM) (Z : ZT) : Prop := MAf V Z ∧ MAh V Z ∧ MAt V Z ∧ MAn V Z ∧ MAi V Z ∧ MAr V Z ∧ MAg V Z ∧ MAl V
theorem MAh_c {V V' : MM} {Z Z' : ZT} (h : MAh V Z) (e7 : V' 83 7 = V 83 7) (e8 : V' 83 8 = V 83 8) (ez : Z'.2.2.1 = Z.2.2.1) : MAh V' Z' := by
  unfold MAh
  rw [e7, e8, ez]
  exact h
theorem MAt_c {V V' : MM} {Z Z' : ZT} (h : MAt V Z) (e9 : V' 83 9 = V 83 9) (e89 : V' 89 = V 89) (ez : Z'.2.2.2.1 = Z.2.2.2.1) : MAt V' Z' := by
  unfold MAt
  rw [e9, e89, ez]
  exact h
theorem MAn_c {V V' : MM} {Z Z' : ZT} (h : MAn V Z) (e : ∀ k : Nat, 104 ≤ k → k < 110 → V' k = V k) (e3 : V' 83 31 = V 83 31) (e5 : V' 83 35 = V 83 35) (e6 : V' 83 36 = V 83 36) (hn : Z.1.1 ≤ Z'.1.1) (ez : Z'.2.2.2.2.1 = Z.2.2.2.2.1) : MAn V' Z' := by
  refine ⟨?_, by rw [ez]; exact h.2.mono hn⟩
  rw [ez, ← h.1]
  unfold snM
  rw [e3, e5, e6, e 104 (by omega) (by omega), e 105 (by omega) (by omega), e 106 (by omega) (by omega), e 107 (by omega) (by omega), e 108 (by omega) (by omega), e 109 (by omega) (by omega)]
theorem MAi_c {V V' : MM} {Z Z' : ZT} (h : MAi V Z) (e : ∀ k : Nat, 90 ≤ k ∧ k < 96 ∨ 110 ≤ k ∧ k < 121 → V' k = V k) (e83 : ∀ j : Int, 40 ≤ j ∧ j ≤ 46 → V' 83 j = V 83 j) (ez : Z'.2.2.2.2.2.1 = Z.2.2.2.2.2.1) (ec : Z'.2.2.1 = Z.2.2.1) : MAi V' Z' := by
  have hc := hsT_c (V := V) (V' := V') (t := V 83 41) (fun k a b => e k (by omega))
  unfold MAi
  rw [ez, ec, e83 40 (by omega), e83 41 (by omega)]
  rcases h with ⟨i1, i2⟩ | ⟨I, i1, i2, i3, ⟨i4, i5, i6⟩, i7, i8, i9⟩
  · exact Or.inl ⟨i1, i2⟩
  · refine Or.inr ⟨I, i1, i2, ?_, ⟨by rw [hc.1]; exact i4, hc.2 i5, i6⟩, i7, ?_, i9⟩
    · rw [← i3]
      unfold fsI
      rw [e83 42 (by omega), e83 43 (by omega), e 110 (by omega), e 111 (by omega), e 112 (by omega), e 113 (by omega), e 114 (by omega)]
    · rw [← i8]
      unfold snI
      rw [e83 44 (by omega), e83 45 (by omega), e83 46 (by omega), e 115 (by omega), e 116 (by omega), e 117 (by omega), e 118 (by omega), e 119 (by omega), e 120 (by omega)]
theorem MAr_c {V V' : MM} {Z Z' : ZT} (h : MAr V Z) (e8 : V' 83 58 = V 83 58) (e121 : V' 121 = V 121) (ez : Z'.2.2.2.2.2.2.1 = Z.2.2.2.2.2.2.1) : MAr V' Z' := by
  unfold MAr
  rw [e8, e121, ez]
  exact h
theorem MAg_c {V V' : MM} {Z Z' : ZT} (h : MAg V Z) (e2 : V' 122 = V 122) (e3 : V' 123 = V 123) (e4 : V' 124 = V 124) (ez : Z'.2.2.2.2.2.2.2 = Z.2.2.2.2.2.2.2) : MAg V' Z' := by
  unfold MAg tpS tpN tpR
  rw [e2, e3, e4, ez]
  exact h
theorem MAl_c {V V' : MM} (h : MAl V) (e : V' 97 = V 97) : MAl V' := by
  unfold MAl
  rw [e]
  exact h
/-- behind passing changes, with the same floor or another one -/
theorem MA.tm {V V' : MM} {Z : ZT} {s' : FS} (hZ : MA V Z) (hT : Tm V V') (M : FM V' Z.2.1 s') (hb : s'.2.1 ≤ 9999) (hn : Z.1.1 ≤ s'.1) : MA V' (s', Z.2) := by
  obtain ⟨-, h2, h3, h4, h5, h6, h7, h8⟩ := hZ
  exact ⟨⟨M, hb⟩, MAh_c h2 (hT.2 7 (by omega) (by omega)) (hT.2 8 (by omega) (by omega)) rfl, MAt_c h3 (hT.2 9 (by omega) (by omega)) (hT.1 89 (by omega) (by omega) (by omega) (by omega)) rfl, MAn_c h4 (fun k a b => hT.1 k (by omega) (by omega) (by omega) (by omega)) (hT.2 31 (by omega) (by omega)) (hT.2 35 (by omega) (by omega)) (hT.2 36 (by omega) (by omega)) hn rfl, MAi_c h5 (fun k a => hT.1 k (by omega) (by omega) (by omega) (by omega)) (fun j a => hT.2 j (by omega) (by omega)) rfl rfl, MAr_c h6 (hT.2 58 (by omega) (by omega)) (hT.1 121 (by omega) (by omega) (by omega) (by omega)) rfl, MAg_c h7 (hT.1 122 (by omega) (by omega) (by omega) (by omega)) (hT.1 123 (by omega) (by omega) (by omega) (by omega)) (hT.1 124 (by omega) (by omega) (by omega) (by omega)) rfl, MAl_c h8 (hT.1 97 (by omega) (by omega) (by omega) (by omega))⟩
/-- the other's places are as they were -/
def Lo (V V' : MM) : Prop := ∀ k : Nat, k < 83 → V' k = V k
def RM (V : MM) (x : Int) (Z' : ZT) : Option AV → MM → Prop := fun r V' => r = some (vi x) ∧ MA V' Z' ∧ Lo V V'
def RML (V : MM) (x : Int) (Z' : ZT) : Option AV → MM → Prop := fun r V' => r = some (vl x) ∧ MA V' Z' ∧ Lo V V'
theorem Tm.lo {V V' : MM} (h : Tm V V') : Lo V V' := fun k a => h.1 k (by omega) (by omega) (by omega) (by omega)
theorem RM.same {V : MM} {Z : ZT} {x y : Int} (hZ : MA V Z) (e : x = y) : RM V y Z (some (vi x)) V := ⟨by rw [e], hZ, fun _ _ => rfl⟩
theorem RML.same {V : MM} {Z : ZT} {x y : Int} (hZ : MA V Z) (e : x = y) : RML V y Z (some (vl x)) V := ⟨by rw [e], hZ, fun _ _ => rfl⟩
theorem RM.tm {V V' : MM} {Z : ZT} {x y : Int} (hZ : MA V Z) (hT : Tm V V') (M : FM V' Z.2.1 Z.1) (e : x = y) : RM V y Z (some (vi x)) V' := ⟨by rw [e], hZ.tm hT M hZ.1.2 (Int.le_refl _), hT.lo⟩
theorem RML.tm {V V' : MM} {Z : ZT} {x y : Int} (hZ : MA V Z) (hT : Tm V V') (M : FM V' Z.2.1 Z.1) (e : x = y) : RML V y Z (some (vl x)) V' := ⟨by rw [e], hZ.tm hT M hZ.1.2 (Int.le_refl _), hT.lo⟩
theorem RM.eq {V : MM} {Z : ZT} {x : Int} {y : Int × ZT} (hZ : MA V Z) (e : (x, Z) = y) : RM V y.1 y.2 (some (vi x)) V := by
  subst e
  exact ⟨rfl, hZ, fun _ _ => rfl⟩
theorem RM.to {V V' : MM} {Z' : ZT} {x : Int} {y : Int × ZT} (hZ : MA V' Z') (hH : Lo V V') (e : (x, Z') = y) : RM V y.1 y.2 (some (vi x)) V' := by
  subst e
  exact ⟨rfl, hZ, hH⟩
