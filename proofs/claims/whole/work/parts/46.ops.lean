theorem i2c_id {c : Int} (h : 0 ≤ c ∧ c ≤ 127) : ((Int32.ofInt c).toUInt32 % 65536).toInt32.toInt = c := by
  have h2 : ∀ n : Fin 128, ((Int32.ofInt (n.1 : Int)).toUInt32 % 65536).toInt32.toInt = (n.1 : Int) := by decide +kernel
  have h3 := h2 ⟨c.toNat, by omega⟩
  have h4 : ((c.toNat : Nat) : Int) = c := by omega
  rw [h4] at h3
  exact h3
theorem Ct.x {g : GC} {M : MN} {d : Nat} {as : List AV} {V W : MM} {z : Int} (h : Ct g M d as V (fun r V' => r = some (vi z) ∧ V' = W)) : Ct g M d as V (RI (fun z' V' => z' = z ∧ V' = W)) :=
  h.mono (fun r V' h => ⟨z, h.1, rfl, h.2⟩)

theorem c_dancer {g : GC} {V : MM} {Z : ZT} {k v p : Int} (hZ : CA V Z) (rk : -2147483648 ≤ k ∧ k ≤ 2147483647) (rv : -2147483648 ≤ v ∧ v ≤ 2147483647) (rp : -2147483648 ≤ p ∧ p ≤ 2147483647) : Ct g mX6_dancer 5 [vr 0, vi k, vi v, vi p] V (RZ V (nDancer Z k v p).1 (nDancer Z k v p).2) := by
  refine Ct.of (ls := [some (vr 0), some (vi k), some (vi v), some (vi p)]) (plainFor_of_name (by decide +kernel)) rfl (by exact Nat.le_of_ble_eq_true rfl) (fun X hz hD => ?_)
  obtain ⟨hF, es, e1, e2, hn, hb, hkv, hfo, hwa, hro, hH, hh, h0, eh, hw, hk, hwz⟩ := hZ.fl
  have ew : Z.2.1.1 = V (V 8 2).toNat 0 := by rw [eh]
  have hr := hZ.1.2.1
  refine S_il1 qX6_dancer_0 ?_
  refine S_if_lt (d := qX6_dancer_1) (kt := fun c1 => ?_) (kf := fun c1 => ?_)
  · refine S_iconst qX6_dancer_10 ?_
    refine S_iret hz qX6_dancer_11 ?_
    refine RZ.eq hZ ?_
    unfold nDancer
    first | (rw [if_pos (by omega)]; done) | (rw [if_neg (by omega), if_pos (by omega)]; done) | (rw [if_neg (by omega), if_neg (by omega), if_pos (by omega)]; done) | (rw [if_neg (by omega), if_neg (by omega), if_neg (by omega), if_pos (by omega)]; done)
  · refine S_il1 qX6_dancer_4 ?_
    refine S_bipush (d := qX6_dancer_5) (k := ?_)
    refine S_icmp_lt (d := qX6_dancer_7) (kt := fun c7 => ?_) (kf := fun c7 => ?_)
    · refine S_il2 qX6_dancer_12 ?_
      refine S_if_lt (d := qX6_dancer_13) (kt := fun c13 => ?_) (kf := fun c13 => ?_)
      · refine S_bipush (d := qX6_dancer_33) (k := ?_)
        refine S_iret hz qX6_dancer_35 ?_
        refine RZ.eq hZ ?_
        unfold nDancer
        first | (rw [if_pos (by omega)]; done) | (rw [if_neg (by omega), if_pos (by omega)]; done) | (rw [if_neg (by omega), if_neg (by omega), if_pos (by omega)]; done) | (rw [if_neg (by omega), if_neg (by omega), if_neg (by omega), if_pos (by omega)]; done)
      · refine S_il2 qX6_dancer_16 ?_
        refine S_bipush (d := qX6_dancer_17) (k := ?_)
        refine S_icmp_gt (d := qX6_dancer_19) (kt := fun c19 => ?_) (kf := fun c19 => ?_)
        · refine S_bipush (d := qX6_dancer_33) (k := ?_)
          refine S_iret hz qX6_dancer_35 ?_
          refine RZ.eq hZ ?_
          unfold nDancer
          first | (rw [if_pos (by omega)]; done) | (rw [if_neg (by omega), if_pos (by omega)]; done) | (rw [if_neg (by omega), if_neg (by omega), if_pos (by omega)]; done) | (rw [if_neg (by omega), if_neg (by omega), if_neg (by omega), if_pos (by omega)]; done)
        · refine S_al0 qX6_dancer_22 ?_
          refine S_getR qX6_dancer_23 fX6_17 e0_0 ?_
          refine S_il3 qX6_dancer_26 ?_
          refine S_V1B hD qX6_dancer_27 lX6_68 vX2_hasPlace (F_r F8) (c_hasPlace F8 hh (by omega) (by omega)) (kt := fun j27 => ?_) (kf := fun j27 => ?_)
          · refine S_if_ne (d := qX6_dancer_30) (kt := fun _ => ?_) (kf := fun c => absurd c (by decide))
            refine S_al0 qX6_dancer_36 ?_
            refine S_getR qX6_dancer_37 fX6_17 e0_0 ?_
            refine S_getI qX6_dancer_40 fX6_72 (F_0 F8) ?_
            refine S_bipush (d := qX6_dancer_43) (k := ?_)
            refine S_icmp_lt (d := qX6_dancer_45) (kt := fun c45 => ?_) (kf := fun c45 => ?_)
            · refine S_al0 qX6_dancer_51 ?_
              refine S_getR qX6_dancer_52 fX6_17 e0_0 ?_
              refine S_il1 qX6_dancer_55 ?_
              refine S_il2 qX6_dancer_56 ?_
              refine S_il3 qX6_dancer_57 ?_
              refine S_V3I hD qX6_dancer_58 lX6_76 vX2_join (F_r F8) (c_join hF (by omega) (by omega) (by omega) (by omega)) (kk := fun z58 V58 h58 => ?_)
              obtain ⟨rfl, hG, hM, h2⟩ := h58
              refine S_iret hz qX6_dancer_61 ?_
              refine RZ.to (hZ.fs hG (fun k hk => hM k (by omega)) h2 (by show Z.1.2.1 ≤ 9999; omega) (by show Z.1.1 ≤ Z.1.1 + 1; omega)) (fun k hk => hM k (by omega)) ?_
              unfold nDancer
              rw [if_neg (by omega), if_neg (by omega), if_neg (by omega)]
            · refine S_bipush (d := qX6_dancer_48) (k := ?_)
              refine S_iret hz qX6_dancer_50 ?_
              refine RZ.eq hZ ?_
              unfold nDancer
              first | (rw [if_pos (by omega)]; done) | (rw [if_neg (by omega), if_pos (by omega)]; done) | (rw [if_neg (by omega), if_neg (by omega), if_pos (by omega)]; done) | (rw [if_neg (by omega), if_neg (by omega), if_neg (by omega), if_pos (by omega)]; done)
          · refine S_if_ne (d := qX6_dancer_30) (kt := fun c => absurd c (by decide)) (kf := fun _ => ?_)
            refine S_bipush (d := qX6_dancer_33) (k := ?_)
            refine S_iret hz qX6_dancer_35 ?_
            refine RZ.eq hZ ?_
            unfold nDancer
            first | (rw [if_pos (by omega)]; done) | (rw [if_neg (by omega), if_pos (by omega)]; done) | (rw [if_neg (by omega), if_neg (by omega), if_pos (by omega)]; done) | (rw [if_neg (by omega), if_neg (by omega), if_neg (by omega), if_pos (by omega)]; done)
    · refine S_iconst qX6_dancer_10 ?_
      refine S_iret hz qX6_dancer_11 ?_
      refine RZ.eq hZ ?_
      unfold nDancer
      first | (rw [if_pos (by omega)]; done) | (rw [if_neg (by omega), if_pos (by omega)]; done) | (rw [if_neg (by omega), if_neg (by omega), if_pos (by omega)]; done) | (rw [if_neg (by omega), if_neg (by omega), if_neg (by omega), if_pos (by omega)]; done)

theorem c_after {g : GC} {V : MM} {Z : ZT} {d o : Int} (hZ : CA V Z) (rd : -2147483648 ≤ d ∧ d ≤ 2147483647) (ro : -2147483648 ≤ o ∧ o ≤ 2147483647) : Ct g mX6_after 5 [vr 0, vi d, vi o] V (RZ V (nAfter Z d o).1 (nAfter Z d o).2) := by
  refine Ct.of (ls := [some (vr 0), some (vi d), some (vi o), none]) (plainFor_of_name (by decide +kernel)) rfl (by exact Nat.le_of_ble_eq_true rfl) (fun X hz hD => ?_)
  obtain ⟨hF, es, e1, e2, hn, hb, hkv, hfo, hwa, hro, hH, hh, h0, eh, hw, hk, hwz⟩ := hZ.fl
  have ew : Z.2.1.1 = V (V 8 2).toNat 0 := by rw [eh]
  have hr := hZ.1.2.1
  refine S_al0 qX6_after_0 ?_
  refine S_getR qX6_after_1 fX6_17 e0_0 ?_
  refine S_il1 qX6_after_4 ?_
  refine S_V1B hD qX6_after_5 lX6_80 vX2_has (F_r F8) (c_has F8 (by omega) (by omega)) (kt := fun j5 => ?_) (kf := fun j5 => ?_)
  · refine S_if_eq (d := qX6_after_8) (kt := fun c => absurd c (by decide)) (kf := fun _ => ?_)
    refine S_al0 qX6_after_11 ?_
    refine S_getR qX6_after_12 fX6_17 e0_0 ?_
    refine S_il2 qX6_after_15 ?_
    refine S_V1B hD qX6_after_16 lX6_80 vX2_has (F_r F8) (c_has F8 (by omega) (by omega)) (kt := fun j16 => ?_) (kf := fun j16 => ?_)
    · refine S_if_ne (d := qX6_after_19) (kt := fun _ => ?_) (kf := fun c => absurd c (by decide))
      refine S_al0 qX6_after_24 ?_
      refine S_getR qX6_after_25 fX6_17 e0_0 ?_
      refine S_getR qX6_after_28 fX6_89 (F_5 F8) ?_
      refine S_il1 qX6_after_31 ?_
      refine S_iald qX6_after_32 (Fa_3 F8) (K := ?_)
      refine S_is3 qX6_after_33 (K := ?_)
      refine S_al0 qX6_after_34 ?_
      refine S_getR qX6_after_35 fX6_17 e0_0 ?_
      refine S_il1 qX6_after_38 ?_
      refine S_il2 qX6_after_39 ?_
      refine S_V2V hD qX6_after_40 lX6_108 vX2_follow (F_r F8) (c_followF hF (by omega) (by omega)) (kk := fun V40 h40 => ?_)
      obtain ⟨hG, hM, h2⟩ := h40
      refine S_il3 qX6_after_43 ?_
      refine S_iret hz qX6_after_44 ?_
      refine RZ.to (hZ.fs hG hM h2 (by show Z.1.2.1 ≤ 9999; omega) (by show Z.1.1 ≤ Z.1.1; omega)) (fun k hk => hM k (by omega)) ?_
      unfold nAfter
      rw [if_neg (by omega)]
      rw [es]
    · refine S_if_ne (d := qX6_after_19) (kt := fun c => absurd c (by decide)) (kf := fun _ => ?_)
      refine S_iconst qX6_after_22 ?_
      refine S_iret hz qX6_after_23 ?_
      refine RZ.eq hZ ?_
      unfold nAfter
      first | (rw [if_pos (by omega)]; done) | (rw [if_neg (by omega), if_pos (by omega)]; done) | (rw [if_neg (by omega), if_neg (by omega), if_pos (by omega)]; done) | (rw [if_neg (by omega), if_neg (by omega), if_neg (by omega), if_pos (by omega)]; done)
  · refine S_if_eq (d := qX6_after_8) (kt := fun _ => ?_) (kf := fun c => absurd c (by decide))
    refine S_iconst qX6_after_22 ?_
    refine S_iret hz qX6_after_23 ?_
    refine RZ.eq hZ ?_
    unfold nAfter
    first | (rw [if_pos (by omega)]; done) | (rw [if_neg (by omega), if_pos (by omega)]; done) | (rw [if_neg (by omega), if_neg (by omega), if_pos (by omega)]; done) | (rw [if_neg (by omega), if_neg (by omega), if_neg (by omega), if_pos (by omega)]; done)

theorem c_begin {g : GC} {V : MM} {Z : ZT} {d p : Int} (hZ : CA V Z) (rd : -2147483648 ≤ d ∧ d ≤ 2147483647) (rp : -2147483648 ≤ p ∧ p ≤ 2147483647) : Ct g mX6_begin 5 [vr 0, vi d, vi p] V (RZ V (nBegin Z d p).1 (nBegin Z d p).2) := by
  refine Ct.of (ls := [some (vr 0), some (vi d), some (vi p), none]) (plainFor_of_name (by decide +kernel)) rfl (by exact Nat.le_of_ble_eq_true rfl) (fun X hz hD => ?_)
  obtain ⟨hF, es, e1, e2, hn, hb, hkv, hfo, hwa, hro, hH, hh, h0, eh, hw, hk, hwz⟩ := hZ.fl
  have ew : Z.2.1.1 = V (V 8 2).toNat 0 := by rw [eh]
  have hr := hZ.1.2.1
  refine S_al0 qX6_begin_0 ?_
  refine S_getR qX6_begin_1 fX6_17 e0_0 ?_
  refine S_il1 qX6_begin_4 ?_
  refine S_V1B hD qX6_begin_5 lX6_80 vX2_has (F_r F8) (c_has F8 (by omega) (by omega)) (kt := fun j5 => ?_) (kf := fun j5 => ?_)
  · refine S_if_ne (d := qX6_begin_8) (kt := fun _ => ?_) (kf := fun c => absurd c (by decide))
    refine S_al0 qX6_begin_13 ?_
    refine S_getR qX6_begin_14 fX6_17 e0_0 ?_
    refine S_il2 qX6_begin_17 ?_
    refine S_V1B hD qX6_begin_18 lX6_68 vX2_hasPlace (F_r F8) (c_hasPlace F8 hh (by omega) (by omega)) (kt := fun j18 => ?_) (kf := fun j18 => ?_)
    · refine S_if_ne (d := qX6_begin_21) (kt := fun _ => ?_) (kf := fun c => absurd c (by decide))
      refine S_al0 qX6_begin_27 ?_
      refine S_getR qX6_begin_28 fX6_17 e0_0 ?_
      refine S_il1 qX6_begin_31 ?_
      refine S_iconst qX6_begin_32 ?_
      refine S_V2E hD qX6_begin_33 lX6_104 vX2_wasOf (F_r F8) (c_was0 F8 (by omega) (by omega)) (K := ?_)
      refine S_is3 qX6_begin_36 (K := ?_)
      refine S_al0 qX6_begin_37 ?_
      refine S_getR qX6_begin_38 fX6_17 e0_0 ?_
      refine S_il1 qX6_begin_41 ?_
      refine S_il2 qX6_begin_42 ?_
      refine S_V2V hD qX6_begin_43 lX6_112 vX2_standAt (F_r F8) (c_standF hF (by omega) (by omega)) (kk := fun V43 h43 => ?_)
      obtain ⟨hG, hM, h2⟩ := h43
      refine S_il3 qX6_begin_46 ?_
      refine S_iret hz qX6_begin_47 ?_
      refine RZ.to (hZ.fs hG hM h2 (by show Z.1.2.1 ≤ 9999; omega) (by show Z.1.1 ≤ Z.1.1; omega)) (fun k hk => hM k (by omega)) ?_
      unfold nBegin
      rw [if_neg (by omega), if_neg (by omega)]
      rw [es]
    · refine S_if_ne (d := qX6_begin_21) (kt := fun c => absurd c (by decide)) (kf := fun _ => ?_)
      refine S_bipush (d := qX6_begin_24) (k := ?_)
      refine S_iret hz qX6_begin_26 ?_
      refine RZ.eq hZ ?_
      unfold nBegin
      first | (rw [if_pos (by omega)]; done) | (rw [if_neg (by omega), if_pos (by omega)]; done) | (rw [if_neg (by omega), if_neg (by omega), if_pos (by omega)]; done) | (rw [if_neg (by omega), if_neg (by omega), if_neg (by omega), if_pos (by omega)]; done)
  · refine S_if_ne (d := qX6_begin_8) (kt := fun c => absurd c (by decide)) (kf := fun _ => ?_)
    refine S_iconst qX6_begin_11 ?_
    refine S_iret hz qX6_begin_12 ?_
    refine RZ.eq hZ ?_
    unfold nBegin
    first | (rw [if_pos (by omega)]; done) | (rw [if_neg (by omega), if_pos (by omega)]; done) | (rw [if_neg (by omega), if_neg (by omega), if_pos (by omega)]; done) | (rw [if_neg (by omega), if_neg (by omega), if_neg (by omega), if_pos (by omega)]; done)

theorem c_row {g : GC} {V : MM} {Z : ZT} {d part n : Int} (hZ : CA V Z) (rd : -2147483648 ≤ d ∧ d ≤ 2147483647) (rpart : -2147483648 ≤ part ∧ part ≤ 2147483647) (rn : -2147483648 ≤ n ∧ n ≤ 2147483647) : Ct g mX6_row 5 [vr 0, vi d, vi part, vi n] V (RZ V (nRow Z d part n).1 (nRow Z d part n).2) := by
  refine Ct.of (ls := [some (vr 0), some (vi d), some (vi part), some (vi n), none, none]) (plainFor_of_name (by decide +kernel)) rfl (by exact Nat.le_of_ble_eq_true rfl) (fun X hz hD => ?_)
  obtain ⟨hF, es, e1, e2, hn, hb, hkv, hfo, hwa, hro, hH, hh, h0, eh, hw, hk, hwz⟩ := hZ.fl
  have ew : Z.2.1.1 = V (V 8 2).toNat 0 := by rw [eh]
  have hr := hZ.1.2.1
  have ek : Z.1.2.2.1 d = V (8 + 1) d := by rw [es]
  refine S_al0 qX6_row_0 ?_
  refine S_getR qX6_row_1 fX6_17 e0_0 ?_
  refine S_il1 qX6_row_4 ?_
  refine S_V1B hD qX6_row_5 lX6_80 vX2_has (F_r F8) (c_has F8 (by omega) (by omega)) (kt := fun j5 => ?_) (kf := fun j5 => ?_)
  · refine S_if_eq (d := qX6_row_8) (kt := fun c => absurd c (by decide)) (kf := fun _ => ?_)
    refine S_il2 qX6_row_11 ?_
    refine S_if_lt (d := qX6_row_12) (kt := fun c12 => ?_) (kf := fun c12 => ?_)
    · refine S_iconst qX6_row_20 ?_
      refine S_iret hz qX6_row_21 ?_
      refine RZ.eq hZ ?_
      unfold nRow
      first | (rw [if_pos (by omega)]; done) | (rw [if_neg (by omega), if_pos (by omega)]; done) | (rw [if_neg (by omega), if_neg (by omega), if_pos (by omega)]; done) | (rw [if_neg (by omega), if_neg (by omega), if_neg (by omega), if_pos (by omega)]; done)
    · refine S_il2 qX6_row_15 ?_
      refine S_iconst qX6_row_16 ?_
      refine S_icmp_lt (d := qX6_row_17) (kt := fun c17 => ?_) (kf := fun c17 => ?_)
      · refine S_il3 qX6_row_22 ?_
        refine S_if_lt (d := qX6_row_23) (kt := fun c23 => ?_) (kf := fun c23 => ?_)
        · refine S_bipush (d := qX6_row_32) (k := ?_)
          refine S_iret hz qX6_row_34 ?_
          refine RZ.eq hZ ?_
          unfold nRow
          first | (rw [if_pos (by omega)]; done) | (rw [if_neg (by omega), if_pos (by omega)]; done) | (rw [if_neg (by omega), if_neg (by omega), if_pos (by omega)]; done) | (rw [if_neg (by omega), if_neg (by omega), if_neg (by omega), if_pos (by omega)]; done)
        · refine S_il3 qX6_row_26 ?_
          refine S_bipush (d := qX6_row_27) (k := ?_)
          refine S_icmp_le (d := qX6_row_29) (kt := fun c29 => ?_) (kf := fun c29 => ?_)
          · refine S_al0 qX6_row_35 ?_
            refine S_getR qX6_row_36 fX6_17 e0_0 ?_
            refine S_getR qX6_row_39 fX6_83 (F_3 F8) ?_
            refine S_il1 qX6_row_42 ?_
            have hk1 := hkv d (by omega)
            refine S_iald qX6_row_43 (Fa_1 F8) (K := ?_)
            refine S_bipush (d := qX6_row_44) (k := ?_)
            refine S_icmp_eq (d := qX6_row_46) (kt := fun c46 => ?_) (kf := fun c46 => ?_)
            · refine S_il1 qX6_row_52 ?_
              refine S_iconst qX6_row_53 ?_
              refine S_imul qX6_row_54 ?_
              refine S_il2 qX6_row_55 ?_
              refine S_iadd qX6_row_56 ?_
              refine S_is4 qX6_row_57 (K := ?_)
              refine S_al0 qX6_row_59 ?_
              refine S_getR qX6_row_60 fX6_17 e0_0 ?_
              refine S_getR qX6_row_63 fX6_115 (F_7 F8) ?_
              refine S_il4 qX6_row_66 ?_
              refine S_iald qX6_row_68 (Fa_5 F8) (K := ?_)
              refine S_is5 qX6_row_69 (K := ?_)
              refine S_al0 qX6_row_71 ?_
              refine S_getR qX6_row_72 fX6_17 e0_0 ?_
              refine S_getR qX6_row_75 fX6_115 (F_7 F8) ?_
              refine S_il4 qX6_row_78 ?_
              refine S_il3 qX6_row_80 ?_
              refine S_iast qX6_row_81 (Fa_5 F8) (K := ?_)
              refine S_il5 qX6_row_82 ?_
              refine S_iret hz qX6_row_84 ?_
              have e4 : d * 4 + part = 4 * d + part := by omega
              rw [e4]
              refine RZ.to (hZ.fs (row_fl hF (by omega)) (fun k hk => upR_n _ (by omega)) (by rw [upR_n _ (by omega)]) (by show Z.1.2.1 ≤ 9999; omega) (by show Z.1.1 ≤ Z.1.1; omega)) (fun k hk => upR_n _ (by omega)) ?_
              unfold nRow
              rw [if_neg (by omega), if_neg (by omega), if_neg (by omega)]
              rw [es]
            · refine S_bipush (d := qX6_row_49) (k := ?_)
              refine S_iret hz qX6_row_51 ?_
              refine RZ.eq hZ ?_
              unfold nRow
              first | (rw [if_pos (by omega)]; done) | (rw [if_neg (by omega), if_pos (by omega)]; done) | (rw [if_neg (by omega), if_neg (by omega), if_pos (by omega)]; done) | (rw [if_neg (by omega), if_neg (by omega), if_neg (by omega), if_pos (by omega)]; done)
          · refine S_bipush (d := qX6_row_32) (k := ?_)
            refine S_iret hz qX6_row_34 ?_
            refine RZ.eq hZ ?_
            unfold nRow
            first | (rw [if_pos (by omega)]; done) | (rw [if_neg (by omega), if_pos (by omega)]; done) | (rw [if_neg (by omega), if_neg (by omega), if_pos (by omega)]; done) | (rw [if_neg (by omega), if_neg (by omega), if_neg (by omega), if_pos (by omega)]; done)
      · refine S_iconst qX6_row_20 ?_
        refine S_iret hz qX6_row_21 ?_
        refine RZ.eq hZ ?_
        unfold nRow
        first | (rw [if_pos (by omega)]; done) | (rw [if_neg (by omega), if_pos (by omega)]; done) | (rw [if_neg (by omega), if_neg (by omega), if_pos (by omega)]; done) | (rw [if_neg (by omega), if_neg (by omega), if_neg (by omega), if_pos (by omega)]; done)
  · refine S_if_eq (d := qX6_row_8) (kt := fun _ => ?_) (kf := fun c => absurd c (by decide))
    refine S_iconst qX6_row_20 ?_
    refine S_iret hz qX6_row_21 ?_
    refine RZ.eq hZ ?_
    unfold nRow
    first | (rw [if_pos (by omega)]; done) | (rw [if_neg (by omega), if_pos (by omega)]; done) | (rw [if_neg (by omega), if_neg (by omega), if_pos (by omega)]; done) | (rw [if_neg (by omega), if_neg (by omega), if_neg (by omega), if_pos (by omega)]; done)

theorem c_feed {g : GC} {V : MM} {Z : ZT} {c : Int} (hZ : CA V Z) (rc : -2147483648 ≤ c ∧ c ≤ 2147483647) : Ct g mX6_feed 5 [vr 0, vi c] V (RZ V (nFeed Z c).1 (nFeed Z c).2) := by
  refine Ct.of (ls := [some (vr 0), some (vi c)]) (plainFor_of_name (by decide +kernel)) rfl (by exact Nat.le_of_ble_eq_true rfl) (fun X hz hD => ?_)
  obtain ⟨hF, es, e1, e2, hn, hb, hkv, hfo, hwa, hro, hH, hh, h0, eh, hw, hk, hwz⟩ := hZ.fl
  have ew : Z.2.1.1 = V (V 8 2).toNat 0 := by rw [eh]
  have hr := hZ.1.2.1
  obtain ⟨t1, t2, t3, t4⟩ := hZ.2.2.1
  refine S_il1 qX6_feed_0 ?_
  refine S_if_lt (d := qX6_feed_1) (kt := fun c1 => ?_) (kf := fun c1 => ?_)
  · refine S_bipush (d := qX6_feed_10) (k := ?_)
    refine S_iret hz qX6_feed_12 ?_
    refine RZ.eq hZ ?_
    unfold nFeed
    first | (rw [if_pos (by omega)]; done) | (rw [if_neg (by omega), if_pos (by omega)]; done) | (rw [if_neg (by omega), if_neg (by omega), if_pos (by omega)]; done) | (rw [if_neg (by omega), if_neg (by omega), if_neg (by omega), if_pos (by omega)]; done)
  · refine S_il1 qX6_feed_4 ?_
    refine S_bipush (d := qX6_feed_5) (k := ?_)
    refine S_icmp_le (d := qX6_feed_7) (kt := fun c7 => ?_) (kf := fun c7 => ?_)
    · refine S_al0 qX6_feed_13 ?_
      refine S_getR qX6_feed_14 fX6_46 e0_8 ?_
      refine S_getI qX6_feed_17 fX6_118 e4_1 ?_
      refine S_bipush (d := qX6_feed_20) (k := ?_)
      refine S_icmp_lt (d := qX6_feed_22) (kt := fun c22 => ?_) (kf := fun c22 => ?_)
      · refine S_al0 qX6_feed_28 ?_
        refine S_getR qX6_feed_29 fX6_46 e0_8 ?_
        refine S_il1 qX6_feed_32 ?_
        refine S_i2c qX6_feed_33 ?_
        rw [i2c_id (by omega)]
        refine S_V1W hD qX6_feed_34 lX6_121 vX4_add r4 (c_tadd (by omega) (by omega)) (K := ?_)
        refine S_al0 qX6_feed_37 ?_
        refine S_getR qX6_feed_38 fX6_46 e0_8 ?_
        refine S_getI qX6_feed_41 fX6_118 e4_1 ?_
        refine S_iret hz qX6_feed_44 ?_
        have w4 : (upR (upR V 5 (ur (V 5) (V 4 1) c)) 4 (ur (V 4) 1 (V 4 1 + 1))) 4 = ur (V 4) 1 (V 4 1 + 1) := upR_s ..
        have w5 : (upR (upR V 5 (ur (V 5) (V 4 1) c)) 4 (ur (V 4) 1 (V 4 1 + 1))) 5 = ur (V 5) (V 4 1) c := by rw [upR_n _ (by omega), upR_s]
        have wk : ∀ k : Nat, k ≠ 4 → k ≠ 5 → (upR (upR V 5 (ur (V 5) (V 4 1) c)) 4 (ur (V 4) 1 (V 4 1 + 1))) k = V k := fun k a b => by rw [upR_n _ a, upR_n _ b]
        have e41 : (upR (upR V 5 (ur (V 5) (V 4 1) c)) 4 (ur (V 4) 1 (V 4 1 + 1))) 4 1 = Z.2.2.2.1.1 + 1 := by rw [w4, ur_s, t1]
        rw [e41]
        generalize (upR (upR V 5 (ur (V 5) (V 4 1) c)) 4 (ur (V 4) 1 (V 4 1 + 1))) = W at w4 w5 wk e41
        refine RZ.to (Z' := txZ Z (Z.2.2.2.1.1 + 1, ur Z.2.2.2.1.2 Z.2.2.2.1.1 c)) ⟨⟨hF.cong (fun k a b => wk k (by omega) (by omega)) (fun k a b => wk k (by omega) (by omega)), hZ.1.2.1, by rw [wk 8 (by omega) (by omega)]; exact hZ.1.2.2⟩, CAh_c hZ.2.1 (by rw [wk 0 (by omega) (by omega)]) (fun k a b => wk k (by omega) (by omega)) rfl, ⟨e41, by rw [w5, t2, t1]; rfl, ⟨by omega, fun i hi => ?_⟩⟩, CAn_c hZ.2.2.2.1 (fun k a b => wk k (by omega) (by omega)) (Int.le_refl _) rfl, CAi_c hZ.2.2.2.2.1 (by rw [wk 0 (by omega) (by omega)]) (fun k a => wk k (by omega) (by omega)) rfl rfl, CAr_c hZ.2.2.2.2.2.1 (by rw [wk 6 (by omega) (by omega)]) (wk 7 (by omega) (by omega)) rfl, CAg_c hZ.2.2.2.2.2.2 (fun k a b => wk k (by omega) (by omega)) rfl⟩ (fun k hk => wk k (by omega) (by omega)) ?_
        · rw [w5]
          have := t4 i hi
          unfold ur
          split <;> omega
        · unfold nFeed
          rw [if_neg (by omega), if_neg (by omega)]
      · refine S_bipush (d := qX6_feed_25) (k := ?_)
        refine S_iret hz qX6_feed_27 ?_
        refine RZ.eq hZ ?_
        unfold nFeed
        first | (rw [if_pos (by omega)]; done) | (rw [if_neg (by omega), if_pos (by omega)]; done) | (rw [if_neg (by omega), if_neg (by omega), if_pos (by omega)]; done) | (rw [if_neg (by omega), if_neg (by omega), if_neg (by omega), if_pos (by omega)]; done)
    · refine S_bipush (d := qX6_feed_10) (k := ?_)
      refine S_iret hz qX6_feed_12 ?_
      refine RZ.eq hZ ?_
      unfold nFeed
      first | (rw [if_pos (by omega)]; done) | (rw [if_neg (by omega), if_pos (by omega)]; done) | (rw [if_neg (by omega), if_neg (by omega), if_pos (by omega)]; done) | (rw [if_neg (by omega), if_neg (by omega), if_neg (by omega), if_pos (by omega)]; done)

theorem c_pass {g : GC} {V : MM} {Z : ZT} {n : Int} (hZ : CA V Z) (rn : -2147483648 ≤ n ∧ n ≤ 2147483647) : Ct g mX6_pass 8 [vr 0, vi n] V (RZ V (nPass Z n).1 (nPass Z n).2) := by
  refine Ct.of (ls := [some (vr 0), some (vi n)]) (plainFor_of_name (by decide +kernel)) rfl (by exact Nat.le_of_ble_eq_true rfl) (fun X hz hD => ?_)
  obtain ⟨hF, es, e1, e2, hn, hb, hkv, hfo, hwa, hro, hH, hh, h0, eh, hw, hk, hwz⟩ := hZ.fl
  have ew : Z.2.1.1 = V (V 8 2).toNat 0 := by rw [eh]
  have hr := hZ.1.2.1
  refine S_il1 qX6_pass_0 ?_
  refine S_if_lt (d := qX6_pass_1) (kt := fun c1 => ?_) (kf := fun c1 => ?_)
  · refine S_bipush (d := qX6_pass_10) (k := ?_)
    refine S_iret hz qX6_pass_12 ?_
    refine RZ.eq hZ ?_
    unfold nPass
    first | (rw [if_pos (by omega)]; done) | (rw [if_neg (by omega), if_pos (by omega)]; done) | (rw [if_neg (by omega), if_neg (by omega), if_pos (by omega)]; done) | (rw [if_neg (by omega), if_neg (by omega), if_neg (by omega), if_pos (by omega)]; done)
  · refine S_il1 qX6_pass_4 ?_
    refine S_bipush (d := qX6_pass_5) (k := ?_)
    refine S_icmp_le (d := qX6_pass_7) (kt := fun c7 => ?_) (kf := fun c7 => ?_)
    · refine S_al0 qX6_pass_13 ?_
      refine S_getR qX6_pass_14 fX6_17 e0_0 ?_
      refine S_getI qX6_pass_17 fX6_138 (F_1 F8) ?_
      refine S_il1 qX6_pass_20 ?_
      refine S_iadd qX6_pass_21 ?_
      refine S_sipush (d := qX6_pass_22) (k := ?_)
      refine S_icmp_le (d := qX6_pass_25) (kt := fun c25 => ?_) (kf := fun c25 => ?_)
      · refine S_al0 qX6_pass_31 ?_
        refine S_getR qX6_pass_32 fX6_17 e0_0 ?_
        refine S_il1 qX6_pass_35 ?_
        refine S_V1V hD qX6_pass_36 lX6_151 vX2_goBeats (F_r F8) (c_goBeats hF (by omega) (by omega)) (kk := fun V36 h36 => ?_)
        obtain ⟨hG, hM, h2⟩ := h36
        have hgn := goN_n Z.2.1 n.toNat Z.1
        have hg6 := hG.n6
        refine S_al0 qX6_pass_39 ?_
        refine S_getR qX6_pass_40 fX6_17 e0_0 ?_
        refine S_getI qX6_pass_43 fX6_138 (F_1 F8) ?_
        refine S_iret hz qX6_pass_46 ?_
        refine RZ.to (hZ.fs hG hM h2 (by omega) (by omega)) (fun k hk => hM k (by omega)) ?_
        unfold nPass
        rw [if_neg (by omega), if_neg (by omega)]
        rw [← hg6.2.1, hgn.2, Int.toNat_of_nonneg (by omega)]
      · refine S_bipush (d := qX6_pass_28) (k := ?_)
        refine S_iret hz qX6_pass_30 ?_
        refine RZ.eq hZ ?_
        unfold nPass
        first | (rw [if_pos (by omega)]; done) | (rw [if_neg (by omega), if_pos (by omega)]; done) | (rw [if_neg (by omega), if_neg (by omega), if_pos (by omega)]; done) | (rw [if_neg (by omega), if_neg (by omega), if_neg (by omega), if_pos (by omega)]; done)
    · refine S_bipush (d := qX6_pass_10) (k := ?_)
      refine S_iret hz qX6_pass_12 ?_
      refine RZ.eq hZ ?_
      unfold nPass
      first | (rw [if_pos (by omega)]; done) | (rw [if_neg (by omega), if_pos (by omega)]; done) | (rw [if_neg (by omega), if_neg (by omega), if_pos (by omega)]; done) | (rw [if_neg (by omega), if_neg (by omega), if_neg (by omega), if_pos (by omega)]; done)

theorem c_see {g : GC} {V : MM} {Z : ZT} {d p n : Int} (hZ : CA V Z) (rd : -2147483648 ≤ d ∧ d ≤ 2147483647) (rp : -2147483648 ≤ p ∧ p ≤ 2147483647) (rn : -2147483648 ≤ n ∧ n ≤ 2147483647) : Ct g mX6_see 5 [vr 0, vi d, vi p, vi n] V (RZ V (nSee Z d p n).1 (nSee Z d p n).2) := by
  refine Ct.of (ls := [some (vr 0), some (vi d), some (vi p), some (vi n)]) (plainFor_of_name (by decide +kernel)) rfl (by exact Nat.le_of_ble_eq_true rfl) (fun X hz hD => ?_)
  obtain ⟨hF, es, e1, e2, hn, hb, hkv, hfo, hwa, hro, hH, hh, h0, eh, hw, hk, hwz⟩ := hZ.fl
  have ew : Z.2.1.1 = V (V 8 2).toNat 0 := by rw [eh]
  have hr := hZ.1.2.1
  obtain ⟨hN, hNI⟩ := hZ.2.2.2.1
  have en1 : V 29 0 = Z.2.2.2.2.1.1 := by rw [← hN]
  have en4 : V 29 4 = Z.2.2.2.2.1.2.2.2.2.1 := by rw [← hN]
  have en6 : V 29 6 = Z.2.2.2.2.1.2.2.2.2.2.2.1 := by rw [← hN]
  obtain ⟨m1, m2, m3, m4, m5, m6⟩ := id hNI
  refine S_il1 qX6_see_0 ?_
  refine S_iconst qX6_see_1 ?_
  refine S_icmp_ne (d := qX6_see_2) (kt := fun c2 => ?_) (kf := fun c2 => ?_)
  · refine S_al0 qX6_see_15 ?_
    refine S_getR qX6_see_16 fX6_17 e0_0 ?_
    refine S_il1 qX6_see_19 ?_
    refine S_V1B hD qX6_see_20 lX6_80 vX2_has (F_r F8) (c_has F8 (by omega) (by omega)) (kt := fun j20 => ?_) (kf := fun j20 => ?_)
    · refine S_if_ne (d := qX6_see_23) (kt := fun _ => ?_) (kf := fun c => absurd c (by decide))
      refine S_il2 qX6_see_28 ?_
      refine S_if_lt (d := qX6_see_29) (kt := fun c29 => ?_) (kf := fun c29 => ?_)
      · refine S_bipush (d := qX6_see_48) (k := ?_)
        refine S_iret hz qX6_see_50 ?_
        refine RZ.eq hZ ?_
        unfold nSee
        first | (rw [if_pos (by omega)]; done) | (rw [if_neg (by omega), if_pos (by omega)]; done) | (rw [if_neg (by omega), if_neg (by omega), if_pos (by omega)]; done) | (rw [if_neg (by omega), if_neg (by omega), if_neg (by omega), if_pos (by omega)]; done)
      · refine S_il2 qX6_see_32 ?_
        refine S_bipush (d := qX6_see_33) (k := ?_)
        refine S_icmp_ge (d := qX6_see_35) (kt := fun c35 => ?_) (kf := fun c35 => ?_)
        · refine S_bipush (d := qX6_see_48) (k := ?_)
          refine S_iret hz qX6_see_50 ?_
          refine RZ.eq hZ ?_
          unfold nSee
          first | (rw [if_pos (by omega)]; done) | (rw [if_neg (by omega), if_pos (by omega)]; done) | (rw [if_neg (by omega), if_neg (by omega), if_pos (by omega)]; done) | (rw [if_neg (by omega), if_neg (by omega), if_neg (by omega), if_pos (by omega)]; done)
        · refine S_il3 qX6_see_38 ?_
          refine S_if_lt (d := qX6_see_39) (kt := fun c39 => ?_) (kf := fun c39 => ?_)
          · refine S_bipush (d := qX6_see_48) (k := ?_)
            refine S_iret hz qX6_see_50 ?_
            refine RZ.eq hZ ?_
            unfold nSee
            first | (rw [if_pos (by omega)]; done) | (rw [if_neg (by omega), if_pos (by omega)]; done) | (rw [if_neg (by omega), if_neg (by omega), if_pos (by omega)]; done) | (rw [if_neg (by omega), if_neg (by omega), if_neg (by omega), if_pos (by omega)]; done)
          · refine S_il3 qX6_see_42 ?_
            refine S_bipush (d := qX6_see_43) (k := ?_)
            refine S_icmp_le (d := qX6_see_45) (kt := fun c45 => ?_) (kf := fun c45 => ?_)
            · refine S_al0 qX6_see_51 ?_
              refine S_getR qX6_see_52 fX6_32 e0_3 ?_
              refine S_getI qX6_see_55 fX6_201 (B_0 B29) ?_
              refine S_iconst qX6_see_58 ?_
              refine S_icmp_lt (d := qX6_see_59) (kt := fun c59 => ?_) (kf := fun c59 => ?_)
              · refine S_al0 qX6_see_65 ?_
                refine S_getR qX6_see_66 fX6_32 e0_3 ?_
                refine S_il1 qX6_see_69 ?_
                refine S_il2 qX6_see_70 ?_
                refine S_il3 qX6_see_71 ?_
                refine S_V3I hD qX6_see_72 lX6_204 vX1_addSeen (B_r B29) ((c_addSeen B29 (by omega)).x) (kk := fun z72 V72 h72 => ?_)
                obtain ⟨rfl, rfl⟩ := h72
                refine S_iret hz qX6_see_75 ?_
                refine RZ.to (hZ.nn (N' := (Z.2.2.2.2.1.1 + 1, ur Z.2.2.2.2.1.2.1 Z.2.2.2.2.1.1 d, ur Z.2.2.2.2.1.2.2.1 Z.2.2.2.2.1.1 p, ur Z.2.2.2.2.1.2.2.2.1 Z.2.2.2.2.1.1 n, Z.2.2.2.2.1.2.2.2.2)) ?_ ⟨by show 0 ≤ Z.2.2.2.2.1.1 + 1 ∧ Z.2.2.2.2.1.1 + 1 ≤ 5; omega, fun i hi => ?_, m3, m4, m5, m6⟩ (fun k hk => by rw [upR_n _ (by omega), upR_n _ (by omega), upR_n _ (by omega), upR_n _ (by omega)])) (fun k hk => by rw [upR_n _ (by omega), upR_n _ (by omega), upR_n _ (by omega), upR_n _ (by omega)]) ?_
                · rw [← hN]
                  unfold snC
                  simp only [upR_n _ (show (29 : Nat) ≠ 29 + 1 by omega), upR_n _ (show (29 : Nat) ≠ 29 + 2 by omega), upR_n _ (show (29 : Nat) ≠ 29 + 3 by omega), upR_n _ (show (29 : Nat) ≠ 29 + 4 by omega), upR_n _ (show (29 : Nat) ≠ 29 + 5 by omega), upR_n _ (show (29 : Nat) ≠ 29 + 6 by omega), upR_n _ (show (29 : Nat) + 1 ≠ 29 by omega), upR_n _ (show (29 : Nat) + 1 ≠ 29 + 2 by omega), upR_n _ (show (29 : Nat) + 1 ≠ 29 + 3 by omega), upR_n _ (show (29 : Nat) + 1 ≠ 29 + 4 by omega), upR_n _ (show (29 : Nat) + 1 ≠ 29 + 5 by omega), upR_n _ (show (29 : Nat) + 1 ≠ 29 + 6 by omega), upR_n _ (show (29 : Nat) + 2 ≠ 29 by omega), upR_n _ (show (29 : Nat) + 2 ≠ 29 + 1 by omega), upR_n _ (show (29 : Nat) + 2 ≠ 29 + 3 by omega), upR_n _ (show (29 : Nat) + 2 ≠ 29 + 4 by omega), upR_n _ (show (29 : Nat) + 2 ≠ 29 + 5 by omega), upR_n _ (show (29 : Nat) + 2 ≠ 29 + 6 by omega), upR_n _ (show (29 : Nat) + 3 ≠ 29 by omega), upR_n _ (show (29 : Nat) + 3 ≠ 29 + 1 by omega), upR_n _ (show (29 : Nat) + 3 ≠ 29 + 2 by omega), upR_n _ (show (29 : Nat) + 3 ≠ 29 + 4 by omega), upR_n _ (show (29 : Nat) + 3 ≠ 29 + 5 by omega), upR_n _ (show (29 : Nat) + 3 ≠ 29 + 6 by omega), upR_n _ (show (29 : Nat) + 4 ≠ 29 by omega), upR_n _ (show (29 : Nat) + 4 ≠ 29 + 1 by omega), upR_n _ (show (29 : Nat) + 4 ≠ 29 + 2 by omega), upR_n _ (show (29 : Nat) + 4 ≠ 29 + 3 by omega), upR_n _ (show (29 : Nat) + 4 ≠ 29 + 5 by omega), upR_n _ (show (29 : Nat) + 4 ≠ 29 + 6 by omega), upR_n _ (show (29 : Nat) + 5 ≠ 29 by omega), upR_n _ (show (29 : Nat) + 5 ≠ 29 + 1 by omega), upR_n _ (show (29 : Nat) + 5 ≠ 29 + 2 by omega), upR_n _ (show (29 : Nat) + 5 ≠ 29 + 3 by omega), upR_n _ (show (29 : Nat) + 5 ≠ 29 + 4 by omega), upR_n _ (show (29 : Nat) + 5 ≠ 29 + 6 by omega), upR_n _ (show (29 : Nat) + 6 ≠ 29 by omega), upR_n _ (show (29 : Nat) + 6 ≠ 29 + 1 by omega), upR_n _ (show (29 : Nat) + 6 ≠ 29 + 2 by omega), upR_n _ (show (29 : Nat) + 6 ≠ 29 + 3 by omega), upR_n _ (show (29 : Nat) + 6 ≠ 29 + 4 by omega), upR_n _ (show (29 : Nat) + 6 ≠ 29 + 5 by omega), upR_s, ur_s, ur_n _ (show (4 : Int) ≠ 0 by omega), ur_n _ (show (6 : Int) ≠ 0 by omega)]
                · replace hi : 0 ≤ i ∧ i < Z.2.2.2.2.1.1 + 1 := hi
                  show (0 ≤ ur Z.2.2.2.2.1.2.1 Z.2.2.2.2.1.1 d i ∧ ur Z.2.2.2.2.1.2.1 Z.2.2.2.2.1.1 d i < Z.1.1) ∧ (0 ≤ ur Z.2.2.2.2.1.2.2.1 Z.2.2.2.2.1.1 p i ∧ ur Z.2.2.2.2.1.2.2.1 Z.2.2.2.2.1.1 p i ≤ 98) ∧ (0 ≤ ur Z.2.2.2.2.1.2.2.2.1 Z.2.2.2.2.1.1 n i ∧ ur Z.2.2.2.2.1.2.2.2.1 Z.2.2.2.2.1.1 n i ≤ 12)
                  by_cases e : i = Z.2.2.2.2.1.1
                  · rw [e, ur_s, ur_s, ur_s]; omega
                  · rw [ur_n _ e, ur_n _ e, ur_n _ e]
                    exact m2 i (by omega)
                · unfold nSee
                  rw [if_neg (by omega), if_neg (by omega), if_neg (by omega), if_neg (by omega), en1]
                  rfl
              · refine S_bipush (d := qX6_see_62) (k := ?_)
                refine S_iret hz qX6_see_64 ?_
                refine RZ.eq hZ ?_
                unfold nSee
                first | (rw [if_pos (by omega)]; done) | (rw [if_neg (by omega), if_pos (by omega)]; done) | (rw [if_neg (by omega), if_neg (by omega), if_pos (by omega)]; done) | (rw [if_neg (by omega), if_neg (by omega), if_neg (by omega), if_pos (by omega)]; done)
            · refine S_bipush (d := qX6_see_48) (k := ?_)
              refine S_iret hz qX6_see_50 ?_
              refine RZ.eq hZ ?_
              unfold nSee
              first | (rw [if_pos (by omega)]; done) | (rw [if_neg (by omega), if_pos (by omega)]; done) | (rw [if_neg (by omega), if_neg (by omega), if_pos (by omega)]; done) | (rw [if_neg (by omega), if_neg (by omega), if_neg (by omega), if_pos (by omega)]; done)
    · refine S_if_ne (d := qX6_see_23) (kt := fun c => absurd c (by decide)) (kf := fun _ => ?_)
      refine S_iconst qX6_see_26 ?_
      refine S_iret hz qX6_see_27 ?_
      refine RZ.eq hZ ?_
      unfold nSee
      first | (rw [if_pos (by omega)]; done) | (rw [if_neg (by omega), if_pos (by omega)]; done) | (rw [if_neg (by omega), if_neg (by omega), if_pos (by omega)]; done) | (rw [if_neg (by omega), if_neg (by omega), if_neg (by omega), if_pos (by omega)]; done)
  · refine S_al0 qX6_see_5 ?_
    refine S_getR qX6_see_6 fX6_32 e0_3 ?_
    refine S_iconst qX6_see_9 ?_
    refine S_putI qX6_see_10 fX6_201 (B_0 B29) tX1_0 ?_
    refine S_iconst qX6_see_13 ?_
    refine S_iret hz qX6_see_14 ?_
    refine RZ.to (hZ.nn (N' := (0, Z.2.2.2.2.1.2)) ?_ ⟨by show (0 : Int) ≤ 0 ∧ (0 : Int) ≤ 5; omega, fun i hi => by exfalso; replace hi : 0 ≤ i ∧ i < 0 := hi; omega, m3, m4, m5, m6⟩ (fun k hk => upR_n _ (by omega))) (fun k hk => upR_n _ (by omega)) ?_
    · rw [← hN]
      unfold snC
      simp only [upR_n _ (show (29 : Nat) + 1 ≠ 29 by omega), upR_n _ (show (29 : Nat) + 2 ≠ 29 by omega), upR_n _ (show (29 : Nat) + 3 ≠ 29 by omega), upR_n _ (show (29 : Nat) + 4 ≠ 29 by omega), upR_n _ (show (29 : Nat) + 5 ≠ 29 by omega), upR_n _ (show (29 : Nat) + 6 ≠ 29 by omega), upR_s, ur_s, ur_n _ (show (4 : Int) ≠ 0 by omega), ur_n _ (show (6 : Int) ≠ 0 by omega)]
    · unfold nSee
      rw [if_pos (by omega)]
      rfl

theorem c_dance {g : GC} {V : MM} {Z : ZT} {w : Int} (hZ : CA V Z) (rw : -2147483648 ≤ w ∧ w ≤ 2147483647) : Ct g mX6_dance 5 [vr 0, vi w] V (RZ V (nDance Z w).1 (nDance Z w).2) := by
  refine Ct.of (ls := [some (vr 0), some (vi w)]) (plainFor_of_name (by decide +kernel)) rfl (by exact Nat.le_of_ble_eq_true rfl) (fun X hz hD => ?_)
  obtain ⟨hF, es, e1, e2, hn, hb, hkv, hfo, hwa, hro, hH, hh, h0, eh, hw, hk, hwz⟩ := hZ.fl
  have ew : Z.2.1.1 = V (V 8 2).toNat 0 := by rw [eh]
  have hr := hZ.1.2.1
  obtain ⟨hN, hNI⟩ := hZ.2.2.2.1
  have en1 : V 29 0 = Z.2.2.2.2.1.1 := by rw [← hN]
  have en4 : V 29 4 = Z.2.2.2.2.1.2.2.2.2.1 := by rw [← hN]
  have en6 : V 29 6 = Z.2.2.2.2.1.2.2.2.2.2.2.1 := by rw [← hN]
  obtain ⟨m1, m2, m3, m4, m5, m6⟩ := id hNI
  refine S_il1 qX6_dance_0 ?_
  refine S_iconst qX6_dance_1 ?_
  refine S_icmp_ne (d := qX6_dance_2) (kt := fun c2 => ?_) (kf := fun c2 => ?_)
  · refine S_il1 qX6_dance_15 ?_
    refine S_if_lt (d := qX6_dance_16) (kt := fun c16 => ?_) (kf := fun c16 => ?_)
    · refine S_iconst qX6_dance_24 ?_
      refine S_iret hz qX6_dance_25 ?_
      refine RZ.eq hZ ?_
      unfold nDance
      first | (rw [if_pos (by omega)]; done) | (rw [if_neg (by omega), if_pos (by omega)]; done) | (rw [if_neg (by omega), if_neg (by omega), if_pos (by omega)]; done) | (rw [if_neg (by omega), if_neg (by omega), if_neg (by omega), if_pos (by omega)]; done)
    · refine S_il1 qX6_dance_19 ?_
      refine S_iconst qX6_dance_20 ?_
      refine S_icmp_le (d := qX6_dance_21) (kt := fun c21 => ?_) (kf := fun c21 => ?_)
      · refine S_al0 qX6_dance_26 ?_
        refine S_getR qX6_dance_27 fX6_32 e0_3 ?_
        refine S_getI qX6_dance_30 fX6_216 (B_4 B29) ?_
        refine S_bipush (d := qX6_dance_33) (k := ?_)
        refine S_icmp_lt (d := qX6_dance_35) (kt := fun c35 => ?_) (kf := fun c35 => ?_)
        · refine S_al0 qX6_dance_41 ?_
          refine S_getR qX6_dance_42 fX6_32 e0_3 ?_
          refine S_il1 qX6_dance_45 ?_
          refine S_V1I hD qX6_dance_46 lX6_219 vX1_addStep (B_r B29) ((c_addStep B29 (by omega)).x) (kk := fun z46 V46 h46 => ?_)
          obtain ⟨rfl, rfl⟩ := h46
          refine S_iret hz qX6_dance_49 ?_
          refine RZ.to (hZ.nn (N' := (Z.2.2.2.2.1.1, Z.2.2.2.2.1.2.1, Z.2.2.2.2.1.2.2.1, Z.2.2.2.2.1.2.2.2.1, Z.2.2.2.2.1.2.2.2.2.1 + 1, ur Z.2.2.2.2.1.2.2.2.2.2.1 Z.2.2.2.2.1.2.2.2.2.1 w, Z.2.2.2.2.1.2.2.2.2.2.2)) ?_ ⟨m1, m2, by show 0 ≤ Z.2.2.2.2.1.2.2.2.2.1 + 1 ∧ Z.2.2.2.2.1.2.2.2.2.1 + 1 ≤ 10; omega, fun i hi => ?_, m5, m6⟩ (fun k hk => by rw [upR_n _ (by omega), upR_n _ (by omega)])) (fun k hk => by rw [upR_n _ (by omega), upR_n _ (by omega)]) ?_
          · rw [← hN]
            unfold snC
            simp only [upR_n _ (show (29 : Nat) ≠ 29 + 1 by omega), upR_n _ (show (29 : Nat) ≠ 29 + 2 by omega), upR_n _ (show (29 : Nat) ≠ 29 + 3 by omega), upR_n _ (show (29 : Nat) ≠ 29 + 4 by omega), upR_n _ (show (29 : Nat) ≠ 29 + 5 by omega), upR_n _ (show (29 : Nat) ≠ 29 + 6 by omega), upR_n _ (show (29 : Nat) + 1 ≠ 29 by omega), upR_n _ (show (29 : Nat) + 1 ≠ 29 + 2 by omega), upR_n _ (show (29 : Nat) + 1 ≠ 29 + 3 by omega), upR_n _ (show (29 : Nat) + 1 ≠ 29 + 4 by omega), upR_n _ (show (29 : Nat) + 1 ≠ 29 + 5 by omega), upR_n _ (show (29 : Nat) + 1 ≠ 29 + 6 by omega), upR_n _ (show (29 : Nat) + 2 ≠ 29 by omega), upR_n _ (show (29 : Nat) + 2 ≠ 29 + 1 by omega), upR_n _ (show (29 : Nat) + 2 ≠ 29 + 3 by omega), upR_n _ (show (29 : Nat) + 2 ≠ 29 + 4 by omega), upR_n _ (show (29 : Nat) + 2 ≠ 29 + 5 by omega), upR_n _ (show (29 : Nat) + 2 ≠ 29 + 6 by omega), upR_n _ (show (29 : Nat) + 3 ≠ 29 by omega), upR_n _ (show (29 : Nat) + 3 ≠ 29 + 1 by omega), upR_n _ (show (29 : Nat) + 3 ≠ 29 + 2 by omega), upR_n _ (show (29 : Nat) + 3 ≠ 29 + 4 by omega), upR_n _ (show (29 : Nat) + 3 ≠ 29 + 5 by omega), upR_n _ (show (29 : Nat) + 3 ≠ 29 + 6 by omega), upR_n _ (show (29 : Nat) + 4 ≠ 29 by omega), upR_n _ (show (29 : Nat) + 4 ≠ 29 + 1 by omega), upR_n _ (show (29 : Nat) + 4 ≠ 29 + 2 by omega), upR_n _ (show (29 : Nat) + 4 ≠ 29 + 3 by omega), upR_n _ (show (29 : Nat) + 4 ≠ 29 + 5 by omega), upR_n _ (show (29 : Nat) + 4 ≠ 29 + 6 by omega), upR_n _ (show (29 : Nat) + 5 ≠ 29 by omega), upR_n _ (show (29 : Nat) + 5 ≠ 29 + 1 by omega), upR_n _ (show (29 : Nat) + 5 ≠ 29 + 2 by omega), upR_n _ (show (29 : Nat) + 5 ≠ 29 + 3 by omega), upR_n _ (show (29 : Nat) + 5 ≠ 29 + 4 by omega), upR_n _ (show (29 : Nat) + 5 ≠ 29 + 6 by omega), upR_n _ (show (29 : Nat) + 6 ≠ 29 by omega), upR_n _ (show (29 : Nat) + 6 ≠ 29 + 1 by omega), upR_n _ (show (29 : Nat) + 6 ≠ 29 + 2 by omega), upR_n _ (show (29 : Nat) + 6 ≠ 29 + 3 by omega), upR_n _ (show (29 : Nat) + 6 ≠ 29 + 4 by omega), upR_n _ (show (29 : Nat) + 6 ≠ 29 + 5 by omega), upR_s, ur_s, ur_n _ (show (0 : Int) ≠ 4 by omega), ur_n _ (show (6 : Int) ≠ 4 by omega)]
          · replace hi : 0 ≤ i ∧ i < Z.2.2.2.2.1.2.2.2.2.1 + 1 := hi
            show 0 ≤ ur Z.2.2.2.2.1.2.2.2.2.2.1 Z.2.2.2.2.1.2.2.2.2.1 w i ∧ ur Z.2.2.2.2.1.2.2.2.2.2.1 Z.2.2.2.2.1.2.2.2.2.1 w i ≤ 2
            by_cases e : i = Z.2.2.2.2.1.2.2.2.2.1
            · rw [e, ur_s]; omega
            · rw [ur_n _ e]
              exact m4 i (by omega)
          · unfold nDance
            rw [if_neg (by omega), if_neg (by omega), if_neg (by omega), en4]
            rfl
        · refine S_bipush (d := qX6_dance_38) (k := ?_)
          refine S_iret hz qX6_dance_40 ?_
          refine RZ.eq hZ ?_
          unfold nDance
          first | (rw [if_pos (by omega)]; done) | (rw [if_neg (by omega), if_pos (by omega)]; done) | (rw [if_neg (by omega), if_neg (by omega), if_pos (by omega)]; done) | (rw [if_neg (by omega), if_neg (by omega), if_neg (by omega), if_pos (by omega)]; done)
      · refine S_iconst qX6_dance_24 ?_
        refine S_iret hz qX6_dance_25 ?_
        refine RZ.eq hZ ?_
        unfold nDance
        first | (rw [if_pos (by omega)]; done) | (rw [if_neg (by omega), if_pos (by omega)]; done) | (rw [if_neg (by omega), if_neg (by omega), if_pos (by omega)]; done) | (rw [if_neg (by omega), if_neg (by omega), if_neg (by omega), if_pos (by omega)]; done)
  · refine S_al0 qX6_dance_5 ?_
    refine S_getR qX6_dance_6 fX6_32 e0_3 ?_
    refine S_iconst qX6_dance_9 ?_
    refine S_putI qX6_dance_10 fX6_216 (B_4 B29) tX1_4 ?_
    refine S_iconst qX6_dance_13 ?_
    refine S_iret hz qX6_dance_14 ?_
    refine RZ.to (hZ.nn (N' := (Z.2.2.2.2.1.1, Z.2.2.2.2.1.2.1, Z.2.2.2.2.1.2.2.1, Z.2.2.2.2.1.2.2.2.1, 0, Z.2.2.2.2.1.2.2.2.2.2)) ?_ ⟨m1, m2, by show (0 : Int) ≤ 0 ∧ (0 : Int) ≤ 10; omega, fun i hi => by exfalso; replace hi : 0 ≤ i ∧ i < 0 := hi; omega, m5, m6⟩ (fun k hk => upR_n _ (by omega))) (fun k hk => upR_n _ (by omega)) ?_
    · rw [← hN]
      unfold snC
      simp only [upR_n _ (show (29 : Nat) ≠ 29 + 1 by omega), upR_n _ (show (29 : Nat) ≠ 29 + 2 by omega), upR_n _ (show (29 : Nat) ≠ 29 + 3 by omega), upR_n _ (show (29 : Nat) ≠ 29 + 4 by omega), upR_n _ (show (29 : Nat) ≠ 29 + 5 by omega), upR_n _ (show (29 : Nat) ≠ 29 + 6 by omega), upR_n _ (show (29 : Nat) + 1 ≠ 29 by omega), upR_n _ (show (29 : Nat) + 1 ≠ 29 + 2 by omega), upR_n _ (show (29 : Nat) + 1 ≠ 29 + 3 by omega), upR_n _ (show (29 : Nat) + 1 ≠ 29 + 4 by omega), upR_n _ (show (29 : Nat) + 1 ≠ 29 + 5 by omega), upR_n _ (show (29 : Nat) + 1 ≠ 29 + 6 by omega), upR_n _ (show (29 : Nat) + 2 ≠ 29 by omega), upR_n _ (show (29 : Nat) + 2 ≠ 29 + 1 by omega), upR_n _ (show (29 : Nat) + 2 ≠ 29 + 3 by omega), upR_n _ (show (29 : Nat) + 2 ≠ 29 + 4 by omega), upR_n _ (show (29 : Nat) + 2 ≠ 29 + 5 by omega), upR_n _ (show (29 : Nat) + 2 ≠ 29 + 6 by omega), upR_n _ (show (29 : Nat) + 3 ≠ 29 by omega), upR_n _ (show (29 : Nat) + 3 ≠ 29 + 1 by omega), upR_n _ (show (29 : Nat) + 3 ≠ 29 + 2 by omega), upR_n _ (show (29 : Nat) + 3 ≠ 29 + 4 by omega), upR_n _ (show (29 : Nat) + 3 ≠ 29 + 5 by omega), upR_n _ (show (29 : Nat) + 3 ≠ 29 + 6 by omega), upR_n _ (show (29 : Nat) + 4 ≠ 29 by omega), upR_n _ (show (29 : Nat) + 4 ≠ 29 + 1 by omega), upR_n _ (show (29 : Nat) + 4 ≠ 29 + 2 by omega), upR_n _ (show (29 : Nat) + 4 ≠ 29 + 3 by omega), upR_n _ (show (29 : Nat) + 4 ≠ 29 + 5 by omega), upR_n _ (show (29 : Nat) + 4 ≠ 29 + 6 by omega), upR_n _ (show (29 : Nat) + 5 ≠ 29 by omega), upR_n _ (show (29 : Nat) + 5 ≠ 29 + 1 by omega), upR_n _ (show (29 : Nat) + 5 ≠ 29 + 2 by omega), upR_n _ (show (29 : Nat) + 5 ≠ 29 + 3 by omega), upR_n _ (show (29 : Nat) + 5 ≠ 29 + 4 by omega), upR_n _ (show (29 : Nat) + 5 ≠ 29 + 6 by omega), upR_n _ (show (29 : Nat) + 6 ≠ 29 by omega), upR_n _ (show (29 : Nat) + 6 ≠ 29 + 1 by omega), upR_n _ (show (29 : Nat) + 6 ≠ 29 + 2 by omega), upR_n _ (show (29 : Nat) + 6 ≠ 29 + 3 by omega), upR_n _ (show (29 : Nat) + 6 ≠ 29 + 4 by omega), upR_n _ (show (29 : Nat) + 6 ≠ 29 + 5 by omega), upR_s, ur_s, ur_n _ (show (0 : Int) ≠ 4 by omega), ur_n _ (show (6 : Int) ≠ 4 by omega)]
    · unfold nDance
      rw [if_pos (by omega)]
      rfl

theorem c_book {g : GC} {V : MM} {Z : ZT} {d p : Int} (hZ : CA V Z) (rd : -2147483648 ≤ d ∧ d ≤ 2147483647) (rp : -2147483648 ≤ p ∧ p ≤ 2147483647) : Ct g mX6_book 5 [vr 0, vi d, vi p] V (RZ V (nBook Z d p).1 (nBook Z d p).2) := by
  refine Ct.of (ls := [some (vr 0), some (vi d), some (vi p)]) (plainFor_of_name (by decide +kernel)) rfl (by exact Nat.le_of_ble_eq_true rfl) (fun X hz hD => ?_)
  obtain ⟨hF, es, e1, e2, hn, hb, hkv, hfo, hwa, hro, hH, hh, h0, eh, hw, hk, hwz⟩ := hZ.fl
  have ew : Z.2.1.1 = V (V 8 2).toNat 0 := by rw [eh]
  have hr := hZ.1.2.1
  obtain ⟨hN, hNI⟩ := hZ.2.2.2.1
  have en1 : V 29 0 = Z.2.2.2.2.1.1 := by rw [← hN]
  have en4 : V 29 4 = Z.2.2.2.2.1.2.2.2.2.1 := by rw [← hN]
  have en6 : V 29 6 = Z.2.2.2.2.1.2.2.2.2.2.2.1 := by rw [← hN]
  obtain ⟨m1, m2, m3, m4, m5, m6⟩ := id hNI
  refine S_il1 qX6_book_0 ?_
  refine S_iconst qX6_book_1 ?_
  refine S_icmp_ne (d := qX6_book_2) (kt := fun c2 => ?_) (kf := fun c2 => ?_)
  · refine S_al0 qX6_book_15 ?_
    refine S_getR qX6_book_16 fX6_17 e0_0 ?_
    refine S_il1 qX6_book_19 ?_
    refine S_V1B hD qX6_book_20 lX6_80 vX2_has (F_r F8) (c_has F8 (by omega) (by omega)) (kt := fun j20 => ?_) (kf := fun j20 => ?_)
    · refine S_if_ne (d := qX6_book_23) (kt := fun _ => ?_) (kf := fun c => absurd c (by decide))
      refine S_il2 qX6_book_28 ?_
      refine S_if_lt (d := qX6_book_29) (kt := fun c29 => ?_) (kf := fun c29 => ?_)
      · refine S_bipush (d := qX6_book_38) (k := ?_)
        refine S_iret hz qX6_book_40 ?_
        refine RZ.eq hZ ?_
        unfold nBook
        first | (rw [if_pos (by omega)]; done) | (rw [if_neg (by omega), if_pos (by omega)]; done) | (rw [if_neg (by omega), if_neg (by omega), if_pos (by omega)]; done) | (rw [if_neg (by omega), if_neg (by omega), if_neg (by omega), if_pos (by omega)]; done)
      · refine S_il2 qX6_book_32 ?_
        refine S_bipush (d := qX6_book_33) (k := ?_)
        refine S_icmp_lt (d := qX6_book_35) (kt := fun c35 => ?_) (kf := fun c35 => ?_)
        · refine S_al0 qX6_book_41 ?_
          refine S_getR qX6_book_42 fX6_32 e0_3 ?_
          refine S_getI qX6_book_45 fX6_225 (B_6 B29) ?_
          refine S_bipush (d := qX6_book_48) (k := ?_)
          refine S_icmp_lt (d := qX6_book_50) (kt := fun c50 => ?_) (kf := fun c50 => ?_)
          · refine S_al0 qX6_book_56 ?_
            refine S_getR qX6_book_57 fX6_32 e0_3 ?_
            refine S_il1 qX6_book_60 ?_
            refine S_il2 qX6_book_61 ?_
            refine S_V2I hD qX6_book_62 lX6_227 vX1_addRow (B_r B29) ((c_addRow B29 (by omega)).x) (kk := fun z62 V62 h62 => ?_)
            obtain ⟨rfl, rfl⟩ := h62
            refine S_iret hz qX6_book_65 ?_
            refine RZ.to (hZ.nn (N' := (Z.2.2.2.2.1.1, Z.2.2.2.2.1.2.1, Z.2.2.2.2.1.2.2.1, Z.2.2.2.2.1.2.2.2.1, Z.2.2.2.2.1.2.2.2.2.1, Z.2.2.2.2.1.2.2.2.2.2.1, Z.2.2.2.2.1.2.2.2.2.2.2.1 + 1, ur Z.2.2.2.2.1.2.2.2.2.2.2.2.1 Z.2.2.2.2.1.2.2.2.2.2.2.1 d, ur Z.2.2.2.2.1.2.2.2.2.2.2.2.2 Z.2.2.2.2.1.2.2.2.2.2.2.1 p)) ?_ ⟨m1, m2, m3, m4, by show 0 ≤ Z.2.2.2.2.1.2.2.2.2.2.2.1 + 1 ∧ Z.2.2.2.2.1.2.2.2.2.2.2.1 + 1 ≤ 8; omega, fun i hi => ?_⟩ (fun k hk => by rw [upR_n _ (by omega), upR_n _ (by omega), upR_n _ (by omega)])) (fun k hk => by rw [upR_n _ (by omega), upR_n _ (by omega), upR_n _ (by omega)]) ?_
            · rw [← hN]
              unfold snC
              simp only [upR_n _ (show (29 : Nat) ≠ 29 + 1 by omega), upR_n _ (show (29 : Nat) ≠ 29 + 2 by omega), upR_n _ (show (29 : Nat) ≠ 29 + 3 by omega), upR_n _ (show (29 : Nat) ≠ 29 + 4 by omega), upR_n _ (show (29 : Nat) ≠ 29 + 5 by omega), upR_n _ (show (29 : Nat) ≠ 29 + 6 by omega), upR_n _ (show (29 : Nat) + 1 ≠ 29 by omega), upR_n _ (show (29 : Nat) + 1 ≠ 29 + 2 by omega), upR_n _ (show (29 : Nat) + 1 ≠ 29 + 3 by omega), upR_n _ (show (29 : Nat) + 1 ≠ 29 + 4 by omega), upR_n _ (show (29 : Nat) + 1 ≠ 29 + 5 by omega), upR_n _ (show (29 : Nat) + 1 ≠ 29 + 6 by omega), upR_n _ (show (29 : Nat) + 2 ≠ 29 by omega), upR_n _ (show (29 : Nat) + 2 ≠ 29 + 1 by omega), upR_n _ (show (29 : Nat) + 2 ≠ 29 + 3 by omega), upR_n _ (show (29 : Nat) + 2 ≠ 29 + 4 by omega), upR_n _ (show (29 : Nat) + 2 ≠ 29 + 5 by omega), upR_n _ (show (29 : Nat) + 2 ≠ 29 + 6 by omega), upR_n _ (show (29 : Nat) + 3 ≠ 29 by omega), upR_n _ (show (29 : Nat) + 3 ≠ 29 + 1 by omega), upR_n _ (show (29 : Nat) + 3 ≠ 29 + 2 by omega), upR_n _ (show (29 : Nat) + 3 ≠ 29 + 4 by omega), upR_n _ (show (29 : Nat) + 3 ≠ 29 + 5 by omega), upR_n _ (show (29 : Nat) + 3 ≠ 29 + 6 by omega), upR_n _ (show (29 : Nat) + 4 ≠ 29 by omega), upR_n _ (show (29 : Nat) + 4 ≠ 29 + 1 by omega), upR_n _ (show (29 : Nat) + 4 ≠ 29 + 2 by omega), upR_n _ (show (29 : Nat) + 4 ≠ 29 + 3 by omega), upR_n _ (show (29 : Nat) + 4 ≠ 29 + 5 by omega), upR_n _ (show (29 : Nat) + 4 ≠ 29 + 6 by omega), upR_n _ (show (29 : Nat) + 5 ≠ 29 by omega), upR_n _ (show (29 : Nat) + 5 ≠ 29 + 1 by omega), upR_n _ (show (29 : Nat) + 5 ≠ 29 + 2 by omega), upR_n _ (show (29 : Nat) + 5 ≠ 29 + 3 by omega), upR_n _ (show (29 : Nat) + 5 ≠ 29 + 4 by omega), upR_n _ (show (29 : Nat) + 5 ≠ 29 + 6 by omega), upR_n _ (show (29 : Nat) + 6 ≠ 29 by omega), upR_n _ (show (29 : Nat) + 6 ≠ 29 + 1 by omega), upR_n _ (show (29 : Nat) + 6 ≠ 29 + 2 by omega), upR_n _ (show (29 : Nat) + 6 ≠ 29 + 3 by omega), upR_n _ (show (29 : Nat) + 6 ≠ 29 + 4 by omega), upR_n _ (show (29 : Nat) + 6 ≠ 29 + 5 by omega), upR_s, ur_s, ur_n _ (show (0 : Int) ≠ 6 by omega), ur_n _ (show (4 : Int) ≠ 6 by omega)]
            · replace hi : 0 ≤ i ∧ i < Z.2.2.2.2.1.2.2.2.2.2.2.1 + 1 := hi
              show (0 ≤ ur Z.2.2.2.2.1.2.2.2.2.2.2.2.1 Z.2.2.2.2.1.2.2.2.2.2.2.1 d i ∧ ur Z.2.2.2.2.1.2.2.2.2.2.2.2.1 Z.2.2.2.2.1.2.2.2.2.2.2.1 d i < Z.1.1) ∧ (0 ≤ ur Z.2.2.2.2.1.2.2.2.2.2.2.2.2 Z.2.2.2.2.1.2.2.2.2.2.2.1 p i ∧ ur Z.2.2.2.2.1.2.2.2.2.2.2.2.2 Z.2.2.2.2.1.2.2.2.2.2.2.1 p i ≤ 98)
              by_cases e : i = Z.2.2.2.2.1.2.2.2.2.2.2.1
              · rw [e, ur_s, ur_s]; omega
              · rw [ur_n _ e, ur_n _ e]
                exact m6 i (by omega)
            · unfold nBook
              rw [if_neg (by omega), if_neg (by omega), if_neg (by omega), if_neg (by omega), en6]
              rfl
          · refine S_bipush (d := qX6_book_53) (k := ?_)
            refine S_iret hz qX6_book_55 ?_
            refine RZ.eq hZ ?_
            unfold nBook
            first | (rw [if_pos (by omega)]; done) | (rw [if_neg (by omega), if_pos (by omega)]; done) | (rw [if_neg (by omega), if_neg (by omega), if_pos (by omega)]; done) | (rw [if_neg (by omega), if_neg (by omega), if_neg (by omega), if_pos (by omega)]; done)
        · refine S_bipush (d := qX6_book_38) (k := ?_)
          refine S_iret hz qX6_book_40 ?_
          refine RZ.eq hZ ?_
          unfold nBook
          first | (rw [if_pos (by omega)]; done) | (rw [if_neg (by omega), if_pos (by omega)]; done) | (rw [if_neg (by omega), if_neg (by omega), if_pos (by omega)]; done) | (rw [if_neg (by omega), if_neg (by omega), if_neg (by omega), if_pos (by omega)]; done)
    · refine S_if_ne (d := qX6_book_23) (kt := fun c => absurd c (by decide)) (kf := fun _ => ?_)
      refine S_iconst qX6_book_26 ?_
      refine S_iret hz qX6_book_27 ?_
      refine RZ.eq hZ ?_
      unfold nBook
      first | (rw [if_pos (by omega)]; done) | (rw [if_neg (by omega), if_pos (by omega)]; done) | (rw [if_neg (by omega), if_neg (by omega), if_pos (by omega)]; done) | (rw [if_neg (by omega), if_neg (by omega), if_neg (by omega), if_pos (by omega)]; done)
  · refine S_al0 qX6_book_5 ?_
    refine S_getR qX6_book_6 fX6_32 e0_3 ?_
    refine S_iconst qX6_book_9 ?_
    refine S_putI qX6_book_10 fX6_225 (B_6 B29) tX1_6 ?_
    refine S_iconst qX6_book_13 ?_
    refine S_iret hz qX6_book_14 ?_
    refine RZ.to (hZ.nn (N' := (Z.2.2.2.2.1.1, Z.2.2.2.2.1.2.1, Z.2.2.2.2.1.2.2.1, Z.2.2.2.2.1.2.2.2.1, Z.2.2.2.2.1.2.2.2.2.1, Z.2.2.2.2.1.2.2.2.2.2.1, 0, Z.2.2.2.2.1.2.2.2.2.2.2.2)) ?_ ⟨m1, m2, m3, m4, by show (0 : Int) ≤ 0 ∧ (0 : Int) ≤ 8; omega, fun i hi => by exfalso; replace hi : 0 ≤ i ∧ i < 0 := hi; omega⟩ (fun k hk => upR_n _ (by omega))) (fun k hk => upR_n _ (by omega)) ?_
    · rw [← hN]
      unfold snC
      simp only [upR_n _ (show (29 : Nat) ≠ 29 + 1 by omega), upR_n _ (show (29 : Nat) ≠ 29 + 2 by omega), upR_n _ (show (29 : Nat) ≠ 29 + 3 by omega), upR_n _ (show (29 : Nat) ≠ 29 + 4 by omega), upR_n _ (show (29 : Nat) ≠ 29 + 5 by omega), upR_n _ (show (29 : Nat) ≠ 29 + 6 by omega), upR_n _ (show (29 : Nat) + 1 ≠ 29 by omega), upR_n _ (show (29 : Nat) + 1 ≠ 29 + 2 by omega), upR_n _ (show (29 : Nat) + 1 ≠ 29 + 3 by omega), upR_n _ (show (29 : Nat) + 1 ≠ 29 + 4 by omega), upR_n _ (show (29 : Nat) + 1 ≠ 29 + 5 by omega), upR_n _ (show (29 : Nat) + 1 ≠ 29 + 6 by omega), upR_n _ (show (29 : Nat) + 2 ≠ 29 by omega), upR_n _ (show (29 : Nat) + 2 ≠ 29 + 1 by omega), upR_n _ (show (29 : Nat) + 2 ≠ 29 + 3 by omega), upR_n _ (show (29 : Nat) + 2 ≠ 29 + 4 by omega), upR_n _ (show (29 : Nat) + 2 ≠ 29 + 5 by omega), upR_n _ (show (29 : Nat) + 2 ≠ 29 + 6 by omega), upR_n _ (show (29 : Nat) + 3 ≠ 29 by omega), upR_n _ (show (29 : Nat) + 3 ≠ 29 + 1 by omega), upR_n _ (show (29 : Nat) + 3 ≠ 29 + 2 by omega), upR_n _ (show (29 : Nat) + 3 ≠ 29 + 4 by omega), upR_n _ (show (29 : Nat) + 3 ≠ 29 + 5 by omega), upR_n _ (show (29 : Nat) + 3 ≠ 29 + 6 by omega), upR_n _ (show (29 : Nat) + 4 ≠ 29 by omega), upR_n _ (show (29 : Nat) + 4 ≠ 29 + 1 by omega), upR_n _ (show (29 : Nat) + 4 ≠ 29 + 2 by omega), upR_n _ (show (29 : Nat) + 4 ≠ 29 + 3 by omega), upR_n _ (show (29 : Nat) + 4 ≠ 29 + 5 by omega), upR_n _ (show (29 : Nat) + 4 ≠ 29 + 6 by omega), upR_n _ (show (29 : Nat) + 5 ≠ 29 by omega), upR_n _ (show (29 : Nat) + 5 ≠ 29 + 1 by omega), upR_n _ (show (29 : Nat) + 5 ≠ 29 + 2 by omega), upR_n _ (show (29 : Nat) + 5 ≠ 29 + 3 by omega), upR_n _ (show (29 : Nat) + 5 ≠ 29 + 4 by omega), upR_n _ (show (29 : Nat) + 5 ≠ 29 + 6 by omega), upR_n _ (show (29 : Nat) + 6 ≠ 29 by omega), upR_n _ (show (29 : Nat) + 6 ≠ 29 + 1 by omega), upR_n _ (show (29 : Nat) + 6 ≠ 29 + 2 by omega), upR_n _ (show (29 : Nat) + 6 ≠ 29 + 3 by omega), upR_n _ (show (29 : Nat) + 6 ≠ 29 + 4 by omega), upR_n _ (show (29 : Nat) + 6 ≠ 29 + 5 by omega), upR_s, ur_s, ur_n _ (show (0 : Int) ≠ 6 by omega), ur_n _ (show (4 : Int) ≠ 6 by omega)]
    · unfold nBook
      rw [if_pos (by omega)]
      rfl
