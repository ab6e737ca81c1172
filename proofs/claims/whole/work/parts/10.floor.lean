theorem xo_sgn {x y : Int} (hx : -2147483648 ≤ x ∧ x ≤ 2147483647) (hy : 0 < y ∧ y ≤ 2147483647) : 0 ≤ (Int32.ofInt x ^^^ Int32.ofInt y).toInt ↔ 0 ≤ x := by
  have e : ∀ z : Int32, 0 ≤ z.toInt ↔ z.toBitVec.msb = false := fun z => by
    rw [BitVec.msb_eq_toInt]
    show 0 ≤ z.toBitVec.toInt ↔ _
    rw [decide_eq_false_iff_not]
    omega
  have h1 := e (Int32.ofInt x)
  have h2 := e (Int32.ofInt y)
  rw [io_toInt hx] at h1
  rw [io_toInt (by omega)] at h2
  rw [e, Int32.toBitVec_xor, BitVec.msb_xor, h2.mp (by omega), Bool.xor_false, h1]
theorem tm_pos {x y : Int} (h : 0 ≤ x) : x.tmod y = x % y := Int.tmod_eq_emod_of_nonneg h
theorem tm_neg {x y : Int} (h : x < 0) (hy : 0 < y) : (x.tmod y = 0 ∧ x % y = 0) ∨ (x.tmod y < 0 ∧ x.tmod y + y = x % y) := by
  have h0 := Int.tmod_nonneg (a := -x) y (by omega)
  have h00 := Int.tmod_lt_of_pos (-x) hy
  rw [Int.neg_tmod] at h0 h00
  have h3 : x % y = (x.tmod y) % y := by
    have e := Int.mul_tdiv_add_tmod x y
    have e2 : x = x.tmod y + y * (x.tdiv y) := by omega
    conv => lhs; rw [e2]
    rw [Int.add_mul_emod_self_left]
  have h1 : x.tmod y ≤ 0 := by omega
  have h2 : -y < x.tmod y := by omega
  have h4 : 0 ≤ x % y := Int.emod_nonneg _ (by omega)
  have h5 : x % y < y := Int.emod_lt_of_pos _ hy
  by_cases h6 : x.tmod y = 0
  · rw [h6] at h3
    exact Or.inl ⟨h6, by simpa using h3⟩
  · refine Or.inr ⟨by omega, ?_⟩
    rw [h3, ← Int.add_emod_right, Int.emod_eq_of_lt (by omega) (by omega)]

theorem tm_bounds {x y : Int} (hx : -2147483648 ≤ x ∧ x ≤ 2147483647) (hy : 0 < y ∧ y ≤ 2147483647) : -2147483648 ≤ x.tmod y ∧ x.tmod y ≤ 2147483647 := by
  have h2 := Int.tmod_lt_of_pos x hy.1
  have h00 := Int.tmod_lt_of_pos (-x) hy.1
  rw [Int.neg_tmod] at h00
  omega

theorem c_floorMod {g : GC} {V : MM} {x y : Int} (rx : -2147483648 ≤ x ∧ x ≤ 2147483647) (hy : 0 < y ∧ y ≤ 2147483647) : Ct g mJ9_floorMod_7cf53 1 [vi x, vi y] V (RE V (x % y)) := by
  refine Ct.of (ls := [some (vi x), some (vi y), none]) (by decide +kernel) rfl (by exact Nat.le_of_ble_eq_true rfl) (fun X hz hD => ?_)
  have hs := xo_sgn rx hy
  refine S_il0 qJ9_floorMod_7cf53_0 ?_
  refine S_il1 qJ9_floorMod_7cf53_1 ?_
  refine S_iremT (d := qJ9_floorMod_7cf53_2) (k := ?_)
  refine S_is2 qJ9_floorMod_7cf53_3 (K := ?_)
  refine S_il0 qJ9_floorMod_7cf53_4 ?_
  refine S_il1 qJ9_floorMod_7cf53_5 ?_
  refine S_ixor qJ9_floorMod_7cf53_6 ?_
  refine S_if_ge (d := qJ9_floorMod_7cf53_7) (ha := io_rg _) (kt := fun c7 => ?_) (kf := fun c7 => ?_)
  · refine S_il2 qJ9_floorMod_7cf53_18 ?_
    refine S_iret hz qJ9_floorMod_7cf53_19 ?_
    refine RE.mk ?_
    first | exact tm_pos (hs.mp c7) | (have h7 : x < 0 := by omega
                                       rcases tm_neg h7 hy.1 with h | h <;> omega)
  · refine S_il2 qJ9_floorMod_7cf53_10 ?_
    refine S_if_eq (d := qJ9_floorMod_7cf53_11) (ha := by have := tm_bounds rx hy; omega) (kt := fun c11 => ?_) (kf := fun c11 => ?_)
    · refine S_il2 qJ9_floorMod_7cf53_18 ?_
      refine S_iret hz qJ9_floorMod_7cf53_19 ?_
      refine RE.mk ?_
      first | exact tm_pos (hs.mp c7) | (have h7 : x < 0 := by omega
                                         rcases tm_neg h7 hy.1 with h | h <;> omega)
    · refine S_il2 qJ9_floorMod_7cf53_14 ?_
      refine S_il1 qJ9_floorMod_7cf53_15 ?_
      refine S_iadd qJ9_floorMod_7cf53_16 ?_
      refine S_iret hz qJ9_floorMod_7cf53_17 ?_
      refine RE.mk ?_
      have h7 : x < 0 := by omega
      rcases tm_neg h7 hy.1 with h | h <;> omega

theorem c_modulo {g : GC} {V : MM} {x y : Int} (rx : -2147483648 ≤ x ∧ x ≤ 2147483647) (hy : 0 < y ∧ y ≤ 2147483647) : Ct g mX6_modulo 2 [vi x, vi y] V (RE V (x % y)) := by
  refine Ct.of (ls := [some (vi x), some (vi y)]) (plainFor_of_name (by decide +kernel)) rfl (by exact Nat.le_of_ble_eq_true rfl) (fun X hz hD => ?_)
  refine S_il1 qX6_modulo_0 ?_
  refine S_iconst qX6_modulo_1 ?_
  refine S_icmp_ge (d := qX6_modulo_2) (kt := fun c2 => ?_) (kf := fun c2 => ?_)
  rotate_left
  · omega
  refine S_il0 qX6_modulo_9 ?_
  refine S_il1 qX6_modulo_10 ?_
  refine S_S2E hD qX6_modulo_11 lX6_284 sJ9_floorMod_7cf53 (c_floorMod (by omega) (by omega)) (K := ?_)
  refine S_iret hz qX6_modulo_14 ?_
  exact RE.mk (by first | rfl | omega)

theorem c_max {g : GC} {V : MM} {x y : Int} (rx : -2147483648 ≤ x ∧ x ≤ 2147483647) (ry : -2147483648 ≤ y ∧ y ≤ 2147483647) : Ct g mJ9_max_7cf53 1 [vi x, vi y] V (RE V ((if x < y then y else x))) := by
  refine Ct.of (ls := [some (vi x), some (vi y)]) (by decide +kernel) rfl (by exact Nat.le_of_ble_eq_true rfl) (fun X hz hD => ?_)
  refine S_il0 qJ9_max_7cf53_0 ?_
  refine S_il1 qJ9_max_7cf53_1 ?_
  refine S_icmp_lt (d := qJ9_max_7cf53_2) (kt := fun c2 => ?_) (kf := fun c2 => ?_)
  · refine S_il1 qJ9_max_7cf53_9 ?_
    refine S_iret hz qJ9_max_7cf53_10 ?_
    exact RE.mk (by split <;> omega)
  · refine S_il0 qJ9_max_7cf53_5 ?_
    refine S_goto qJ9_max_7cf53_6 ?_
    refine S_iret hz qJ9_max_7cf53_10 ?_
    exact RE.mk (by split <;> omega)

theorem c_min {g : GC} {V : MM} {x y : Int} (rx : -2147483648 ≤ x ∧ x ≤ 2147483647) (ry : -2147483648 ≤ y ∧ y ≤ 2147483647) : Ct g mJ9_min_7cf53 1 [vi x, vi y] V (RE V ((if y < x then y else x))) := by
  refine Ct.of (ls := [some (vi x), some (vi y)]) (by decide +kernel) rfl (by exact Nat.le_of_ble_eq_true rfl) (fun X hz hD => ?_)
  refine S_il0 qJ9_min_7cf53_0 ?_
  refine S_il1 qJ9_min_7cf53_1 ?_
  refine S_icmp_gt (d := qJ9_min_7cf53_2) (kt := fun c2 => ?_) (kf := fun c2 => ?_)
  · refine S_il1 qJ9_min_7cf53_9 ?_
    refine S_iret hz qJ9_min_7cf53_10 ?_
    exact RE.mk (by split <;> omega)
  · refine S_il0 qJ9_min_7cf53_5 ?_
    refine S_goto qJ9_min_7cf53_6 ?_
    refine S_iret hz qJ9_min_7cf53_10 ?_
    exact RE.mk (by split <;> omega)

theorem c_has {g : GC} {f : Nat} {V : MM} {d : Int} (hf : isF f) (rd : -2147483648 ≤ d ∧ d ≤ 2147483647) (hn : 0 ≤ V f 0 ∧ V f 0 ≤ 6) : Ct g mX2_has 1 [vr f, vi d] V (RB V (0 ≤ d ∧ d < V f 0)) := by
  refine Ct.of (ls := [some (vr f), some (vi d)]) (plainFor_of_name (by decide +kernel)) rfl (by exact Nat.le_of_ble_eq_true rfl) (fun X hz hD => ?_)
  refine S_il1 qX2_has_0 ?_
  refine S_if_lt (d := qX2_has_1) (kt := fun c1 => ?_) (kf := fun c1 => ?_)
  · refine S_iconst qX2_has_22 ?_
    refine S_zret hz qX2_has_23 (by omega) ?_
    exact RB.mk (by omega)
  · refine S_il1 qX2_has_4 ?_
    refine S_al0 qX2_has_5 ?_
    refine S_getI qX2_has_6 fX2_34 (F_0 hf) ?_
    refine S_icmp_ge (d := qX2_has_9) (kt := fun c9 => ?_) (kf := fun c9 => ?_)
    · refine S_iconst qX2_has_22 ?_
      refine S_zret hz qX2_has_23 (by omega) ?_
      exact RB.mk (by omega)
    · refine S_il1 qX2_has_12 ?_
      refine S_bipush (d := qX2_has_13) (k := ?_)
      refine S_icmp_ge (d := qX2_has_15) (kt := fun c15 => ?_) (kf := fun c15 => ?_)
      · refine S_iconst qX2_has_22 ?_
        refine S_zret hz qX2_has_23 (by omega) ?_
        exact RB.mk (by omega)
      · refine S_iconst qX2_has_18 ?_
        refine S_goto qX2_has_19 ?_
        refine S_zret hz qX2_has_23 (by omega) ?_
        exact RB.mk (by omega)

theorem c_hasPlace {g : GC} {f : Nat} {V : MM} {d : Int} (hf : isF f) (hh : isH (V f 2).toNat) (rd : -2147483648 ≤ d ∧ d ≤ 2147483647) (hw : 1 ≤ V (V f 2).toNat 0 ∧ V (V f 2).toNat 0 ≤ 99) : Ct g mX2_hasPlace 1 [vr f, vi d] V (RB V (0 ≤ d ∧ d < V (V f 2).toNat 0)) := by
  refine Ct.of (ls := [some (vr f), some (vi d)]) (plainFor_of_name (by decide +kernel)) rfl (by exact Nat.le_of_ble_eq_true rfl) (fun X hz hD => ?_)
  refine S_il1 qX2_hasPlace_0 ?_
  refine S_if_lt (d := qX2_hasPlace_1) (kt := fun c1 => ?_) (kf := fun c1 => ?_)
  · refine S_iconst qX2_hasPlace_19 ?_
    refine S_zret hz qX2_hasPlace_20 (by omega) ?_
    exact RB.mk (by omega)
  · refine S_il1 qX2_hasPlace_4 ?_
    refine S_al0 qX2_hasPlace_5 ?_
    refine S_getH qX2_hasPlace_6 fX2_30 (F_2 hf) ?_
    refine S_getI qX2_hasPlace_9 fX2_47 (H_0 hh) ?_
    refine S_icmp_ge (d := qX2_hasPlace_12) (kt := fun c12 => ?_) (kf := fun c12 => ?_)
    · refine S_iconst qX2_hasPlace_19 ?_
      refine S_zret hz qX2_hasPlace_20 (by omega) ?_
      exact RB.mk (by omega)
    · refine S_iconst qX2_hasPlace_15 ?_
      refine S_goto qX2_hasPlace_16 ?_
      refine S_zret hz qX2_hasPlace_20 (by omega) ?_
      exact RB.mk (by omega)

theorem c_wasOf {g : GC} {f : Nat} {V : MM} {d k : Int} (hf : isF f) (rd : 0 ≤ d ∧ d < V f 0) (rk : 0 ≤ k ∧ k < 8) (hn : V f 0 ≤ 6) : Ct g mX2_wasOf 2 [vr f, vi d, vi k] V (RE V (V (f + 4) (8 * d + k))) := by
  refine Ct.of (ls := [some (vr f), some (vi d), some (vi k)]) (plainFor_of_name (by decide +kernel)) rfl (by exact Nat.le_of_ble_eq_true rfl) (fun X hz hD => ?_)
  refine S_al0 qX2_wasOf_0 ?_
  refine S_il1 qX2_wasOf_1 ?_
  refine S_V1B hD qX2_wasOf_2 lX2_52 vX2_has (F_r hf) (c_has hf (by omega) (by omega)) (kt := fun j2 => ?_) (kf := fun j2 => ?_)
  · refine S_if_eq (d := qX2_wasOf_5) (kt := fun c => absurd c (by decide)) (kf := fun _ => ?_)
    refine S_il2 qX2_wasOf_8 ?_
    refine S_if_lt (d := qX2_wasOf_9) (kt := fun c9 => ?_) (kf := fun c9 => ?_)
    · refine S_iconst qX2_wasOf_32 ?_
      refine S_iret hz qX2_wasOf_33 ?_
      first | (exfalso; omega) | exact RE.mk (congrArg _ (by omega))
    · refine S_il2 qX2_wasOf_12 ?_
      refine S_bipush (d := qX2_wasOf_13) (k := ?_)
      refine S_icmp_ge (d := qX2_wasOf_15) (kt := fun c15 => ?_) (kf := fun c15 => ?_)
      · refine S_iconst qX2_wasOf_32 ?_
        refine S_iret hz qX2_wasOf_33 ?_
        first | (exfalso; omega) | exact RE.mk (congrArg _ (by omega))
      · refine S_al0 qX2_wasOf_18 ?_
        refine S_getR qX2_wasOf_19 fX2_21 (F_6 hf) ?_
        refine S_il1 qX2_wasOf_22 ?_
        refine S_bipush (d := qX2_wasOf_23) (k := ?_)
        refine S_imul qX2_wasOf_25 ?_
        refine S_il2 qX2_wasOf_26 ?_
        refine S_iadd qX2_wasOf_27 ?_
        refine S_iald qX2_wasOf_28 (Fa_4 hf) (K := ?_)
        refine S_goto qX2_wasOf_29 ?_
        refine S_iret hz qX2_wasOf_33 ?_
        first | (exfalso; omega) | exact RE.mk (congrArg _ (by omega))
  · refine S_if_eq (d := qX2_wasOf_5) (kt := fun _ => ?_) (kf := fun c => absurd c (by decide))
    refine S_iconst qX2_wasOf_32 ?_
    refine S_iret hz qX2_wasOf_33 ?_
    first | (exfalso; omega) | exact RE.mk (congrArg _ (by omega))

theorem c_follow {g : GC} {f : Nat} {V : MM} {d k : Int} (hf : isF f) (rd : 0 ≤ d ∧ d < V f 0) (rk : 0 ≤ k ∧ k < V f 0) (hn : V f 0 ≤ 6) : Ct g mX2_follow 2 [vr f, vi d, vi k] V (RW (upR V (f + 3) (ur (V (f + 3)) d k))) := by
  refine Ct.of (ls := [some (vr f), some (vi d), some (vi k)]) (plainFor_of_name (by decide +kernel)) rfl (by exact Nat.le_of_ble_eq_true rfl) (fun X hz hD => ?_)
  refine S_al0 qX2_follow_0 ?_
  refine S_il1 qX2_follow_1 ?_
  refine S_V1B hD qX2_follow_2 lX2_52 vX2_has (F_r hf) (c_has hf (by omega) (by omega)) (kt := fun j2 => ?_) (kf := fun j2 => ?_)
  · refine S_if_eq (d := qX2_follow_5) (kt := fun c => absurd c (by decide)) (kf := fun _ => ?_)
    refine S_al0 qX2_follow_8 ?_
    refine S_il2 qX2_follow_9 ?_
    refine S_V1B hD qX2_follow_10 lX2_52 vX2_has (F_r hf) (c_has hf (by omega) (by omega)) (kt := fun j10 => ?_) (kf := fun j10 => ?_)
    · refine S_if_eq (d := qX2_follow_13) (kt := fun c => absurd c (by decide)) (kf := fun _ => ?_)
      refine S_al0 qX2_follow_16 ?_
      refine S_getR qX2_follow_17 fX2_18 (F_5 hf) ?_
      refine S_il1 qX2_follow_20 ?_
      refine S_il2 qX2_follow_21 ?_
      refine S_iast qX2_follow_22 (Fa_3 hf) (K := ?_)
      refine S_vret hz qX2_follow_23 ?_
      first | (exfalso; omega) | exact RW.mk rfl
    · refine S_if_eq (d := qX2_follow_13) (kt := fun _ => ?_) (kf := fun c => absurd c (by decide))
      refine S_vret hz qX2_follow_23 ?_
      first | (exfalso; omega) | exact RW.mk rfl
  · refine S_if_eq (d := qX2_follow_5) (kt := fun _ => ?_) (kf := fun c => absurd c (by decide))
    refine S_vret hz qX2_follow_23 ?_
    first | (exfalso; omega) | exact RW.mk rfl

theorem c_isLazyNow {g : GC} {f : Nat} {V : MM} {d : Int} (hf : isF f) (rd : 0 ≤ d ∧ d < 6) (rv : 0 ≤ V (f + 2) d ∧ V (f + 2) d ≤ 9) (rb : 0 ≤ V f 1 ∧ V f 1 ≤ 20000) : Ct g mX2_isLazyNow 3 [vr f, vi d] V (RB V (V f 1 % (V (f + 2) d + 2) = 0)) := by
  refine Ct.of (ls := [some (vr f), some (vi d)]) (plainFor_of_name (by decide +kernel)) rfl (by exact Nat.le_of_ble_eq_true rfl) (fun X hz hD => ?_)
  have hm := Int.emod_nonneg (V f 1) (show V (f + 2) d + 2 ≠ 0 by omega)
  have hm2 := Int.emod_lt_of_pos (V f 1) (show 0 < V (f + 2) d + 2 by omega)
  refine S_al0 qX2_isLazyNow_0 ?_
  refine S_getI qX2_isLazyNow_1 fX2_38 (F_1 hf) ?_
  refine S_al0 qX2_isLazyNow_4 ?_
  refine S_getR qX2_isLazyNow_5 fX2_15 (F_4 hf) ?_
  refine S_il1 qX2_isLazyNow_8 ?_
  refine S_iald qX2_isLazyNow_9 (Fa_2 hf) (K := ?_)
  refine S_iconst qX2_isLazyNow_10 ?_
  refine S_iadd qX2_isLazyNow_11 ?_
  refine S_S2E hD qX2_isLazyNow_12 lX2_60 sX6_modulo (c_modulo (by omega) (by omega)) (K := ?_)
  refine S_if_ne (d := qX2_isLazyNow_15) (kt := fun c15 => ?_) (kf := fun c15 => ?_)
  · refine S_iconst qX2_isLazyNow_22 ?_
    refine S_zret hz qX2_isLazyNow_23 (by omega) ?_
    exact RB.mk (by omega)
  · refine S_iconst qX2_isLazyNow_18 ?_
    refine S_goto qX2_isLazyNow_19 ?_
    refine S_zret hz qX2_isLazyNow_23 (by omega) ?_
    exact RB.mk (by omega)
