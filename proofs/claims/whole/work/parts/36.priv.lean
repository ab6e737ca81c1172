theorem c_isTape {g : GC} {V : MM} {t : Int} (rt : -2147483648 ≤ t ∧ t ≤ 2147483647) : Ct g mX6_isTape 1 [vi t] V (RB V (0 ≤ t ∧ t < 6)) := by
  refine Ct.of (ls := [some (vi t)]) (plainFor_of_name (by decide +kernel)) rfl (by exact Nat.le_of_ble_eq_true rfl) (fun X hz hD => ?_)
  refine S_il0 qX6_isTape_0 ?_
  refine S_if_lt (d := qX6_isTape_1) (kt := fun c1 => ?_) (kf := fun c1 => ?_)
  · refine S_iconst qX6_isTape_14 ?_
    refine S_zret hz qX6_isTape_15 (by omega) ?_
    exact RB.mk (by omega)
  · refine S_il0 qX6_isTape_4 ?_
    refine S_bipush (d := qX6_isTape_5) (k := ?_)
    refine S_icmp_ge (d := qX6_isTape_7) (kt := fun c7 => ?_) (kf := fun c7 => ?_)
    · refine S_iconst qX6_isTape_14 ?_
      refine S_zret hz qX6_isTape_15 (by omega) ?_
      exact RB.mk (by omega)
    · refine S_iconst qX6_isTape_10 ?_
      refine S_goto qX6_isTape_11 ?_
      refine S_zret hz qX6_isTape_15 (by omega) ?_
      exact RB.mk (by omega)

theorem c_asks {g : GC} {V : MM} {w : Int} (rw : -2147483648 ≤ w ∧ w ≤ 2147483647) (hn : 0 ≤ V 8 0 ∧ V 8 0 ≤ 6) : Ct g mX6_asksForPlaces 2 [vr 0, vi w] V (RB V (w = 0 ∨ 10 ≤ w ∧ w - 10 < V 8 0)) := by
  refine Ct.of (ls := [some (vr 0), some (vi w)]) (plainFor_of_name (by decide +kernel)) rfl (by exact Nat.le_of_ble_eq_true rfl) (fun X hz hD => ?_)
  refine S_il1 qX6_asksForPlaces_0 ?_
  refine S_if_eq (d := qX6_asksForPlaces_1) (kt := fun c1 => ?_) (kf := fun c1 => ?_)
  · refine S_iconst qX6_asksForPlaces_24 ?_
    refine S_goto qX6_asksForPlaces_25 ?_
    refine S_zret hz qX6_asksForPlaces_29 (by omega) ?_
    exact RB.mk (by omega)
  · refine S_il1 qX6_asksForPlaces_4 ?_
    refine S_bipush (d := qX6_asksForPlaces_5) (k := ?_)
    refine S_icmp_lt (d := qX6_asksForPlaces_7) (kt := fun c7 => ?_) (kf := fun c7 => ?_)
    · refine S_iconst qX6_asksForPlaces_28 ?_
      refine S_zret hz qX6_asksForPlaces_29 (by omega) ?_
      exact RB.mk (by omega)
    · refine S_al0 qX6_asksForPlaces_10 ?_
      refine S_getR qX6_asksForPlaces_11 fX6_17 e0_0 ?_
      refine S_il1 qX6_asksForPlaces_14 ?_
      refine S_bipush (d := qX6_asksForPlaces_15) (k := ?_)
      refine S_isub qX6_asksForPlaces_17 ?_
      refine S_V1B hD qX6_asksForPlaces_18 lX6_80 vX2_has (F_r F8) (c_has F8 (by omega) (by omega)) (kt := fun j18 => ?_) (kf := fun j18 => ?_)
      · refine S_if_eq (d := qX6_asksForPlaces_21) (kt := fun c => absurd c (by decide)) (kf := fun _ => ?_)
        refine S_iconst qX6_asksForPlaces_24 ?_
        refine S_goto qX6_asksForPlaces_25 ?_
        refine S_zret hz qX6_asksForPlaces_29 (by omega) ?_
        exact RB.mk (by omega)
      · refine S_if_eq (d := qX6_asksForPlaces_21) (kt := fun _ => ?_) (kf := fun c => absurd c (by decide))
        refine S_iconst qX6_asksForPlaces_28 ?_
        refine S_zret hz qX6_asksForPlaces_29 (by omega) ?_
        exact RB.mk (by omega)
