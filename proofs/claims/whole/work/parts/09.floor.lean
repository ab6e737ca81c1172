theorem c_has {g : GC} {f : Nat} {V : MM} {d : Int} (hf : isF f) (hd : -2147483648 ≤ d ∧ d ≤ 2147483647) (hn : 0 ≤ V f 0 ∧ V f 0 ≤ 6) : Ct g mX2_has 1 [vr f, vi d] V (RI (fun z V' => V' = V ∧ (z = 1 ∧ (0 ≤ d ∧ d < V f 0) ∨ z = 0 ∧ ¬ (0 ≤ d ∧ d < V f 0)))) := by
  refine Ct.of (ls := [some (vr f), some (vi d)]) (by decide +kernel) rfl (by exact Nat.le_of_ble_eq_true rfl) (fun X hz hD => ?_)
  refine S_il1 qX2_has_0 ?_
  refine S_if_lt (d := qX2_has_1) (kt := fun c1 => ?_) (kf := fun c1 => ?_)
  · refine S_iconst qX2_has_22 ?_
    refine S_zret hz qX2_has_23 (by omega) ?_
    exact RI.mk ⟨rfl, by omega⟩
  · refine S_il1 qX2_has_4 ?_
    refine S_al0 qX2_has_5 ?_
    refine S_getI qX2_has_6 fX2_34 (F_0 hf) ?_
    refine S_icmp_ge (d := qX2_has_9) (kt := fun c9 => ?_) (kf := fun c9 => ?_)
    · refine S_iconst qX2_has_22 ?_
      refine S_zret hz qX2_has_23 (by omega) ?_
      exact RI.mk ⟨rfl, by omega⟩
    · refine S_il1 qX2_has_12 ?_
      refine S_bipush (d := qX2_has_13) (k := ?_)
      refine S_icmp_ge (d := qX2_has_15) (kt := fun c15 => ?_) (kf := fun c15 => ?_)
      · refine S_iconst qX2_has_22 ?_
        refine S_zret hz qX2_has_23 (by omega) ?_
        exact RI.mk ⟨rfl, by omega⟩
      · refine S_iconst qX2_has_18 ?_
        refine S_goto qX2_has_19 ?_
        refine S_zret hz qX2_has_23 (by omega) ?_
        exact RI.mk ⟨rfl, by omega⟩
