theorem c_bodyOf_0_0 {g : GC} {V : MM} : Ct g mX0_bodyOf 1 [vi 0, vi 0] V (RE V (10)) := by
  refine Ct.of (ls := [some (vi 0), some (vi 0), none, none, none]) (plainFor_of_name (by decide +kernel)) rfl (by exact Nat.le_of_ble_eq_true rfl) (fun X hz hD => ?_)
  refine S_il1 qX0_bodyOf_0 ?_
  refine S_is2 qX0_bodyOf_1 (K := ?_)
  refine S_iconst qX0_bodyOf_2 ?_
  refine S_is3 qX0_bodyOf_3 (K := ?_)
  refine S_il3 qX0_bodyOf_4 ?_
  refine S_bipush (d := qX0_bodyOf_5) (k := ?_)
  refine S_icmp_ge (d := qX0_bodyOf_7) (kt := fun c => absurd c (by decide)) (kf := fun _ => ?_)
  refine S_il2 qX0_bodyOf_10 ?_
  refine S_if_lt (d := qX0_bodyOf_11) (kt := fun c => absurd c (by decide)) (kf := fun _ => ?_)
  refine S_il2 qX0_bodyOf_14 ?_
  refine S_bipush (d := qX0_bodyOf_15) (k := ?_)
  refine S_icmp_ge (d := qX0_bodyOf_17) (kt := fun c => absurd c (by decide)) (kf := fun _ => ?_)
  refine S_il2 qX0_bodyOf_20 ?_
  refine S_iconst qX0_bodyOf_21 ?_
  refine S_imul qX0_bodyOf_22 ?_
  refine S_il0 qX0_bodyOf_23 ?_
  refine S_iadd qX0_bodyOf_24 ?_
  refine S_is4 qX0_bodyOf_25 (K := ?_)
  refine S_il4 qX0_bodyOf_27 ?_
  refine S_if_lt (d := qX0_bodyOf_29) (kt := fun c => absurd c (by decide)) (kf := fun _ => ?_)
  refine S_il4 qX0_bodyOf_32 ?_
  refine S_gets (v := vr 221) qX0_bodyOf_34 sX0_50 (fun g2 U H h => h.2.2.1) ?_
  refine S_tlen qX0_bodyOf_37 (fun g2 U H h => ro_bodies h) ?_
  refine S_icmp_ge (d := qX0_bodyOf_38) (kt := fun c => absurd c (by decide)) (kf := fun _ => ?_)
  refine S_gets (v := vr 221) qX0_bodyOf_41 sX0_50 (fun g2 U H h => h.2.2.1) ?_
  refine S_il4 qX0_bodyOf_44 ?_
  refine S_tild (z := 10) qX0_bodyOf_46 (fun g2 U H h => ro_bodies h) (by decide) (by decide) ?_
  refine S_if_eq (d := qX0_bodyOf_47) (kt := fun c => absurd c (by decide)) (kf := fun _ => ?_)
  refine S_gets (v := vr 221) qX0_bodyOf_50 sX0_50 (fun g2 U H h => h.2.2.1) ?_
  refine S_il4 qX0_bodyOf_53 ?_
  refine S_tild (z := 10) qX0_bodyOf_55 (fun g2 U H h => ro_bodies h) (by decide) (by decide) ?_
  refine S_iret hz qX0_bodyOf_56 ?_
  exact ⟨rfl, rfl⟩

theorem c_bodyOf_0_1 {g : GC} {V : MM} : Ct g mX0_bodyOf 1 [vi 1, vi 0] V (RE V (11)) := by
  refine Ct.of (ls := [some (vi 1), some (vi 0), none, none, none]) (plainFor_of_name (by decide +kernel)) rfl (by exact Nat.le_of_ble_eq_true rfl) (fun X hz hD => ?_)
  refine S_il1 qX0_bodyOf_0 ?_
  refine S_is2 qX0_bodyOf_1 (K := ?_)
  refine S_iconst qX0_bodyOf_2 ?_
  refine S_is3 qX0_bodyOf_3 (K := ?_)
  refine S_il3 qX0_bodyOf_4 ?_
  refine S_bipush (d := qX0_bodyOf_5) (k := ?_)
  refine S_icmp_ge (d := qX0_bodyOf_7) (kt := fun c => absurd c (by decide)) (kf := fun _ => ?_)
  refine S_il2 qX0_bodyOf_10 ?_
  refine S_if_lt (d := qX0_bodyOf_11) (kt := fun c => absurd c (by decide)) (kf := fun _ => ?_)
  refine S_il2 qX0_bodyOf_14 ?_
  refine S_bipush (d := qX0_bodyOf_15) (k := ?_)
  refine S_icmp_ge (d := qX0_bodyOf_17) (kt := fun c => absurd c (by decide)) (kf := fun _ => ?_)
  refine S_il2 qX0_bodyOf_20 ?_
  refine S_iconst qX0_bodyOf_21 ?_
  refine S_imul qX0_bodyOf_22 ?_
  refine S_il0 qX0_bodyOf_23 ?_
  refine S_iadd qX0_bodyOf_24 ?_
  refine S_is4 qX0_bodyOf_25 (K := ?_)
  refine S_il4 qX0_bodyOf_27 ?_
  refine S_if_lt (d := qX0_bodyOf_29) (kt := fun c => absurd c (by decide)) (kf := fun _ => ?_)
  refine S_il4 qX0_bodyOf_32 ?_
  refine S_gets (v := vr 221) qX0_bodyOf_34 sX0_50 (fun g2 U H h => h.2.2.1) ?_
  refine S_tlen qX0_bodyOf_37 (fun g2 U H h => ro_bodies h) ?_
  refine S_icmp_ge (d := qX0_bodyOf_38) (kt := fun c => absurd c (by decide)) (kf := fun _ => ?_)
  refine S_gets (v := vr 221) qX0_bodyOf_41 sX0_50 (fun g2 U H h => h.2.2.1) ?_
  refine S_il4 qX0_bodyOf_44 ?_
  refine S_tild (z := 11) qX0_bodyOf_46 (fun g2 U H h => ro_bodies h) (by decide) (by decide) ?_
  refine S_if_eq (d := qX0_bodyOf_47) (kt := fun c => absurd c (by decide)) (kf := fun _ => ?_)
  refine S_gets (v := vr 221) qX0_bodyOf_50 sX0_50 (fun g2 U H h => h.2.2.1) ?_
  refine S_il4 qX0_bodyOf_53 ?_
  refine S_tild (z := 11) qX0_bodyOf_55 (fun g2 U H h => ro_bodies h) (by decide) (by decide) ?_
  refine S_iret hz qX0_bodyOf_56 ?_
  exact ⟨rfl, rfl⟩

theorem c_bodyOf_0_2 {g : GC} {V : MM} : Ct g mX0_bodyOf 1 [vi 2, vi 0] V (RE V (12)) := by
  refine Ct.of (ls := [some (vi 2), some (vi 0), none, none, none]) (plainFor_of_name (by decide +kernel)) rfl (by exact Nat.le_of_ble_eq_true rfl) (fun X hz hD => ?_)
  refine S_il1 qX0_bodyOf_0 ?_
  refine S_is2 qX0_bodyOf_1 (K := ?_)
  refine S_iconst qX0_bodyOf_2 ?_
  refine S_is3 qX0_bodyOf_3 (K := ?_)
  refine S_il3 qX0_bodyOf_4 ?_
  refine S_bipush (d := qX0_bodyOf_5) (k := ?_)
  refine S_icmp_ge (d := qX0_bodyOf_7) (kt := fun c => absurd c (by decide)) (kf := fun _ => ?_)
  refine S_il2 qX0_bodyOf_10 ?_
  refine S_if_lt (d := qX0_bodyOf_11) (kt := fun c => absurd c (by decide)) (kf := fun _ => ?_)
  refine S_il2 qX0_bodyOf_14 ?_
  refine S_bipush (d := qX0_bodyOf_15) (k := ?_)
  refine S_icmp_ge (d := qX0_bodyOf_17) (kt := fun c => absurd c (by decide)) (kf := fun _ => ?_)
  refine S_il2 qX0_bodyOf_20 ?_
  refine S_iconst qX0_bodyOf_21 ?_
  refine S_imul qX0_bodyOf_22 ?_
  refine S_il0 qX0_bodyOf_23 ?_
  refine S_iadd qX0_bodyOf_24 ?_
  refine S_is4 qX0_bodyOf_25 (K := ?_)
  refine S_il4 qX0_bodyOf_27 ?_
  refine S_if_lt (d := qX0_bodyOf_29) (kt := fun c => absurd c (by decide)) (kf := fun _ => ?_)
  refine S_il4 qX0_bodyOf_32 ?_
  refine S_gets (v := vr 221) qX0_bodyOf_34 sX0_50 (fun g2 U H h => h.2.2.1) ?_
  refine S_tlen qX0_bodyOf_37 (fun g2 U H h => ro_bodies h) ?_
  refine S_icmp_ge (d := qX0_bodyOf_38) (kt := fun c => absurd c (by decide)) (kf := fun _ => ?_)
  refine S_gets (v := vr 221) qX0_bodyOf_41 sX0_50 (fun g2 U H h => h.2.2.1) ?_
  refine S_il4 qX0_bodyOf_44 ?_
  refine S_tild (z := 12) qX0_bodyOf_46 (fun g2 U H h => ro_bodies h) (by decide) (by decide) ?_
  refine S_if_eq (d := qX0_bodyOf_47) (kt := fun c => absurd c (by decide)) (kf := fun _ => ?_)
  refine S_gets (v := vr 221) qX0_bodyOf_50 sX0_50 (fun g2 U H h => h.2.2.1) ?_
  refine S_il4 qX0_bodyOf_53 ?_
  refine S_tild (z := 12) qX0_bodyOf_55 (fun g2 U H h => ro_bodies h) (by decide) (by decide) ?_
  refine S_iret hz qX0_bodyOf_56 ?_
  exact ⟨rfl, rfl⟩

theorem c_bodyOf_1_0 {g : GC} {V : MM} : Ct g mX0_bodyOf 1 [vi 0, vi 1] V (RE V (10)) := by
  refine Ct.of (ls := [some (vi 0), some (vi 1), none, none, none]) (plainFor_of_name (by decide +kernel)) rfl (by exact Nat.le_of_ble_eq_true rfl) (fun X hz hD => ?_)
  refine S_il1 qX0_bodyOf_0 ?_
  refine S_is2 qX0_bodyOf_1 (K := ?_)
  refine S_iconst qX0_bodyOf_2 ?_
  refine S_is3 qX0_bodyOf_3 (K := ?_)
  refine S_il3 qX0_bodyOf_4 ?_
  refine S_bipush (d := qX0_bodyOf_5) (k := ?_)
  refine S_icmp_ge (d := qX0_bodyOf_7) (kt := fun c => absurd c (by decide)) (kf := fun _ => ?_)
  refine S_il2 qX0_bodyOf_10 ?_
  refine S_if_lt (d := qX0_bodyOf_11) (kt := fun c => absurd c (by decide)) (kf := fun _ => ?_)
  refine S_il2 qX0_bodyOf_14 ?_
  refine S_bipush (d := qX0_bodyOf_15) (k := ?_)
  refine S_icmp_ge (d := qX0_bodyOf_17) (kt := fun c => absurd c (by decide)) (kf := fun _ => ?_)
  refine S_il2 qX0_bodyOf_20 ?_
  refine S_iconst qX0_bodyOf_21 ?_
  refine S_imul qX0_bodyOf_22 ?_
  refine S_il0 qX0_bodyOf_23 ?_
  refine S_iadd qX0_bodyOf_24 ?_
  refine S_is4 qX0_bodyOf_25 (K := ?_)
  refine S_il4 qX0_bodyOf_27 ?_
  refine S_if_lt (d := qX0_bodyOf_29) (kt := fun c => absurd c (by decide)) (kf := fun _ => ?_)
  refine S_il4 qX0_bodyOf_32 ?_
  refine S_gets (v := vr 221) qX0_bodyOf_34 sX0_50 (fun g2 U H h => h.2.2.1) ?_
  refine S_tlen qX0_bodyOf_37 (fun g2 U H h => ro_bodies h) ?_
  refine S_icmp_ge (d := qX0_bodyOf_38) (kt := fun c => absurd c (by decide)) (kf := fun _ => ?_)
  refine S_gets (v := vr 221) qX0_bodyOf_41 sX0_50 (fun g2 U H h => h.2.2.1) ?_
  refine S_il4 qX0_bodyOf_44 ?_
  refine S_tild (z := 0) qX0_bodyOf_46 (fun g2 U H h => ro_bodies h) (by decide) (by decide) ?_
  refine S_if_eq (d := qX0_bodyOf_47) (kt := fun _ => ?_) (kf := fun c => absurd c (by decide))
  refine S_gets (v := vr 220) qX0_bodyOf_57 sX0_53 (fun g2 U H h => h.2.1.1) ?_
  refine S_il2 qX0_bodyOf_60 ?_
  refine S_tild (z := 0) qX0_bodyOf_61 (fun g2 U H h => ro_above h) (by decide) (by decide) ?_
  refine S_is2 qX0_bodyOf_62 (K := ?_)
  refine S_inc3 qX0_bodyOf_63 (K := ?_)
  refine S_goto qX0_bodyOf_66 ?_
  refine S_il3 qX0_bodyOf_4 ?_
  refine S_bipush (d := qX0_bodyOf_5) (k := ?_)
  refine S_icmp_ge (d := qX0_bodyOf_7) (kt := fun c => absurd c (by decide)) (kf := fun _ => ?_)
  refine S_il2 qX0_bodyOf_10 ?_
  refine S_if_lt (d := qX0_bodyOf_11) (kt := fun c => absurd c (by decide)) (kf := fun _ => ?_)
  refine S_il2 qX0_bodyOf_14 ?_
  refine S_bipush (d := qX0_bodyOf_15) (k := ?_)
  refine S_icmp_ge (d := qX0_bodyOf_17) (kt := fun c => absurd c (by decide)) (kf := fun _ => ?_)
  refine S_il2 qX0_bodyOf_20 ?_
  refine S_iconst qX0_bodyOf_21 ?_
  refine S_imul qX0_bodyOf_22 ?_
  refine S_il0 qX0_bodyOf_23 ?_
  refine S_iadd qX0_bodyOf_24 ?_
  refine S_is4 qX0_bodyOf_25 (K := ?_)
  refine S_il4 qX0_bodyOf_27 ?_
  refine S_if_lt (d := qX0_bodyOf_29) (kt := fun c => absurd c (by decide)) (kf := fun _ => ?_)
  refine S_il4 qX0_bodyOf_32 ?_
  refine S_gets (v := vr 221) qX0_bodyOf_34 sX0_50 (fun g2 U H h => h.2.2.1) ?_
  refine S_tlen qX0_bodyOf_37 (fun g2 U H h => ro_bodies h) ?_
  refine S_icmp_ge (d := qX0_bodyOf_38) (kt := fun c => absurd c (by decide)) (kf := fun _ => ?_)
  refine S_gets (v := vr 221) qX0_bodyOf_41 sX0_50 (fun g2 U H h => h.2.2.1) ?_
  refine S_il4 qX0_bodyOf_44 ?_
  refine S_tild (z := 10) qX0_bodyOf_46 (fun g2 U H h => ro_bodies h) (by decide) (by decide) ?_
  refine S_if_eq (d := qX0_bodyOf_47) (kt := fun c => absurd c (by decide)) (kf := fun _ => ?_)
  refine S_gets (v := vr 221) qX0_bodyOf_50 sX0_50 (fun g2 U H h => h.2.2.1) ?_
  refine S_il4 qX0_bodyOf_53 ?_
  refine S_tild (z := 10) qX0_bodyOf_55 (fun g2 U H h => ro_bodies h) (by decide) (by decide) ?_
  refine S_iret hz qX0_bodyOf_56 ?_
  exact ⟨rfl, rfl⟩

theorem c_bodyOf_1_1 {g : GC} {V : MM} : Ct g mX0_bodyOf 1 [vi 1, vi 1] V (RE V (20)) := by
  refine Ct.of (ls := [some (vi 1), some (vi 1), none, none, none]) (plainFor_of_name (by decide +kernel)) rfl (by exact Nat.le_of_ble_eq_true rfl) (fun X hz hD => ?_)
  refine S_il1 qX0_bodyOf_0 ?_
  refine S_is2 qX0_bodyOf_1 (K := ?_)
  refine S_iconst qX0_bodyOf_2 ?_
  refine S_is3 qX0_bodyOf_3 (K := ?_)
  refine S_il3 qX0_bodyOf_4 ?_
  refine S_bipush (d := qX0_bodyOf_5) (k := ?_)
  refine S_icmp_ge (d := qX0_bodyOf_7) (kt := fun c => absurd c (by decide)) (kf := fun _ => ?_)
  refine S_il2 qX0_bodyOf_10 ?_
  refine S_if_lt (d := qX0_bodyOf_11) (kt := fun c => absurd c (by decide)) (kf := fun _ => ?_)
  refine S_il2 qX0_bodyOf_14 ?_
  refine S_bipush (d := qX0_bodyOf_15) (k := ?_)
  refine S_icmp_ge (d := qX0_bodyOf_17) (kt := fun c => absurd c (by decide)) (kf := fun _ => ?_)
  refine S_il2 qX0_bodyOf_20 ?_
  refine S_iconst qX0_bodyOf_21 ?_
  refine S_imul qX0_bodyOf_22 ?_
  refine S_il0 qX0_bodyOf_23 ?_
  refine S_iadd qX0_bodyOf_24 ?_
  refine S_is4 qX0_bodyOf_25 (K := ?_)
  refine S_il4 qX0_bodyOf_27 ?_
  refine S_if_lt (d := qX0_bodyOf_29) (kt := fun c => absurd c (by decide)) (kf := fun _ => ?_)
  refine S_il4 qX0_bodyOf_32 ?_
  refine S_gets (v := vr 221) qX0_bodyOf_34 sX0_50 (fun g2 U H h => h.2.2.1) ?_
  refine S_tlen qX0_bodyOf_37 (fun g2 U H h => ro_bodies h) ?_
  refine S_icmp_ge (d := qX0_bodyOf_38) (kt := fun c => absurd c (by decide)) (kf := fun _ => ?_)
  refine S_gets (v := vr 221) qX0_bodyOf_41 sX0_50 (fun g2 U H h => h.2.2.1) ?_
  refine S_il4 qX0_bodyOf_44 ?_
  refine S_tild (z := 20) qX0_bodyOf_46 (fun g2 U H h => ro_bodies h) (by decide) (by decide) ?_
  refine S_if_eq (d := qX0_bodyOf_47) (kt := fun c => absurd c (by decide)) (kf := fun _ => ?_)
  refine S_gets (v := vr 221) qX0_bodyOf_50 sX0_50 (fun g2 U H h => h.2.2.1) ?_
  refine S_il4 qX0_bodyOf_53 ?_
  refine S_tild (z := 20) qX0_bodyOf_55 (fun g2 U H h => ro_bodies h) (by decide) (by decide) ?_
  refine S_iret hz qX0_bodyOf_56 ?_
  exact ⟨rfl, rfl⟩

theorem c_bodyOf_1_2 {g : GC} {V : MM} : Ct g mX0_bodyOf 1 [vi 2, vi 1] V (RE V (12)) := by
  refine Ct.of (ls := [some (vi 2), some (vi 1), none, none, none]) (plainFor_of_name (by decide +kernel)) rfl (by exact Nat.le_of_ble_eq_true rfl) (fun X hz hD => ?_)
  refine S_il1 qX0_bodyOf_0 ?_
  refine S_is2 qX0_bodyOf_1 (K := ?_)
  refine S_iconst qX0_bodyOf_2 ?_
  refine S_is3 qX0_bodyOf_3 (K := ?_)
  refine S_il3 qX0_bodyOf_4 ?_
  refine S_bipush (d := qX0_bodyOf_5) (k := ?_)
  refine S_icmp_ge (d := qX0_bodyOf_7) (kt := fun c => absurd c (by decide)) (kf := fun _ => ?_)
  refine S_il2 qX0_bodyOf_10 ?_
  refine S_if_lt (d := qX0_bodyOf_11) (kt := fun c => absurd c (by decide)) (kf := fun _ => ?_)
  refine S_il2 qX0_bodyOf_14 ?_
  refine S_bipush (d := qX0_bodyOf_15) (k := ?_)
  refine S_icmp_ge (d := qX0_bodyOf_17) (kt := fun c => absurd c (by decide)) (kf := fun _ => ?_)
  refine S_il2 qX0_bodyOf_20 ?_
  refine S_iconst qX0_bodyOf_21 ?_
  refine S_imul qX0_bodyOf_22 ?_
  refine S_il0 qX0_bodyOf_23 ?_
  refine S_iadd qX0_bodyOf_24 ?_
  refine S_is4 qX0_bodyOf_25 (K := ?_)
  refine S_il4 qX0_bodyOf_27 ?_
  refine S_if_lt (d := qX0_bodyOf_29) (kt := fun c => absurd c (by decide)) (kf := fun _ => ?_)
  refine S_il4 qX0_bodyOf_32 ?_
  refine S_gets (v := vr 221) qX0_bodyOf_34 sX0_50 (fun g2 U H h => h.2.2.1) ?_
  refine S_tlen qX0_bodyOf_37 (fun g2 U H h => ro_bodies h) ?_
  refine S_icmp_ge (d := qX0_bodyOf_38) (kt := fun c => absurd c (by decide)) (kf := fun _ => ?_)
  refine S_gets (v := vr 221) qX0_bodyOf_41 sX0_50 (fun g2 U H h => h.2.2.1) ?_
  refine S_il4 qX0_bodyOf_44 ?_
  refine S_tild (z := 0) qX0_bodyOf_46 (fun g2 U H h => ro_bodies h) (by decide) (by decide) ?_
  refine S_if_eq (d := qX0_bodyOf_47) (kt := fun _ => ?_) (kf := fun c => absurd c (by decide))
  refine S_gets (v := vr 220) qX0_bodyOf_57 sX0_53 (fun g2 U H h => h.2.1.1) ?_
  refine S_il2 qX0_bodyOf_60 ?_
  refine S_tild (z := 0) qX0_bodyOf_61 (fun g2 U H h => ro_above h) (by decide) (by decide) ?_
  refine S_is2 qX0_bodyOf_62 (K := ?_)
  refine S_inc3 qX0_bodyOf_63 (K := ?_)
  refine S_goto qX0_bodyOf_66 ?_
  refine S_il3 qX0_bodyOf_4 ?_
  refine S_bipush (d := qX0_bodyOf_5) (k := ?_)
  refine S_icmp_ge (d := qX0_bodyOf_7) (kt := fun c => absurd c (by decide)) (kf := fun _ => ?_)
  refine S_il2 qX0_bodyOf_10 ?_
  refine S_if_lt (d := qX0_bodyOf_11) (kt := fun c => absurd c (by decide)) (kf := fun _ => ?_)
  refine S_il2 qX0_bodyOf_14 ?_
  refine S_bipush (d := qX0_bodyOf_15) (k := ?_)
  refine S_icmp_ge (d := qX0_bodyOf_17) (kt := fun c => absurd c (by decide)) (kf := fun _ => ?_)
  refine S_il2 qX0_bodyOf_20 ?_
  refine S_iconst qX0_bodyOf_21 ?_
  refine S_imul qX0_bodyOf_22 ?_
  refine S_il0 qX0_bodyOf_23 ?_
  refine S_iadd qX0_bodyOf_24 ?_
  refine S_is4 qX0_bodyOf_25 (K := ?_)
  refine S_il4 qX0_bodyOf_27 ?_
  refine S_if_lt (d := qX0_bodyOf_29) (kt := fun c => absurd c (by decide)) (kf := fun _ => ?_)
  refine S_il4 qX0_bodyOf_32 ?_
  refine S_gets (v := vr 221) qX0_bodyOf_34 sX0_50 (fun g2 U H h => h.2.2.1) ?_
  refine S_tlen qX0_bodyOf_37 (fun g2 U H h => ro_bodies h) ?_
  refine S_icmp_ge (d := qX0_bodyOf_38) (kt := fun c => absurd c (by decide)) (kf := fun _ => ?_)
  refine S_gets (v := vr 221) qX0_bodyOf_41 sX0_50 (fun g2 U H h => h.2.2.1) ?_
  refine S_il4 qX0_bodyOf_44 ?_
  refine S_tild (z := 12) qX0_bodyOf_46 (fun g2 U H h => ro_bodies h) (by decide) (by decide) ?_
  refine S_if_eq (d := qX0_bodyOf_47) (kt := fun c => absurd c (by decide)) (kf := fun _ => ?_)
  refine S_gets (v := vr 221) qX0_bodyOf_50 sX0_50 (fun g2 U H h => h.2.2.1) ?_
  refine S_il4 qX0_bodyOf_53 ?_
  refine S_tild (z := 12) qX0_bodyOf_55 (fun g2 U H h => ro_bodies h) (by decide) (by decide) ?_
  refine S_iret hz qX0_bodyOf_56 ?_
  exact ⟨rfl, rfl⟩

theorem c_bodyOf_2_0 {g : GC} {V : MM} : Ct g mX0_bodyOf 1 [vi 0, vi 2] V (RE V (30)) := by
  refine Ct.of (ls := [some (vi 0), some (vi 2), none, none, none]) (plainFor_of_name (by decide +kernel)) rfl (by exact Nat.le_of_ble_eq_true rfl) (fun X hz hD => ?_)
  refine S_il1 qX0_bodyOf_0 ?_
  refine S_is2 qX0_bodyOf_1 (K := ?_)
  refine S_iconst qX0_bodyOf_2 ?_
  refine S_is3 qX0_bodyOf_3 (K := ?_)
  refine S_il3 qX0_bodyOf_4 ?_
  refine S_bipush (d := qX0_bodyOf_5) (k := ?_)
  refine S_icmp_ge (d := qX0_bodyOf_7) (kt := fun c => absurd c (by decide)) (kf := fun _ => ?_)
  refine S_il2 qX0_bodyOf_10 ?_
  refine S_if_lt (d := qX0_bodyOf_11) (kt := fun c => absurd c (by decide)) (kf := fun _ => ?_)
  refine S_il2 qX0_bodyOf_14 ?_
  refine S_bipush (d := qX0_bodyOf_15) (k := ?_)
  refine S_icmp_ge (d := qX0_bodyOf_17) (kt := fun c => absurd c (by decide)) (kf := fun _ => ?_)
  refine S_il2 qX0_bodyOf_20 ?_
  refine S_iconst qX0_bodyOf_21 ?_
  refine S_imul qX0_bodyOf_22 ?_
  refine S_il0 qX0_bodyOf_23 ?_
  refine S_iadd qX0_bodyOf_24 ?_
  refine S_is4 qX0_bodyOf_25 (K := ?_)
  refine S_il4 qX0_bodyOf_27 ?_
  refine S_if_lt (d := qX0_bodyOf_29) (kt := fun c => absurd c (by decide)) (kf := fun _ => ?_)
  refine S_il4 qX0_bodyOf_32 ?_
  refine S_gets (v := vr 221) qX0_bodyOf_34 sX0_50 (fun g2 U H h => h.2.2.1) ?_
  refine S_tlen qX0_bodyOf_37 (fun g2 U H h => ro_bodies h) ?_
  refine S_icmp_ge (d := qX0_bodyOf_38) (kt := fun c => absurd c (by decide)) (kf := fun _ => ?_)
  refine S_gets (v := vr 221) qX0_bodyOf_41 sX0_50 (fun g2 U H h => h.2.2.1) ?_
  refine S_il4 qX0_bodyOf_44 ?_
  refine S_tild (z := 30) qX0_bodyOf_46 (fun g2 U H h => ro_bodies h) (by decide) (by decide) ?_
  refine S_if_eq (d := qX0_bodyOf_47) (kt := fun c => absurd c (by decide)) (kf := fun _ => ?_)
  refine S_gets (v := vr 221) qX0_bodyOf_50 sX0_50 (fun g2 U H h => h.2.2.1) ?_
  refine S_il4 qX0_bodyOf_53 ?_
  refine S_tild (z := 30) qX0_bodyOf_55 (fun g2 U H h => ro_bodies h) (by decide) (by decide) ?_
  refine S_iret hz qX0_bodyOf_56 ?_
  exact ⟨rfl, rfl⟩

theorem c_bodyOf_2_1 {g : GC} {V : MM} : Ct g mX0_bodyOf 1 [vi 1, vi 2] V (RE V (11)) := by
  refine Ct.of (ls := [some (vi 1), some (vi 2), none, none, none]) (plainFor_of_name (by decide +kernel)) rfl (by exact Nat.le_of_ble_eq_true rfl) (fun X hz hD => ?_)
  refine S_il1 qX0_bodyOf_0 ?_
  refine S_is2 qX0_bodyOf_1 (K := ?_)
  refine S_iconst qX0_bodyOf_2 ?_
  refine S_is3 qX0_bodyOf_3 (K := ?_)
  refine S_il3 qX0_bodyOf_4 ?_
  refine S_bipush (d := qX0_bodyOf_5) (k := ?_)
  refine S_icmp_ge (d := qX0_bodyOf_7) (kt := fun c => absurd c (by decide)) (kf := fun _ => ?_)
  refine S_il2 qX0_bodyOf_10 ?_
  refine S_if_lt (d := qX0_bodyOf_11) (kt := fun c => absurd c (by decide)) (kf := fun _ => ?_)
  refine S_il2 qX0_bodyOf_14 ?_
  refine S_bipush (d := qX0_bodyOf_15) (k := ?_)
  refine S_icmp_ge (d := qX0_bodyOf_17) (kt := fun c => absurd c (by decide)) (kf := fun _ => ?_)
  refine S_il2 qX0_bodyOf_20 ?_
  refine S_iconst qX0_bodyOf_21 ?_
  refine S_imul qX0_bodyOf_22 ?_
  refine S_il0 qX0_bodyOf_23 ?_
  refine S_iadd qX0_bodyOf_24 ?_
  refine S_is4 qX0_bodyOf_25 (K := ?_)
  refine S_il4 qX0_bodyOf_27 ?_
  refine S_if_lt (d := qX0_bodyOf_29) (kt := fun c => absurd c (by decide)) (kf := fun _ => ?_)
  refine S_il4 qX0_bodyOf_32 ?_
  refine S_gets (v := vr 221) qX0_bodyOf_34 sX0_50 (fun g2 U H h => h.2.2.1) ?_
  refine S_tlen qX0_bodyOf_37 (fun g2 U H h => ro_bodies h) ?_
  refine S_icmp_ge (d := qX0_bodyOf_38) (kt := fun c => absurd c (by decide)) (kf := fun _ => ?_)
  refine S_gets (v := vr 221) qX0_bodyOf_41 sX0_50 (fun g2 U H h => h.2.2.1) ?_
  refine S_il4 qX0_bodyOf_44 ?_
  refine S_tild (z := 0) qX0_bodyOf_46 (fun g2 U H h => ro_bodies h) (by decide) (by decide) ?_
  refine S_if_eq (d := qX0_bodyOf_47) (kt := fun _ => ?_) (kf := fun c => absurd c (by decide))
  refine S_gets (v := vr 220) qX0_bodyOf_57 sX0_53 (fun g2 U H h => h.2.1.1) ?_
  refine S_il2 qX0_bodyOf_60 ?_
  refine S_tild (z := 0) qX0_bodyOf_61 (fun g2 U H h => ro_above h) (by decide) (by decide) ?_
  refine S_is2 qX0_bodyOf_62 (K := ?_)
  refine S_inc3 qX0_bodyOf_63 (K := ?_)
  refine S_goto qX0_bodyOf_66 ?_
  refine S_il3 qX0_bodyOf_4 ?_
  refine S_bipush (d := qX0_bodyOf_5) (k := ?_)
  refine S_icmp_ge (d := qX0_bodyOf_7) (kt := fun c => absurd c (by decide)) (kf := fun _ => ?_)
  refine S_il2 qX0_bodyOf_10 ?_
  refine S_if_lt (d := qX0_bodyOf_11) (kt := fun c => absurd c (by decide)) (kf := fun _ => ?_)
  refine S_il2 qX0_bodyOf_14 ?_
  refine S_bipush (d := qX0_bodyOf_15) (k := ?_)
  refine S_icmp_ge (d := qX0_bodyOf_17) (kt := fun c => absurd c (by decide)) (kf := fun _ => ?_)
  refine S_il2 qX0_bodyOf_20 ?_
  refine S_iconst qX0_bodyOf_21 ?_
  refine S_imul qX0_bodyOf_22 ?_
  refine S_il0 qX0_bodyOf_23 ?_
  refine S_iadd qX0_bodyOf_24 ?_
  refine S_is4 qX0_bodyOf_25 (K := ?_)
  refine S_il4 qX0_bodyOf_27 ?_
  refine S_if_lt (d := qX0_bodyOf_29) (kt := fun c => absurd c (by decide)) (kf := fun _ => ?_)
  refine S_il4 qX0_bodyOf_32 ?_
  refine S_gets (v := vr 221) qX0_bodyOf_34 sX0_50 (fun g2 U H h => h.2.2.1) ?_
  refine S_tlen qX0_bodyOf_37 (fun g2 U H h => ro_bodies h) ?_
  refine S_icmp_ge (d := qX0_bodyOf_38) (kt := fun c => absurd c (by decide)) (kf := fun _ => ?_)
  refine S_gets (v := vr 221) qX0_bodyOf_41 sX0_50 (fun g2 U H h => h.2.2.1) ?_
  refine S_il4 qX0_bodyOf_44 ?_
  refine S_tild (z := 11) qX0_bodyOf_46 (fun g2 U H h => ro_bodies h) (by decide) (by decide) ?_
  refine S_if_eq (d := qX0_bodyOf_47) (kt := fun c => absurd c (by decide)) (kf := fun _ => ?_)
  refine S_gets (v := vr 221) qX0_bodyOf_50 sX0_50 (fun g2 U H h => h.2.2.1) ?_
  refine S_il4 qX0_bodyOf_53 ?_
  refine S_tild (z := 11) qX0_bodyOf_55 (fun g2 U H h => ro_bodies h) (by decide) (by decide) ?_
  refine S_iret hz qX0_bodyOf_56 ?_
  exact ⟨rfl, rfl⟩

theorem c_bodyOf_2_2 {g : GC} {V : MM} : Ct g mX0_bodyOf 1 [vi 2, vi 2] V (RE V (12)) := by
  refine Ct.of (ls := [some (vi 2), some (vi 2), none, none, none]) (plainFor_of_name (by decide +kernel)) rfl (by exact Nat.le_of_ble_eq_true rfl) (fun X hz hD => ?_)
  refine S_il1 qX0_bodyOf_0 ?_
  refine S_is2 qX0_bodyOf_1 (K := ?_)
  refine S_iconst qX0_bodyOf_2 ?_
  refine S_is3 qX0_bodyOf_3 (K := ?_)
  refine S_il3 qX0_bodyOf_4 ?_
  refine S_bipush (d := qX0_bodyOf_5) (k := ?_)
  refine S_icmp_ge (d := qX0_bodyOf_7) (kt := fun c => absurd c (by decide)) (kf := fun _ => ?_)
  refine S_il2 qX0_bodyOf_10 ?_
  refine S_if_lt (d := qX0_bodyOf_11) (kt := fun c => absurd c (by decide)) (kf := fun _ => ?_)
  refine S_il2 qX0_bodyOf_14 ?_
  refine S_bipush (d := qX0_bodyOf_15) (k := ?_)
  refine S_icmp_ge (d := qX0_bodyOf_17) (kt := fun c => absurd c (by decide)) (kf := fun _ => ?_)
  refine S_il2 qX0_bodyOf_20 ?_
  refine S_iconst qX0_bodyOf_21 ?_
  refine S_imul qX0_bodyOf_22 ?_
  refine S_il0 qX0_bodyOf_23 ?_
  refine S_iadd qX0_bodyOf_24 ?_
  refine S_is4 qX0_bodyOf_25 (K := ?_)
  refine S_il4 qX0_bodyOf_27 ?_
  refine S_if_lt (d := qX0_bodyOf_29) (kt := fun c => absurd c (by decide)) (kf := fun _ => ?_)
  refine S_il4 qX0_bodyOf_32 ?_
  refine S_gets (v := vr 221) qX0_bodyOf_34 sX0_50 (fun g2 U H h => h.2.2.1) ?_
  refine S_tlen qX0_bodyOf_37 (fun g2 U H h => ro_bodies h) ?_
  refine S_icmp_ge (d := qX0_bodyOf_38) (kt := fun c => absurd c (by decide)) (kf := fun _ => ?_)
  refine S_gets (v := vr 221) qX0_bodyOf_41 sX0_50 (fun g2 U H h => h.2.2.1) ?_
  refine S_il4 qX0_bodyOf_44 ?_
  refine S_tild (z := 0) qX0_bodyOf_46 (fun g2 U H h => ro_bodies h) (by decide) (by decide) ?_
  refine S_if_eq (d := qX0_bodyOf_47) (kt := fun _ => ?_) (kf := fun c => absurd c (by decide))
  refine S_gets (v := vr 220) qX0_bodyOf_57 sX0_53 (fun g2 U H h => h.2.1.1) ?_
  refine S_il2 qX0_bodyOf_60 ?_
  refine S_tild (z := 0) qX0_bodyOf_61 (fun g2 U H h => ro_above h) (by decide) (by decide) ?_
  refine S_is2 qX0_bodyOf_62 (K := ?_)
  refine S_inc3 qX0_bodyOf_63 (K := ?_)
  refine S_goto qX0_bodyOf_66 ?_
  refine S_il3 qX0_bodyOf_4 ?_
  refine S_bipush (d := qX0_bodyOf_5) (k := ?_)
  refine S_icmp_ge (d := qX0_bodyOf_7) (kt := fun c => absurd c (by decide)) (kf := fun _ => ?_)
  refine S_il2 qX0_bodyOf_10 ?_
  refine S_if_lt (d := qX0_bodyOf_11) (kt := fun c => absurd c (by decide)) (kf := fun _ => ?_)
  refine S_il2 qX0_bodyOf_14 ?_
  refine S_bipush (d := qX0_bodyOf_15) (k := ?_)
  refine S_icmp_ge (d := qX0_bodyOf_17) (kt := fun c => absurd c (by decide)) (kf := fun _ => ?_)
  refine S_il2 qX0_bodyOf_20 ?_
  refine S_iconst qX0_bodyOf_21 ?_
  refine S_imul qX0_bodyOf_22 ?_
  refine S_il0 qX0_bodyOf_23 ?_
  refine S_iadd qX0_bodyOf_24 ?_
  refine S_is4 qX0_bodyOf_25 (K := ?_)
  refine S_il4 qX0_bodyOf_27 ?_
  refine S_if_lt (d := qX0_bodyOf_29) (kt := fun c => absurd c (by decide)) (kf := fun _ => ?_)
  refine S_il4 qX0_bodyOf_32 ?_
  refine S_gets (v := vr 221) qX0_bodyOf_34 sX0_50 (fun g2 U H h => h.2.2.1) ?_
  refine S_tlen qX0_bodyOf_37 (fun g2 U H h => ro_bodies h) ?_
  refine S_icmp_ge (d := qX0_bodyOf_38) (kt := fun c => absurd c (by decide)) (kf := fun _ => ?_)
  refine S_gets (v := vr 221) qX0_bodyOf_41 sX0_50 (fun g2 U H h => h.2.2.1) ?_
  refine S_il4 qX0_bodyOf_44 ?_
  refine S_tild (z := 12) qX0_bodyOf_46 (fun g2 U H h => ro_bodies h) (by decide) (by decide) ?_
  refine S_if_eq (d := qX0_bodyOf_47) (kt := fun c => absurd c (by decide)) (kf := fun _ => ?_)
  refine S_gets (v := vr 221) qX0_bodyOf_50 sX0_50 (fun g2 U H h => h.2.2.1) ?_
  refine S_il4 qX0_bodyOf_53 ?_
  refine S_tild (z := 12) qX0_bodyOf_55 (fun g2 U H h => ro_bodies h) (by decide) (by decide) ?_
  refine S_iret hz qX0_bodyOf_56 ?_
  exact ⟨rfl, rfl⟩

theorem c_bodyOf_3_0 {g : GC} {V : MM} : Ct g mX0_bodyOf 1 [vi 0, vi 3] V (RE V (10)) := by
  refine Ct.of (ls := [some (vi 0), some (vi 3), none, none, none]) (plainFor_of_name (by decide +kernel)) rfl (by exact Nat.le_of_ble_eq_true rfl) (fun X hz hD => ?_)
  refine S_il1 qX0_bodyOf_0 ?_
  refine S_is2 qX0_bodyOf_1 (K := ?_)
  refine S_iconst qX0_bodyOf_2 ?_
  refine S_is3 qX0_bodyOf_3 (K := ?_)
  refine S_il3 qX0_bodyOf_4 ?_
  refine S_bipush (d := qX0_bodyOf_5) (k := ?_)
  refine S_icmp_ge (d := qX0_bodyOf_7) (kt := fun c => absurd c (by decide)) (kf := fun _ => ?_)
  refine S_il2 qX0_bodyOf_10 ?_
  refine S_if_lt (d := qX0_bodyOf_11) (kt := fun c => absurd c (by decide)) (kf := fun _ => ?_)
  refine S_il2 qX0_bodyOf_14 ?_
  refine S_bipush (d := qX0_bodyOf_15) (k := ?_)
  refine S_icmp_ge (d := qX0_bodyOf_17) (kt := fun c => absurd c (by decide)) (kf := fun _ => ?_)
  refine S_il2 qX0_bodyOf_20 ?_
  refine S_iconst qX0_bodyOf_21 ?_
  refine S_imul qX0_bodyOf_22 ?_
  refine S_il0 qX0_bodyOf_23 ?_
  refine S_iadd qX0_bodyOf_24 ?_
  refine S_is4 qX0_bodyOf_25 (K := ?_)
  refine S_il4 qX0_bodyOf_27 ?_
  refine S_if_lt (d := qX0_bodyOf_29) (kt := fun c => absurd c (by decide)) (kf := fun _ => ?_)
  refine S_il4 qX0_bodyOf_32 ?_
  refine S_gets (v := vr 221) qX0_bodyOf_34 sX0_50 (fun g2 U H h => h.2.2.1) ?_
  refine S_tlen qX0_bodyOf_37 (fun g2 U H h => ro_bodies h) ?_
  refine S_icmp_ge (d := qX0_bodyOf_38) (kt := fun c => absurd c (by decide)) (kf := fun _ => ?_)
  refine S_gets (v := vr 221) qX0_bodyOf_41 sX0_50 (fun g2 U H h => h.2.2.1) ?_
  refine S_il4 qX0_bodyOf_44 ?_
  refine S_tild (z := 0) qX0_bodyOf_46 (fun g2 U H h => ro_bodies h) (by decide) (by decide) ?_
  refine S_if_eq (d := qX0_bodyOf_47) (kt := fun _ => ?_) (kf := fun c => absurd c (by decide))
  refine S_gets (v := vr 220) qX0_bodyOf_57 sX0_53 (fun g2 U H h => h.2.1.1) ?_
  refine S_il2 qX0_bodyOf_60 ?_
  refine S_tild (z := 0) qX0_bodyOf_61 (fun g2 U H h => ro_above h) (by decide) (by decide) ?_
  refine S_is2 qX0_bodyOf_62 (K := ?_)
  refine S_inc3 qX0_bodyOf_63 (K := ?_)
  refine S_goto qX0_bodyOf_66 ?_
  refine S_il3 qX0_bodyOf_4 ?_
  refine S_bipush (d := qX0_bodyOf_5) (k := ?_)
  refine S_icmp_ge (d := qX0_bodyOf_7) (kt := fun c => absurd c (by decide)) (kf := fun _ => ?_)
  refine S_il2 qX0_bodyOf_10 ?_
  refine S_if_lt (d := qX0_bodyOf_11) (kt := fun c => absurd c (by decide)) (kf := fun _ => ?_)
  refine S_il2 qX0_bodyOf_14 ?_
  refine S_bipush (d := qX0_bodyOf_15) (k := ?_)
  refine S_icmp_ge (d := qX0_bodyOf_17) (kt := fun c => absurd c (by decide)) (kf := fun _ => ?_)
  refine S_il2 qX0_bodyOf_20 ?_
  refine S_iconst qX0_bodyOf_21 ?_
  refine S_imul qX0_bodyOf_22 ?_
  refine S_il0 qX0_bodyOf_23 ?_
  refine S_iadd qX0_bodyOf_24 ?_
  refine S_is4 qX0_bodyOf_25 (K := ?_)
  refine S_il4 qX0_bodyOf_27 ?_
  refine S_if_lt (d := qX0_bodyOf_29) (kt := fun c => absurd c (by decide)) (kf := fun _ => ?_)
  refine S_il4 qX0_bodyOf_32 ?_
  refine S_gets (v := vr 221) qX0_bodyOf_34 sX0_50 (fun g2 U H h => h.2.2.1) ?_
  refine S_tlen qX0_bodyOf_37 (fun g2 U H h => ro_bodies h) ?_
  refine S_icmp_ge (d := qX0_bodyOf_38) (kt := fun c => absurd c (by decide)) (kf := fun _ => ?_)
  refine S_gets (v := vr 221) qX0_bodyOf_41 sX0_50 (fun g2 U H h => h.2.2.1) ?_
  refine S_il4 qX0_bodyOf_44 ?_
  refine S_tild (z := 10) qX0_bodyOf_46 (fun g2 U H h => ro_bodies h) (by decide) (by decide) ?_
  refine S_if_eq (d := qX0_bodyOf_47) (kt := fun c => absurd c (by decide)) (kf := fun _ => ?_)
  refine S_gets (v := vr 221) qX0_bodyOf_50 sX0_50 (fun g2 U H h => h.2.2.1) ?_
  refine S_il4 qX0_bodyOf_53 ?_
  refine S_tild (z := 10) qX0_bodyOf_55 (fun g2 U H h => ro_bodies h) (by decide) (by decide) ?_
  refine S_iret hz qX0_bodyOf_56 ?_
  exact ⟨rfl, rfl⟩

theorem c_bodyOf_3_1 {g : GC} {V : MM} : Ct g mX0_bodyOf 1 [vi 1, vi 3] V (RE V (11)) := by
  refine Ct.of (ls := [some (vi 1), some (vi 3), none, none, none]) (plainFor_of_name (by decide +kernel)) rfl (by exact Nat.le_of_ble_eq_true rfl) (fun X hz hD => ?_)
  refine S_il1 qX0_bodyOf_0 ?_
  refine S_is2 qX0_bodyOf_1 (K := ?_)
  refine S_iconst qX0_bodyOf_2 ?_
  refine S_is3 qX0_bodyOf_3 (K := ?_)
  refine S_il3 qX0_bodyOf_4 ?_
  refine S_bipush (d := qX0_bodyOf_5) (k := ?_)
  refine S_icmp_ge (d := qX0_bodyOf_7) (kt := fun c => absurd c (by decide)) (kf := fun _ => ?_)
  refine S_il2 qX0_bodyOf_10 ?_
  refine S_if_lt (d := qX0_bodyOf_11) (kt := fun c => absurd c (by decide)) (kf := fun _ => ?_)
  refine S_il2 qX0_bodyOf_14 ?_
  refine S_bipush (d := qX0_bodyOf_15) (k := ?_)
  refine S_icmp_ge (d := qX0_bodyOf_17) (kt := fun c => absurd c (by decide)) (kf := fun _ => ?_)
  refine S_il2 qX0_bodyOf_20 ?_
  refine S_iconst qX0_bodyOf_21 ?_
  refine S_imul qX0_bodyOf_22 ?_
  refine S_il0 qX0_bodyOf_23 ?_
  refine S_iadd qX0_bodyOf_24 ?_
  refine S_is4 qX0_bodyOf_25 (K := ?_)
  refine S_il4 qX0_bodyOf_27 ?_
  refine S_if_lt (d := qX0_bodyOf_29) (kt := fun c => absurd c (by decide)) (kf := fun _ => ?_)
  refine S_il4 qX0_bodyOf_32 ?_
  refine S_gets (v := vr 221) qX0_bodyOf_34 sX0_50 (fun g2 U H h => h.2.2.1) ?_
  refine S_tlen qX0_bodyOf_37 (fun g2 U H h => ro_bodies h) ?_
  refine S_icmp_ge (d := qX0_bodyOf_38) (kt := fun c => absurd c (by decide)) (kf := fun _ => ?_)
  refine S_gets (v := vr 221) qX0_bodyOf_41 sX0_50 (fun g2 U H h => h.2.2.1) ?_
  refine S_il4 qX0_bodyOf_44 ?_
  refine S_tild (z := 0) qX0_bodyOf_46 (fun g2 U H h => ro_bodies h) (by decide) (by decide) ?_
  refine S_if_eq (d := qX0_bodyOf_47) (kt := fun _ => ?_) (kf := fun c => absurd c (by decide))
  refine S_gets (v := vr 220) qX0_bodyOf_57 sX0_53 (fun g2 U H h => h.2.1.1) ?_
  refine S_il2 qX0_bodyOf_60 ?_
  refine S_tild (z := 0) qX0_bodyOf_61 (fun g2 U H h => ro_above h) (by decide) (by decide) ?_
  refine S_is2 qX0_bodyOf_62 (K := ?_)
  refine S_inc3 qX0_bodyOf_63 (K := ?_)
  refine S_goto qX0_bodyOf_66 ?_
  refine S_il3 qX0_bodyOf_4 ?_
  refine S_bipush (d := qX0_bodyOf_5) (k := ?_)
  refine S_icmp_ge (d := qX0_bodyOf_7) (kt := fun c => absurd c (by decide)) (kf := fun _ => ?_)
  refine S_il2 qX0_bodyOf_10 ?_
  refine S_if_lt (d := qX0_bodyOf_11) (kt := fun c => absurd c (by decide)) (kf := fun _ => ?_)
  refine S_il2 qX0_bodyOf_14 ?_
  refine S_bipush (d := qX0_bodyOf_15) (k := ?_)
  refine S_icmp_ge (d := qX0_bodyOf_17) (kt := fun c => absurd c (by decide)) (kf := fun _ => ?_)
  refine S_il2 qX0_bodyOf_20 ?_
  refine S_iconst qX0_bodyOf_21 ?_
  refine S_imul qX0_bodyOf_22 ?_
  refine S_il0 qX0_bodyOf_23 ?_
  refine S_iadd qX0_bodyOf_24 ?_
  refine S_is4 qX0_bodyOf_25 (K := ?_)
  refine S_il4 qX0_bodyOf_27 ?_
  refine S_if_lt (d := qX0_bodyOf_29) (kt := fun c => absurd c (by decide)) (kf := fun _ => ?_)
  refine S_il4 qX0_bodyOf_32 ?_
  refine S_gets (v := vr 221) qX0_bodyOf_34 sX0_50 (fun g2 U H h => h.2.2.1) ?_
  refine S_tlen qX0_bodyOf_37 (fun g2 U H h => ro_bodies h) ?_
  refine S_icmp_ge (d := qX0_bodyOf_38) (kt := fun c => absurd c (by decide)) (kf := fun _ => ?_)
  refine S_gets (v := vr 221) qX0_bodyOf_41 sX0_50 (fun g2 U H h => h.2.2.1) ?_
  refine S_il4 qX0_bodyOf_44 ?_
  refine S_tild (z := 11) qX0_bodyOf_46 (fun g2 U H h => ro_bodies h) (by decide) (by decide) ?_
  refine S_if_eq (d := qX0_bodyOf_47) (kt := fun c => absurd c (by decide)) (kf := fun _ => ?_)
  refine S_gets (v := vr 221) qX0_bodyOf_50 sX0_50 (fun g2 U H h => h.2.2.1) ?_
  refine S_il4 qX0_bodyOf_53 ?_
  refine S_tild (z := 11) qX0_bodyOf_55 (fun g2 U H h => ro_bodies h) (by decide) (by decide) ?_
  refine S_iret hz qX0_bodyOf_56 ?_
  exact ⟨rfl, rfl⟩

theorem c_bodyOf_3_2 {g : GC} {V : MM} : Ct g mX0_bodyOf 1 [vi 2, vi 3] V (RE V (40)) := by
  refine Ct.of (ls := [some (vi 2), some (vi 3), none, none, none]) (plainFor_of_name (by decide +kernel)) rfl (by exact Nat.le_of_ble_eq_true rfl) (fun X hz hD => ?_)
  refine S_il1 qX0_bodyOf_0 ?_
  refine S_is2 qX0_bodyOf_1 (K := ?_)
  refine S_iconst qX0_bodyOf_2 ?_
  refine S_is3 qX0_bodyOf_3 (K := ?_)
  refine S_il3 qX0_bodyOf_4 ?_
  refine S_bipush (d := qX0_bodyOf_5) (k := ?_)
  refine S_icmp_ge (d := qX0_bodyOf_7) (kt := fun c => absurd c (by decide)) (kf := fun _ => ?_)
  refine S_il2 qX0_bodyOf_10 ?_
  refine S_if_lt (d := qX0_bodyOf_11) (kt := fun c => absurd c (by decide)) (kf := fun _ => ?_)
  refine S_il2 qX0_bodyOf_14 ?_
  refine S_bipush (d := qX0_bodyOf_15) (k := ?_)
  refine S_icmp_ge (d := qX0_bodyOf_17) (kt := fun c => absurd c (by decide)) (kf := fun _ => ?_)
  refine S_il2 qX0_bodyOf_20 ?_
  refine S_iconst qX0_bodyOf_21 ?_
  refine S_imul qX0_bodyOf_22 ?_
  refine S_il0 qX0_bodyOf_23 ?_
  refine S_iadd qX0_bodyOf_24 ?_
  refine S_is4 qX0_bodyOf_25 (K := ?_)
  refine S_il4 qX0_bodyOf_27 ?_
  refine S_if_lt (d := qX0_bodyOf_29) (kt := fun c => absurd c (by decide)) (kf := fun _ => ?_)
  refine S_il4 qX0_bodyOf_32 ?_
  refine S_gets (v := vr 221) qX0_bodyOf_34 sX0_50 (fun g2 U H h => h.2.2.1) ?_
  refine S_tlen qX0_bodyOf_37 (fun g2 U H h => ro_bodies h) ?_
  refine S_icmp_ge (d := qX0_bodyOf_38) (kt := fun c => absurd c (by decide)) (kf := fun _ => ?_)
  refine S_gets (v := vr 221) qX0_bodyOf_41 sX0_50 (fun g2 U H h => h.2.2.1) ?_
  refine S_il4 qX0_bodyOf_44 ?_
  refine S_tild (z := 40) qX0_bodyOf_46 (fun g2 U H h => ro_bodies h) (by decide) (by decide) ?_
  refine S_if_eq (d := qX0_bodyOf_47) (kt := fun c => absurd c (by decide)) (kf := fun _ => ?_)
  refine S_gets (v := vr 221) qX0_bodyOf_50 sX0_50 (fun g2 U H h => h.2.2.1) ?_
  refine S_il4 qX0_bodyOf_53 ?_
  refine S_tild (z := 40) qX0_bodyOf_55 (fun g2 U H h => ro_bodies h) (by decide) (by decide) ?_
  refine S_iret hz qX0_bodyOf_56 ?_
  exact ⟨rfl, rfl⟩

theorem c_bodyOf_4_0 {g : GC} {V : MM} : Ct g mX0_bodyOf 1 [vi 0, vi 4] V (RE V (50)) := by
  refine Ct.of (ls := [some (vi 0), some (vi 4), none, none, none]) (plainFor_of_name (by decide +kernel)) rfl (by exact Nat.le_of_ble_eq_true rfl) (fun X hz hD => ?_)
  refine S_il1 qX0_bodyOf_0 ?_
  refine S_is2 qX0_bodyOf_1 (K := ?_)
  refine S_iconst qX0_bodyOf_2 ?_
  refine S_is3 qX0_bodyOf_3 (K := ?_)
  refine S_il3 qX0_bodyOf_4 ?_
  refine S_bipush (d := qX0_bodyOf_5) (k := ?_)
  refine S_icmp_ge (d := qX0_bodyOf_7) (kt := fun c => absurd c (by decide)) (kf := fun _ => ?_)
  refine S_il2 qX0_bodyOf_10 ?_
  refine S_if_lt (d := qX0_bodyOf_11) (kt := fun c => absurd c (by decide)) (kf := fun _ => ?_)
  refine S_il2 qX0_bodyOf_14 ?_
  refine S_bipush (d := qX0_bodyOf_15) (k := ?_)
  refine S_icmp_ge (d := qX0_bodyOf_17) (kt := fun c => absurd c (by decide)) (kf := fun _ => ?_)
  refine S_il2 qX0_bodyOf_20 ?_
  refine S_iconst qX0_bodyOf_21 ?_
  refine S_imul qX0_bodyOf_22 ?_
  refine S_il0 qX0_bodyOf_23 ?_
  refine S_iadd qX0_bodyOf_24 ?_
  refine S_is4 qX0_bodyOf_25 (K := ?_)
  refine S_il4 qX0_bodyOf_27 ?_
  refine S_if_lt (d := qX0_bodyOf_29) (kt := fun c => absurd c (by decide)) (kf := fun _ => ?_)
  refine S_il4 qX0_bodyOf_32 ?_
  refine S_gets (v := vr 221) qX0_bodyOf_34 sX0_50 (fun g2 U H h => h.2.2.1) ?_
  refine S_tlen qX0_bodyOf_37 (fun g2 U H h => ro_bodies h) ?_
  refine S_icmp_ge (d := qX0_bodyOf_38) (kt := fun c => absurd c (by decide)) (kf := fun _ => ?_)
  refine S_gets (v := vr 221) qX0_bodyOf_41 sX0_50 (fun g2 U H h => h.2.2.1) ?_
  refine S_il4 qX0_bodyOf_44 ?_
  refine S_tild (z := 50) qX0_bodyOf_46 (fun g2 U H h => ro_bodies h) (by decide) (by decide) ?_
  refine S_if_eq (d := qX0_bodyOf_47) (kt := fun c => absurd c (by decide)) (kf := fun _ => ?_)
  refine S_gets (v := vr 221) qX0_bodyOf_50 sX0_50 (fun g2 U H h => h.2.2.1) ?_
  refine S_il4 qX0_bodyOf_53 ?_
  refine S_tild (z := 50) qX0_bodyOf_55 (fun g2 U H h => ro_bodies h) (by decide) (by decide) ?_
  refine S_iret hz qX0_bodyOf_56 ?_
  exact ⟨rfl, rfl⟩

theorem c_bodyOf_4_1 {g : GC} {V : MM} : Ct g mX0_bodyOf 1 [vi 1, vi 4] V (RE V (51)) := by
  refine Ct.of (ls := [some (vi 1), some (vi 4), none, none, none]) (plainFor_of_name (by decide +kernel)) rfl (by exact Nat.le_of_ble_eq_true rfl) (fun X hz hD => ?_)
  refine S_il1 qX0_bodyOf_0 ?_
  refine S_is2 qX0_bodyOf_1 (K := ?_)
  refine S_iconst qX0_bodyOf_2 ?_
  refine S_is3 qX0_bodyOf_3 (K := ?_)
  refine S_il3 qX0_bodyOf_4 ?_
  refine S_bipush (d := qX0_bodyOf_5) (k := ?_)
  refine S_icmp_ge (d := qX0_bodyOf_7) (kt := fun c => absurd c (by decide)) (kf := fun _ => ?_)
  refine S_il2 qX0_bodyOf_10 ?_
  refine S_if_lt (d := qX0_bodyOf_11) (kt := fun c => absurd c (by decide)) (kf := fun _ => ?_)
  refine S_il2 qX0_bodyOf_14 ?_
  refine S_bipush (d := qX0_bodyOf_15) (k := ?_)
  refine S_icmp_ge (d := qX0_bodyOf_17) (kt := fun c => absurd c (by decide)) (kf := fun _ => ?_)
  refine S_il2 qX0_bodyOf_20 ?_
  refine S_iconst qX0_bodyOf_21 ?_
  refine S_imul qX0_bodyOf_22 ?_
  refine S_il0 qX0_bodyOf_23 ?_
  refine S_iadd qX0_bodyOf_24 ?_
  refine S_is4 qX0_bodyOf_25 (K := ?_)
  refine S_il4 qX0_bodyOf_27 ?_
  refine S_if_lt (d := qX0_bodyOf_29) (kt := fun c => absurd c (by decide)) (kf := fun _ => ?_)
  refine S_il4 qX0_bodyOf_32 ?_
  refine S_gets (v := vr 221) qX0_bodyOf_34 sX0_50 (fun g2 U H h => h.2.2.1) ?_
  refine S_tlen qX0_bodyOf_37 (fun g2 U H h => ro_bodies h) ?_
  refine S_icmp_ge (d := qX0_bodyOf_38) (kt := fun c => absurd c (by decide)) (kf := fun _ => ?_)
  refine S_gets (v := vr 221) qX0_bodyOf_41 sX0_50 (fun g2 U H h => h.2.2.1) ?_
  refine S_il4 qX0_bodyOf_44 ?_
  refine S_tild (z := 51) qX0_bodyOf_46 (fun g2 U H h => ro_bodies h) (by decide) (by decide) ?_
  refine S_if_eq (d := qX0_bodyOf_47) (kt := fun c => absurd c (by decide)) (kf := fun _ => ?_)
  refine S_gets (v := vr 221) qX0_bodyOf_50 sX0_50 (fun g2 U H h => h.2.2.1) ?_
  refine S_il4 qX0_bodyOf_53 ?_
  refine S_tild (z := 51) qX0_bodyOf_55 (fun g2 U H h => ro_bodies h) (by decide) (by decide) ?_
  refine S_iret hz qX0_bodyOf_56 ?_
  exact ⟨rfl, rfl⟩

theorem c_bodyOf_4_2 {g : GC} {V : MM} : Ct g mX0_bodyOf 1 [vi 2, vi 4] V (RE V (12)) := by
  refine Ct.of (ls := [some (vi 2), some (vi 4), none, none, none]) (plainFor_of_name (by decide +kernel)) rfl (by exact Nat.le_of_ble_eq_true rfl) (fun X hz hD => ?_)
  refine S_il1 qX0_bodyOf_0 ?_
  refine S_is2 qX0_bodyOf_1 (K := ?_)
  refine S_iconst qX0_bodyOf_2 ?_
  refine S_is3 qX0_bodyOf_3 (K := ?_)
  refine S_il3 qX0_bodyOf_4 ?_
  refine S_bipush (d := qX0_bodyOf_5) (k := ?_)
  refine S_icmp_ge (d := qX0_bodyOf_7) (kt := fun c => absurd c (by decide)) (kf := fun _ => ?_)
  refine S_il2 qX0_bodyOf_10 ?_
  refine S_if_lt (d := qX0_bodyOf_11) (kt := fun c => absurd c (by decide)) (kf := fun _ => ?_)
  refine S_il2 qX0_bodyOf_14 ?_
  refine S_bipush (d := qX0_bodyOf_15) (k := ?_)
  refine S_icmp_ge (d := qX0_bodyOf_17) (kt := fun c => absurd c (by decide)) (kf := fun _ => ?_)
  refine S_il2 qX0_bodyOf_20 ?_
  refine S_iconst qX0_bodyOf_21 ?_
  refine S_imul qX0_bodyOf_22 ?_
  refine S_il0 qX0_bodyOf_23 ?_
  refine S_iadd qX0_bodyOf_24 ?_
  refine S_is4 qX0_bodyOf_25 (K := ?_)
  refine S_il4 qX0_bodyOf_27 ?_
  refine S_if_lt (d := qX0_bodyOf_29) (kt := fun c => absurd c (by decide)) (kf := fun _ => ?_)
  refine S_il4 qX0_bodyOf_32 ?_
  refine S_gets (v := vr 221) qX0_bodyOf_34 sX0_50 (fun g2 U H h => h.2.2.1) ?_
  refine S_tlen qX0_bodyOf_37 (fun g2 U H h => ro_bodies h) ?_
  refine S_icmp_ge (d := qX0_bodyOf_38) (kt := fun c => absurd c (by decide)) (kf := fun _ => ?_)
  refine S_gets (v := vr 221) qX0_bodyOf_41 sX0_50 (fun g2 U H h => h.2.2.1) ?_
  refine S_il4 qX0_bodyOf_44 ?_
  refine S_tild (z := 0) qX0_bodyOf_46 (fun g2 U H h => ro_bodies h) (by decide) (by decide) ?_
  refine S_if_eq (d := qX0_bodyOf_47) (kt := fun _ => ?_) (kf := fun c => absurd c (by decide))
  refine S_gets (v := vr 220) qX0_bodyOf_57 sX0_53 (fun g2 U H h => h.2.1.1) ?_
  refine S_il2 qX0_bodyOf_60 ?_
  refine S_tild (z := 1) qX0_bodyOf_61 (fun g2 U H h => ro_above h) (by decide) (by decide) ?_
  refine S_is2 qX0_bodyOf_62 (K := ?_)
  refine S_inc3 qX0_bodyOf_63 (K := ?_)
  refine S_goto qX0_bodyOf_66 ?_
  refine S_il3 qX0_bodyOf_4 ?_
  refine S_bipush (d := qX0_bodyOf_5) (k := ?_)
  refine S_icmp_ge (d := qX0_bodyOf_7) (kt := fun c => absurd c (by decide)) (kf := fun _ => ?_)
  refine S_il2 qX0_bodyOf_10 ?_
  refine S_if_lt (d := qX0_bodyOf_11) (kt := fun c => absurd c (by decide)) (kf := fun _ => ?_)
  refine S_il2 qX0_bodyOf_14 ?_
  refine S_bipush (d := qX0_bodyOf_15) (k := ?_)
  refine S_icmp_ge (d := qX0_bodyOf_17) (kt := fun c => absurd c (by decide)) (kf := fun _ => ?_)
  refine S_il2 qX0_bodyOf_20 ?_
  refine S_iconst qX0_bodyOf_21 ?_
  refine S_imul qX0_bodyOf_22 ?_
  refine S_il0 qX0_bodyOf_23 ?_
  refine S_iadd qX0_bodyOf_24 ?_
  refine S_is4 qX0_bodyOf_25 (K := ?_)
  refine S_il4 qX0_bodyOf_27 ?_
  refine S_if_lt (d := qX0_bodyOf_29) (kt := fun c => absurd c (by decide)) (kf := fun _ => ?_)
  refine S_il4 qX0_bodyOf_32 ?_
  refine S_gets (v := vr 221) qX0_bodyOf_34 sX0_50 (fun g2 U H h => h.2.2.1) ?_
  refine S_tlen qX0_bodyOf_37 (fun g2 U H h => ro_bodies h) ?_
  refine S_icmp_ge (d := qX0_bodyOf_38) (kt := fun c => absurd c (by decide)) (kf := fun _ => ?_)
  refine S_gets (v := vr 221) qX0_bodyOf_41 sX0_50 (fun g2 U H h => h.2.2.1) ?_
  refine S_il4 qX0_bodyOf_44 ?_
  refine S_tild (z := 0) qX0_bodyOf_46 (fun g2 U H h => ro_bodies h) (by decide) (by decide) ?_
  refine S_if_eq (d := qX0_bodyOf_47) (kt := fun _ => ?_) (kf := fun c => absurd c (by decide))
  refine S_gets (v := vr 220) qX0_bodyOf_57 sX0_53 (fun g2 U H h => h.2.1.1) ?_
  refine S_il2 qX0_bodyOf_60 ?_
  refine S_tild (z := 0) qX0_bodyOf_61 (fun g2 U H h => ro_above h) (by decide) (by decide) ?_
  refine S_is2 qX0_bodyOf_62 (K := ?_)
  refine S_inc3 qX0_bodyOf_63 (K := ?_)
  refine S_goto qX0_bodyOf_66 ?_
  refine S_il3 qX0_bodyOf_4 ?_
  refine S_bipush (d := qX0_bodyOf_5) (k := ?_)
  refine S_icmp_ge (d := qX0_bodyOf_7) (kt := fun c => absurd c (by decide)) (kf := fun _ => ?_)
  refine S_il2 qX0_bodyOf_10 ?_
  refine S_if_lt (d := qX0_bodyOf_11) (kt := fun c => absurd c (by decide)) (kf := fun _ => ?_)
  refine S_il2 qX0_bodyOf_14 ?_
  refine S_bipush (d := qX0_bodyOf_15) (k := ?_)
  refine S_icmp_ge (d := qX0_bodyOf_17) (kt := fun c => absurd c (by decide)) (kf := fun _ => ?_)
  refine S_il2 qX0_bodyOf_20 ?_
  refine S_iconst qX0_bodyOf_21 ?_
  refine S_imul qX0_bodyOf_22 ?_
  refine S_il0 qX0_bodyOf_23 ?_
  refine S_iadd qX0_bodyOf_24 ?_
  refine S_is4 qX0_bodyOf_25 (K := ?_)
  refine S_il4 qX0_bodyOf_27 ?_
  refine S_if_lt (d := qX0_bodyOf_29) (kt := fun c => absurd c (by decide)) (kf := fun _ => ?_)
  refine S_il4 qX0_bodyOf_32 ?_
  refine S_gets (v := vr 221) qX0_bodyOf_34 sX0_50 (fun g2 U H h => h.2.2.1) ?_
  refine S_tlen qX0_bodyOf_37 (fun g2 U H h => ro_bodies h) ?_
  refine S_icmp_ge (d := qX0_bodyOf_38) (kt := fun c => absurd c (by decide)) (kf := fun _ => ?_)
  refine S_gets (v := vr 221) qX0_bodyOf_41 sX0_50 (fun g2 U H h => h.2.2.1) ?_
  refine S_il4 qX0_bodyOf_44 ?_
  refine S_tild (z := 12) qX0_bodyOf_46 (fun g2 U H h => ro_bodies h) (by decide) (by decide) ?_
  refine S_if_eq (d := qX0_bodyOf_47) (kt := fun c => absurd c (by decide)) (kf := fun _ => ?_)
  refine S_gets (v := vr 221) qX0_bodyOf_50 sX0_50 (fun g2 U H h => h.2.2.1) ?_
  refine S_il4 qX0_bodyOf_53 ?_
  refine S_tild (z := 12) qX0_bodyOf_55 (fun g2 U H h => ro_bodies h) (by decide) (by decide) ?_
  refine S_iret hz qX0_bodyOf_56 ?_
  exact ⟨rfl, rfl⟩

theorem c_bodyOf_5_0 {g : GC} {V : MM} : Ct g mX0_bodyOf 1 [vi 0, vi 5] V (RE V (30)) := by
  refine Ct.of (ls := [some (vi 0), some (vi 5), none, none, none]) (plainFor_of_name (by decide +kernel)) rfl (by exact Nat.le_of_ble_eq_true rfl) (fun X hz hD => ?_)
  refine S_il1 qX0_bodyOf_0 ?_
  refine S_is2 qX0_bodyOf_1 (K := ?_)
  refine S_iconst qX0_bodyOf_2 ?_
  refine S_is3 qX0_bodyOf_3 (K := ?_)
  refine S_il3 qX0_bodyOf_4 ?_
  refine S_bipush (d := qX0_bodyOf_5) (k := ?_)
  refine S_icmp_ge (d := qX0_bodyOf_7) (kt := fun c => absurd c (by decide)) (kf := fun _ => ?_)
  refine S_il2 qX0_bodyOf_10 ?_
  refine S_if_lt (d := qX0_bodyOf_11) (kt := fun c => absurd c (by decide)) (kf := fun _ => ?_)
  refine S_il2 qX0_bodyOf_14 ?_
  refine S_bipush (d := qX0_bodyOf_15) (k := ?_)
  refine S_icmp_ge (d := qX0_bodyOf_17) (kt := fun c => absurd c (by decide)) (kf := fun _ => ?_)
  refine S_il2 qX0_bodyOf_20 ?_
  refine S_iconst qX0_bodyOf_21 ?_
  refine S_imul qX0_bodyOf_22 ?_
  refine S_il0 qX0_bodyOf_23 ?_
  refine S_iadd qX0_bodyOf_24 ?_
  refine S_is4 qX0_bodyOf_25 (K := ?_)
  refine S_il4 qX0_bodyOf_27 ?_
  refine S_if_lt (d := qX0_bodyOf_29) (kt := fun c => absurd c (by decide)) (kf := fun _ => ?_)
  refine S_il4 qX0_bodyOf_32 ?_
  refine S_gets (v := vr 221) qX0_bodyOf_34 sX0_50 (fun g2 U H h => h.2.2.1) ?_
  refine S_tlen qX0_bodyOf_37 (fun g2 U H h => ro_bodies h) ?_
  refine S_icmp_ge (d := qX0_bodyOf_38) (kt := fun c => absurd c (by decide)) (kf := fun _ => ?_)
  refine S_gets (v := vr 221) qX0_bodyOf_41 sX0_50 (fun g2 U H h => h.2.2.1) ?_
  refine S_il4 qX0_bodyOf_44 ?_
  refine S_tild (z := 0) qX0_bodyOf_46 (fun g2 U H h => ro_bodies h) (by decide) (by decide) ?_
  refine S_if_eq (d := qX0_bodyOf_47) (kt := fun _ => ?_) (kf := fun c => absurd c (by decide))
  refine S_gets (v := vr 220) qX0_bodyOf_57 sX0_53 (fun g2 U H h => h.2.1.1) ?_
  refine S_il2 qX0_bodyOf_60 ?_
  refine S_tild (z := 2) qX0_bodyOf_61 (fun g2 U H h => ro_above h) (by decide) (by decide) ?_
  refine S_is2 qX0_bodyOf_62 (K := ?_)
  refine S_inc3 qX0_bodyOf_63 (K := ?_)
  refine S_goto qX0_bodyOf_66 ?_
  refine S_il3 qX0_bodyOf_4 ?_
  refine S_bipush (d := qX0_bodyOf_5) (k := ?_)
  refine S_icmp_ge (d := qX0_bodyOf_7) (kt := fun c => absurd c (by decide)) (kf := fun _ => ?_)
  refine S_il2 qX0_bodyOf_10 ?_
  refine S_if_lt (d := qX0_bodyOf_11) (kt := fun c => absurd c (by decide)) (kf := fun _ => ?_)
  refine S_il2 qX0_bodyOf_14 ?_
  refine S_bipush (d := qX0_bodyOf_15) (k := ?_)
  refine S_icmp_ge (d := qX0_bodyOf_17) (kt := fun c => absurd c (by decide)) (kf := fun _ => ?_)
  refine S_il2 qX0_bodyOf_20 ?_
  refine S_iconst qX0_bodyOf_21 ?_
  refine S_imul qX0_bodyOf_22 ?_
  refine S_il0 qX0_bodyOf_23 ?_
  refine S_iadd qX0_bodyOf_24 ?_
  refine S_is4 qX0_bodyOf_25 (K := ?_)
  refine S_il4 qX0_bodyOf_27 ?_
  refine S_if_lt (d := qX0_bodyOf_29) (kt := fun c => absurd c (by decide)) (kf := fun _ => ?_)
  refine S_il4 qX0_bodyOf_32 ?_
  refine S_gets (v := vr 221) qX0_bodyOf_34 sX0_50 (fun g2 U H h => h.2.2.1) ?_
  refine S_tlen qX0_bodyOf_37 (fun g2 U H h => ro_bodies h) ?_
  refine S_icmp_ge (d := qX0_bodyOf_38) (kt := fun c => absurd c (by decide)) (kf := fun _ => ?_)
  refine S_gets (v := vr 221) qX0_bodyOf_41 sX0_50 (fun g2 U H h => h.2.2.1) ?_
  refine S_il4 qX0_bodyOf_44 ?_
  refine S_tild (z := 30) qX0_bodyOf_46 (fun g2 U H h => ro_bodies h) (by decide) (by decide) ?_
  refine S_if_eq (d := qX0_bodyOf_47) (kt := fun c => absurd c (by decide)) (kf := fun _ => ?_)
  refine S_gets (v := vr 221) qX0_bodyOf_50 sX0_50 (fun g2 U H h => h.2.2.1) ?_
  refine S_il4 qX0_bodyOf_53 ?_
  refine S_tild (z := 30) qX0_bodyOf_55 (fun g2 U H h => ro_bodies h) (by decide) (by decide) ?_
  refine S_iret hz qX0_bodyOf_56 ?_
  exact ⟨rfl, rfl⟩

theorem c_bodyOf_5_1 {g : GC} {V : MM} : Ct g mX0_bodyOf 1 [vi 1, vi 5] V (RE V (11)) := by
  refine Ct.of (ls := [some (vi 1), some (vi 5), none, none, none]) (plainFor_of_name (by decide +kernel)) rfl (by exact Nat.le_of_ble_eq_true rfl) (fun X hz hD => ?_)
  refine S_il1 qX0_bodyOf_0 ?_
  refine S_is2 qX0_bodyOf_1 (K := ?_)
  refine S_iconst qX0_bodyOf_2 ?_
  refine S_is3 qX0_bodyOf_3 (K := ?_)
  refine S_il3 qX0_bodyOf_4 ?_
  refine S_bipush (d := qX0_bodyOf_5) (k := ?_)
  refine S_icmp_ge (d := qX0_bodyOf_7) (kt := fun c => absurd c (by decide)) (kf := fun _ => ?_)
  refine S_il2 qX0_bodyOf_10 ?_
  refine S_if_lt (d := qX0_bodyOf_11) (kt := fun c => absurd c (by decide)) (kf := fun _ => ?_)
  refine S_il2 qX0_bodyOf_14 ?_
  refine S_bipush (d := qX0_bodyOf_15) (k := ?_)
  refine S_icmp_ge (d := qX0_bodyOf_17) (kt := fun c => absurd c (by decide)) (kf := fun _ => ?_)
  refine S_il2 qX0_bodyOf_20 ?_
  refine S_iconst qX0_bodyOf_21 ?_
  refine S_imul qX0_bodyOf_22 ?_
  refine S_il0 qX0_bodyOf_23 ?_
  refine S_iadd qX0_bodyOf_24 ?_
  refine S_is4 qX0_bodyOf_25 (K := ?_)
  refine S_il4 qX0_bodyOf_27 ?_
  refine S_if_lt (d := qX0_bodyOf_29) (kt := fun c => absurd c (by decide)) (kf := fun _ => ?_)
  refine S_il4 qX0_bodyOf_32 ?_
  refine S_gets (v := vr 221) qX0_bodyOf_34 sX0_50 (fun g2 U H h => h.2.2.1) ?_
  refine S_tlen qX0_bodyOf_37 (fun g2 U H h => ro_bodies h) ?_
  refine S_icmp_ge (d := qX0_bodyOf_38) (kt := fun c => absurd c (by decide)) (kf := fun _ => ?_)
  refine S_gets (v := vr 221) qX0_bodyOf_41 sX0_50 (fun g2 U H h => h.2.2.1) ?_
  refine S_il4 qX0_bodyOf_44 ?_
  refine S_tild (z := 0) qX0_bodyOf_46 (fun g2 U H h => ro_bodies h) (by decide) (by decide) ?_
  refine S_if_eq (d := qX0_bodyOf_47) (kt := fun _ => ?_) (kf := fun c => absurd c (by decide))
  refine S_gets (v := vr 220) qX0_bodyOf_57 sX0_53 (fun g2 U H h => h.2.1.1) ?_
  refine S_il2 qX0_bodyOf_60 ?_
  refine S_tild (z := 2) qX0_bodyOf_61 (fun g2 U H h => ro_above h) (by decide) (by decide) ?_
  refine S_is2 qX0_bodyOf_62 (K := ?_)
  refine S_inc3 qX0_bodyOf_63 (K := ?_)
  refine S_goto qX0_bodyOf_66 ?_
  refine S_il3 qX0_bodyOf_4 ?_
  refine S_bipush (d := qX0_bodyOf_5) (k := ?_)
  refine S_icmp_ge (d := qX0_bodyOf_7) (kt := fun c => absurd c (by decide)) (kf := fun _ => ?_)
  refine S_il2 qX0_bodyOf_10 ?_
  refine S_if_lt (d := qX0_bodyOf_11) (kt := fun c => absurd c (by decide)) (kf := fun _ => ?_)
  refine S_il2 qX0_bodyOf_14 ?_
  refine S_bipush (d := qX0_bodyOf_15) (k := ?_)
  refine S_icmp_ge (d := qX0_bodyOf_17) (kt := fun c => absurd c (by decide)) (kf := fun _ => ?_)
  refine S_il2 qX0_bodyOf_20 ?_
  refine S_iconst qX0_bodyOf_21 ?_
  refine S_imul qX0_bodyOf_22 ?_
  refine S_il0 qX0_bodyOf_23 ?_
  refine S_iadd qX0_bodyOf_24 ?_
  refine S_is4 qX0_bodyOf_25 (K := ?_)
  refine S_il4 qX0_bodyOf_27 ?_
  refine S_if_lt (d := qX0_bodyOf_29) (kt := fun c => absurd c (by decide)) (kf := fun _ => ?_)
  refine S_il4 qX0_bodyOf_32 ?_
  refine S_gets (v := vr 221) qX0_bodyOf_34 sX0_50 (fun g2 U H h => h.2.2.1) ?_
  refine S_tlen qX0_bodyOf_37 (fun g2 U H h => ro_bodies h) ?_
  refine S_icmp_ge (d := qX0_bodyOf_38) (kt := fun c => absurd c (by decide)) (kf := fun _ => ?_)
  refine S_gets (v := vr 221) qX0_bodyOf_41 sX0_50 (fun g2 U H h => h.2.2.1) ?_
  refine S_il4 qX0_bodyOf_44 ?_
  refine S_tild (z := 0) qX0_bodyOf_46 (fun g2 U H h => ro_bodies h) (by decide) (by decide) ?_
  refine S_if_eq (d := qX0_bodyOf_47) (kt := fun _ => ?_) (kf := fun c => absurd c (by decide))
  refine S_gets (v := vr 220) qX0_bodyOf_57 sX0_53 (fun g2 U H h => h.2.1.1) ?_
  refine S_il2 qX0_bodyOf_60 ?_
  refine S_tild (z := 0) qX0_bodyOf_61 (fun g2 U H h => ro_above h) (by decide) (by decide) ?_
  refine S_is2 qX0_bodyOf_62 (K := ?_)
  refine S_inc3 qX0_bodyOf_63 (K := ?_)
  refine S_goto qX0_bodyOf_66 ?_
  refine S_il3 qX0_bodyOf_4 ?_
  refine S_bipush (d := qX0_bodyOf_5) (k := ?_)
  refine S_icmp_ge (d := qX0_bodyOf_7) (kt := fun c => absurd c (by decide)) (kf := fun _ => ?_)
  refine S_il2 qX0_bodyOf_10 ?_
  refine S_if_lt (d := qX0_bodyOf_11) (kt := fun c => absurd c (by decide)) (kf := fun _ => ?_)
  refine S_il2 qX0_bodyOf_14 ?_
  refine S_bipush (d := qX0_bodyOf_15) (k := ?_)
  refine S_icmp_ge (d := qX0_bodyOf_17) (kt := fun c => absurd c (by decide)) (kf := fun _ => ?_)
  refine S_il2 qX0_bodyOf_20 ?_
  refine S_iconst qX0_bodyOf_21 ?_
  refine S_imul qX0_bodyOf_22 ?_
  refine S_il0 qX0_bodyOf_23 ?_
  refine S_iadd qX0_bodyOf_24 ?_
  refine S_is4 qX0_bodyOf_25 (K := ?_)
  refine S_il4 qX0_bodyOf_27 ?_
  refine S_if_lt (d := qX0_bodyOf_29) (kt := fun c => absurd c (by decide)) (kf := fun _ => ?_)
  refine S_il4 qX0_bodyOf_32 ?_
  refine S_gets (v := vr 221) qX0_bodyOf_34 sX0_50 (fun g2 U H h => h.2.2.1) ?_
  refine S_tlen qX0_bodyOf_37 (fun g2 U H h => ro_bodies h) ?_
  refine S_icmp_ge (d := qX0_bodyOf_38) (kt := fun c => absurd c (by decide)) (kf := fun _ => ?_)
  refine S_gets (v := vr 221) qX0_bodyOf_41 sX0_50 (fun g2 U H h => h.2.2.1) ?_
  refine S_il4 qX0_bodyOf_44 ?_
  refine S_tild (z := 11) qX0_bodyOf_46 (fun g2 U H h => ro_bodies h) (by decide) (by decide) ?_
  refine S_if_eq (d := qX0_bodyOf_47) (kt := fun c => absurd c (by decide)) (kf := fun _ => ?_)
  refine S_gets (v := vr 221) qX0_bodyOf_50 sX0_50 (fun g2 U H h => h.2.2.1) ?_
  refine S_il4 qX0_bodyOf_53 ?_
  refine S_tild (z := 11) qX0_bodyOf_55 (fun g2 U H h => ro_bodies h) (by decide) (by decide) ?_
  refine S_iret hz qX0_bodyOf_56 ?_
  exact ⟨rfl, rfl⟩

theorem c_bodyOf_5_2 {g : GC} {V : MM} : Ct g mX0_bodyOf 1 [vi 2, vi 5] V (RE V (60)) := by
  refine Ct.of (ls := [some (vi 2), some (vi 5), none, none, none]) (plainFor_of_name (by decide +kernel)) rfl (by exact Nat.le_of_ble_eq_true rfl) (fun X hz hD => ?_)
  refine S_il1 qX0_bodyOf_0 ?_
  refine S_is2 qX0_bodyOf_1 (K := ?_)
  refine S_iconst qX0_bodyOf_2 ?_
  refine S_is3 qX0_bodyOf_3 (K := ?_)
  refine S_il3 qX0_bodyOf_4 ?_
  refine S_bipush (d := qX0_bodyOf_5) (k := ?_)
  refine S_icmp_ge (d := qX0_bodyOf_7) (kt := fun c => absurd c (by decide)) (kf := fun _ => ?_)
  refine S_il2 qX0_bodyOf_10 ?_
  refine S_if_lt (d := qX0_bodyOf_11) (kt := fun c => absurd c (by decide)) (kf := fun _ => ?_)
  refine S_il2 qX0_bodyOf_14 ?_
  refine S_bipush (d := qX0_bodyOf_15) (k := ?_)
  refine S_icmp_ge (d := qX0_bodyOf_17) (kt := fun c => absurd c (by decide)) (kf := fun _ => ?_)
  refine S_il2 qX0_bodyOf_20 ?_
  refine S_iconst qX0_bodyOf_21 ?_
  refine S_imul qX0_bodyOf_22 ?_
  refine S_il0 qX0_bodyOf_23 ?_
  refine S_iadd qX0_bodyOf_24 ?_
  refine S_is4 qX0_bodyOf_25 (K := ?_)
  refine S_il4 qX0_bodyOf_27 ?_
  refine S_if_lt (d := qX0_bodyOf_29) (kt := fun c => absurd c (by decide)) (kf := fun _ => ?_)
  refine S_il4 qX0_bodyOf_32 ?_
  refine S_gets (v := vr 221) qX0_bodyOf_34 sX0_50 (fun g2 U H h => h.2.2.1) ?_
  refine S_tlen qX0_bodyOf_37 (fun g2 U H h => ro_bodies h) ?_
  refine S_icmp_ge (d := qX0_bodyOf_38) (kt := fun c => absurd c (by decide)) (kf := fun _ => ?_)
  refine S_gets (v := vr 221) qX0_bodyOf_41 sX0_50 (fun g2 U H h => h.2.2.1) ?_
  refine S_il4 qX0_bodyOf_44 ?_
  refine S_tild (z := 60) qX0_bodyOf_46 (fun g2 U H h => ro_bodies h) (by decide) (by decide) ?_
  refine S_if_eq (d := qX0_bodyOf_47) (kt := fun c => absurd c (by decide)) (kf := fun _ => ?_)
  refine S_gets (v := vr 221) qX0_bodyOf_50 sX0_50 (fun g2 U H h => h.2.2.1) ?_
  refine S_il4 qX0_bodyOf_53 ?_
  refine S_tild (z := 60) qX0_bodyOf_55 (fun g2 U H h => ro_bodies h) (by decide) (by decide) ?_
  refine S_iret hz qX0_bodyOf_56 ?_
  exact ⟨rfl, rfl⟩

theorem c_bodyOf_6_0 {g : GC} {V : MM} : Ct g mX0_bodyOf 1 [vi 0, vi 6] V (RE V (71)) := by
  refine Ct.of (ls := [some (vi 0), some (vi 6), none, none, none]) (plainFor_of_name (by decide +kernel)) rfl (by exact Nat.le_of_ble_eq_true rfl) (fun X hz hD => ?_)
  refine S_il1 qX0_bodyOf_0 ?_
  refine S_is2 qX0_bodyOf_1 (K := ?_)
  refine S_iconst qX0_bodyOf_2 ?_
  refine S_is3 qX0_bodyOf_3 (K := ?_)
  refine S_il3 qX0_bodyOf_4 ?_
  refine S_bipush (d := qX0_bodyOf_5) (k := ?_)
  refine S_icmp_ge (d := qX0_bodyOf_7) (kt := fun c => absurd c (by decide)) (kf := fun _ => ?_)
  refine S_il2 qX0_bodyOf_10 ?_
  refine S_if_lt (d := qX0_bodyOf_11) (kt := fun c => absurd c (by decide)) (kf := fun _ => ?_)
  refine S_il2 qX0_bodyOf_14 ?_
  refine S_bipush (d := qX0_bodyOf_15) (k := ?_)
  refine S_icmp_ge (d := qX0_bodyOf_17) (kt := fun c => absurd c (by decide)) (kf := fun _ => ?_)
  refine S_il2 qX0_bodyOf_20 ?_
  refine S_iconst qX0_bodyOf_21 ?_
  refine S_imul qX0_bodyOf_22 ?_
  refine S_il0 qX0_bodyOf_23 ?_
  refine S_iadd qX0_bodyOf_24 ?_
  refine S_is4 qX0_bodyOf_25 (K := ?_)
  refine S_il4 qX0_bodyOf_27 ?_
  refine S_if_lt (d := qX0_bodyOf_29) (kt := fun c => absurd c (by decide)) (kf := fun _ => ?_)
  refine S_il4 qX0_bodyOf_32 ?_
  refine S_gets (v := vr 221) qX0_bodyOf_34 sX0_50 (fun g2 U H h => h.2.2.1) ?_
  refine S_tlen qX0_bodyOf_37 (fun g2 U H h => ro_bodies h) ?_
  refine S_icmp_ge (d := qX0_bodyOf_38) (kt := fun c => absurd c (by decide)) (kf := fun _ => ?_)
  refine S_gets (v := vr 221) qX0_bodyOf_41 sX0_50 (fun g2 U H h => h.2.2.1) ?_
  refine S_il4 qX0_bodyOf_44 ?_
  refine S_tild (z := 71) qX0_bodyOf_46 (fun g2 U H h => ro_bodies h) (by decide) (by decide) ?_
  refine S_if_eq (d := qX0_bodyOf_47) (kt := fun c => absurd c (by decide)) (kf := fun _ => ?_)
  refine S_gets (v := vr 221) qX0_bodyOf_50 sX0_50 (fun g2 U H h => h.2.2.1) ?_
  refine S_il4 qX0_bodyOf_53 ?_
  refine S_tild (z := 71) qX0_bodyOf_55 (fun g2 U H h => ro_bodies h) (by decide) (by decide) ?_
  refine S_iret hz qX0_bodyOf_56 ?_
  exact ⟨rfl, rfl⟩

theorem c_bodyOf_6_1 {g : GC} {V : MM} : Ct g mX0_bodyOf 1 [vi 1, vi 6] V (RE V (70)) := by
  refine Ct.of (ls := [some (vi 1), some (vi 6), none, none, none]) (plainFor_of_name (by decide +kernel)) rfl (by exact Nat.le_of_ble_eq_true rfl) (fun X hz hD => ?_)
  refine S_il1 qX0_bodyOf_0 ?_
  refine S_is2 qX0_bodyOf_1 (K := ?_)
  refine S_iconst qX0_bodyOf_2 ?_
  refine S_is3 qX0_bodyOf_3 (K := ?_)
  refine S_il3 qX0_bodyOf_4 ?_
  refine S_bipush (d := qX0_bodyOf_5) (k := ?_)
  refine S_icmp_ge (d := qX0_bodyOf_7) (kt := fun c => absurd c (by decide)) (kf := fun _ => ?_)
  refine S_il2 qX0_bodyOf_10 ?_
  refine S_if_lt (d := qX0_bodyOf_11) (kt := fun c => absurd c (by decide)) (kf := fun _ => ?_)
  refine S_il2 qX0_bodyOf_14 ?_
  refine S_bipush (d := qX0_bodyOf_15) (k := ?_)
  refine S_icmp_ge (d := qX0_bodyOf_17) (kt := fun c => absurd c (by decide)) (kf := fun _ => ?_)
  refine S_il2 qX0_bodyOf_20 ?_
  refine S_iconst qX0_bodyOf_21 ?_
  refine S_imul qX0_bodyOf_22 ?_
  refine S_il0 qX0_bodyOf_23 ?_
  refine S_iadd qX0_bodyOf_24 ?_
  refine S_is4 qX0_bodyOf_25 (K := ?_)
  refine S_il4 qX0_bodyOf_27 ?_
  refine S_if_lt (d := qX0_bodyOf_29) (kt := fun c => absurd c (by decide)) (kf := fun _ => ?_)
  refine S_il4 qX0_bodyOf_32 ?_
  refine S_gets (v := vr 221) qX0_bodyOf_34 sX0_50 (fun g2 U H h => h.2.2.1) ?_
  refine S_tlen qX0_bodyOf_37 (fun g2 U H h => ro_bodies h) ?_
  refine S_icmp_ge (d := qX0_bodyOf_38) (kt := fun c => absurd c (by decide)) (kf := fun _ => ?_)
  refine S_gets (v := vr 221) qX0_bodyOf_41 sX0_50 (fun g2 U H h => h.2.2.1) ?_
  refine S_il4 qX0_bodyOf_44 ?_
  refine S_tild (z := 70) qX0_bodyOf_46 (fun g2 U H h => ro_bodies h) (by decide) (by decide) ?_
  refine S_if_eq (d := qX0_bodyOf_47) (kt := fun c => absurd c (by decide)) (kf := fun _ => ?_)
  refine S_gets (v := vr 221) qX0_bodyOf_50 sX0_50 (fun g2 U H h => h.2.2.1) ?_
  refine S_il4 qX0_bodyOf_53 ?_
  refine S_tild (z := 70) qX0_bodyOf_55 (fun g2 U H h => ro_bodies h) (by decide) (by decide) ?_
  refine S_iret hz qX0_bodyOf_56 ?_
  exact ⟨rfl, rfl⟩

theorem c_bodyOf_6_2 {g : GC} {V : MM} : Ct g mX0_bodyOf 1 [vi 2, vi 6] V (RE V (40)) := by
  refine Ct.of (ls := [some (vi 2), some (vi 6), none, none, none]) (plainFor_of_name (by decide +kernel)) rfl (by exact Nat.le_of_ble_eq_true rfl) (fun X hz hD => ?_)
  refine S_il1 qX0_bodyOf_0 ?_
  refine S_is2 qX0_bodyOf_1 (K := ?_)
  refine S_iconst qX0_bodyOf_2 ?_
  refine S_is3 qX0_bodyOf_3 (K := ?_)
  refine S_il3 qX0_bodyOf_4 ?_
  refine S_bipush (d := qX0_bodyOf_5) (k := ?_)
  refine S_icmp_ge (d := qX0_bodyOf_7) (kt := fun c => absurd c (by decide)) (kf := fun _ => ?_)
  refine S_il2 qX0_bodyOf_10 ?_
  refine S_if_lt (d := qX0_bodyOf_11) (kt := fun c => absurd c (by decide)) (kf := fun _ => ?_)
  refine S_il2 qX0_bodyOf_14 ?_
  refine S_bipush (d := qX0_bodyOf_15) (k := ?_)
  refine S_icmp_ge (d := qX0_bodyOf_17) (kt := fun c => absurd c (by decide)) (kf := fun _ => ?_)
  refine S_il2 qX0_bodyOf_20 ?_
  refine S_iconst qX0_bodyOf_21 ?_
  refine S_imul qX0_bodyOf_22 ?_
  refine S_il0 qX0_bodyOf_23 ?_
  refine S_iadd qX0_bodyOf_24 ?_
  refine S_is4 qX0_bodyOf_25 (K := ?_)
  refine S_il4 qX0_bodyOf_27 ?_
  refine S_if_lt (d := qX0_bodyOf_29) (kt := fun c => absurd c (by decide)) (kf := fun _ => ?_)
  refine S_il4 qX0_bodyOf_32 ?_
  refine S_gets (v := vr 221) qX0_bodyOf_34 sX0_50 (fun g2 U H h => h.2.2.1) ?_
  refine S_tlen qX0_bodyOf_37 (fun g2 U H h => ro_bodies h) ?_
  refine S_icmp_ge (d := qX0_bodyOf_38) (kt := fun c => absurd c (by decide)) (kf := fun _ => ?_)
  refine S_gets (v := vr 221) qX0_bodyOf_41 sX0_50 (fun g2 U H h => h.2.2.1) ?_
  refine S_il4 qX0_bodyOf_44 ?_
  refine S_tild (z := 0) qX0_bodyOf_46 (fun g2 U H h => ro_bodies h) (by decide) (by decide) ?_
  refine S_if_eq (d := qX0_bodyOf_47) (kt := fun _ => ?_) (kf := fun c => absurd c (by decide))
  refine S_gets (v := vr 220) qX0_bodyOf_57 sX0_53 (fun g2 U H h => h.2.1.1) ?_
  refine S_il2 qX0_bodyOf_60 ?_
  refine S_tild (z := 3) qX0_bodyOf_61 (fun g2 U H h => ro_above h) (by decide) (by decide) ?_
  refine S_is2 qX0_bodyOf_62 (K := ?_)
  refine S_inc3 qX0_bodyOf_63 (K := ?_)
  refine S_goto qX0_bodyOf_66 ?_
  refine S_il3 qX0_bodyOf_4 ?_
  refine S_bipush (d := qX0_bodyOf_5) (k := ?_)
  refine S_icmp_ge (d := qX0_bodyOf_7) (kt := fun c => absurd c (by decide)) (kf := fun _ => ?_)
  refine S_il2 qX0_bodyOf_10 ?_
  refine S_if_lt (d := qX0_bodyOf_11) (kt := fun c => absurd c (by decide)) (kf := fun _ => ?_)
  refine S_il2 qX0_bodyOf_14 ?_
  refine S_bipush (d := qX0_bodyOf_15) (k := ?_)
  refine S_icmp_ge (d := qX0_bodyOf_17) (kt := fun c => absurd c (by decide)) (kf := fun _ => ?_)
  refine S_il2 qX0_bodyOf_20 ?_
  refine S_iconst qX0_bodyOf_21 ?_
  refine S_imul qX0_bodyOf_22 ?_
  refine S_il0 qX0_bodyOf_23 ?_
  refine S_iadd qX0_bodyOf_24 ?_
  refine S_is4 qX0_bodyOf_25 (K := ?_)
  refine S_il4 qX0_bodyOf_27 ?_
  refine S_if_lt (d := qX0_bodyOf_29) (kt := fun c => absurd c (by decide)) (kf := fun _ => ?_)
  refine S_il4 qX0_bodyOf_32 ?_
  refine S_gets (v := vr 221) qX0_bodyOf_34 sX0_50 (fun g2 U H h => h.2.2.1) ?_
  refine S_tlen qX0_bodyOf_37 (fun g2 U H h => ro_bodies h) ?_
  refine S_icmp_ge (d := qX0_bodyOf_38) (kt := fun c => absurd c (by decide)) (kf := fun _ => ?_)
  refine S_gets (v := vr 221) qX0_bodyOf_41 sX0_50 (fun g2 U H h => h.2.2.1) ?_
  refine S_il4 qX0_bodyOf_44 ?_
  refine S_tild (z := 40) qX0_bodyOf_46 (fun g2 U H h => ro_bodies h) (by decide) (by decide) ?_
  refine S_if_eq (d := qX0_bodyOf_47) (kt := fun c => absurd c (by decide)) (kf := fun _ => ?_)
  refine S_gets (v := vr 221) qX0_bodyOf_50 sX0_50 (fun g2 U H h => h.2.2.1) ?_
  refine S_il4 qX0_bodyOf_53 ?_
  refine S_tild (z := 40) qX0_bodyOf_55 (fun g2 U H h => ro_bodies h) (by decide) (by decide) ?_
  refine S_iret hz qX0_bodyOf_56 ?_
  exact ⟨rfl, rfl⟩

def bodL : List Int := [10, 11, 12, 10, 20, 12, 30, 11, 12, 10, 11, 40, 50, 51, 12, 30, 11, 60, 71, 70, 40]
def bodS (k s : Int) : Int := bodL.getD (3 * k + s).toNat 0
theorem c_bodyOf {g : GC} {V : MM} {s k : Int} (hs : 0 ≤ s ∧ s ≤ 2) (hk : 0 ≤ k ∧ k ≤ 6) : Ct g mX0_bodyOf 1 [vi s, vi k] V (RE V (bodS k s)) := by
  have h1 : s = 0 ∨ s = 1 ∨ s = 2 := by omega
  have h2 : k = 0 ∨ k = 1 ∨ k = 2 ∨ k = 3 ∨ k = 4 ∨ k = 5 ∨ k = 6 := by omega
  rcases h1 with rfl | rfl | rfl <;> rcases h2 with rfl | rfl | rfl | rfl | rfl | rfl | rfl
  · exact c_bodyOf_0_0
  · exact c_bodyOf_1_0
  · exact c_bodyOf_2_0
  · exact c_bodyOf_3_0
  · exact c_bodyOf_4_0
  · exact c_bodyOf_5_0
  · exact c_bodyOf_6_0
  · exact c_bodyOf_0_1
  · exact c_bodyOf_1_1
  · exact c_bodyOf_2_1
  · exact c_bodyOf_3_1
  · exact c_bodyOf_4_1
  · exact c_bodyOf_5_1
  · exact c_bodyOf_6_1
  · exact c_bodyOf_0_2
  · exact c_bodyOf_1_2
  · exact c_bodyOf_2_2
  · exact c_bodyOf_3_2
  · exact c_bodyOf_4_2
  · exact c_bodyOf_5_2
  · exact c_bodyOf_6_2
abbrev TR : Type := Int × (Int → Int)
def trP (b : Int) (tr : TR) : TR := (tr.1 + 1, if tr.1 < 20 then ur tr.2 tr.1 b else tr.2)
def actB (rec : Int → Int → Int → TR → Option (Int × TR)) (k v i b x : Int) (tr : TR) : Option (Int × TR) :=
  if b = 10 then some (x + i, tr)
  else if b = 11 then (rec 0 k x tr).map (fun r => (r.1 - v, r.2))
  else if b = 12 then (rec 1 k x tr).map (fun r => (r.1 * 2, r.2))
  else if b = 20 then (rec 1 0 x tr).map (fun r => ((Int32.ofInt r.1 ^^^ Int32.ofInt 6).toInt, r.2))
  else if b = 30 then rec 0 0 (x * 3) tr
  else if b = 40 then (rec 2 0 x tr).bind (fun r => (rec 1 k 1 r.2).map (fun q => (r.1 + q.1, q.2)))
  else if b = 50 then (rec 0 1 x tr).map (fun r => (-r.1, r.2))
  else if b = 51 then rec 1 1 (x + 1) tr
  else if b = 60 then rec 2 2 (x - i) tr
  else if b = 70 then (rec 1 3 x tr).bind (fun r => (rec 0 3 2 r.2).map (fun q => (r.1 + q.1, q.2)))
  else if b = 71 then (rec 0 3 x tr).map (fun r => ((Int32.ofInt r.1 ^^^ Int32.ofInt v).toInt, r.2))
  else none
def actR (k v i : Int) : Nat → Int → Int → Int → TR → Option (Int × TR)
  | 0, _, _, _, _ => none
  | n + 1, s, fr, x, tr => if 0 ≤ s ∧ s ≤ 2 ∧ 0 ≤ fr ∧ fr ≤ 6 ∧ 0 ≤ tr.1 ∧ tr.1 ≤ 1000 then actB (actR k v i n) k v i (bodS fr s) x (trP (bodS fr s) tr) else none
/-- the memory with a trace -/
def trM (V : MM) (tr : TR) : MM := upR (upR V 7 tr.2) 6 (ur (V 6) 0 tr.1)
theorem trM_trM (V : MM) (a b : TR) : trM (trM V a) b = trM V b := by
  unfold trM
  simp only [upR_n _ (show (6 : Nat) ≠ 7 by omega), upR_s, ur_u]
  rw [upR_c _ _ (show (6 : Nat) ≠ 7 by omega), upR_u, upR_u]
theorem trM_6 (V : MM) (a : TR) : trM V a 6 = ur (V 6) 0 a.1 := by unfold trM; rw [upR_s]
theorem trM_7 (V : MM) (a : TR) : trM V a 7 = a.2 := by unfold trM; rw [upR_n _ (by omega), upR_s]
/-- what run does with so much fuel -/
def RunC (g : GC) (n : Nat) : Prop := ∀ (V : MM) (s fr x dep : Int) (tr : TR) (res : Int × TR), actR (V 6 2) (V 6 3) (V 6 4) n s fr x tr = some res → (0 ≤ V 6 2 ∧ V 6 2 ≤ 6) → 0 ≤ dep → dep + n ≤ 41 → Ct g mX0_run (2 * n + 2) [vr 6, vi s, vi fr, vi x, vi dep] (trM V tr) (fun r V' => r = some (vi res.1) ∧ V' = trM V res.2)

theorem S_V4X {g : GC} {X : CX} {own : String} {cc : ByteArray} {pc nx : Nat} {ls : List (Option AV)} {st : List AV} {V : MM} {idx d d' b : Nat} {M : MN} {a0 a1 a2 a3 : AV} {z : Int} {V2 : MM} (hD : Dp X d) (dd : DI cc pc (.invokevirtual idx) 3 nx) (hl0 : ML own idx M) (hm : MV M 4) (hr : rcv b M.1.cls) (hc : Ct g M d' [vr b, a0, a1, a2, a3] V (fun r V' => r = some (vi z) ∧ V' = V2)) (hd : d' + 1 ≤ d) (hw : (st.map wcat).sum ≤ 8 := by exact Nat.le_of_ble_eq_true rfl) (K : SW g X own cc nx ls (vi z :: st) V2) : SW g X own cc pc ls (a3 :: a2 :: a1 :: a0 :: vr b :: st) V :=
  S_callV (as := [a0, a1, a2, a3]) hD dd hl0 hm hr hc hd rfl rfl hw (fun r V1 h => by obtain ⟨rfl, rfl⟩ := h; exact K)
theorem c_runBody {g : GC} {n : Nat} (hR : RunC g n) (V : MM) (b x dep : Int) (tr : TR) (res : Int × TR) (hx : actB (actR (V 6 2) (V 6 3) (V 6 4) n) (V 6 2) (V 6 3) (V 6 4) b x tr = some res) (hk : 0 ≤ V 6 2 ∧ V 6 2 ≤ 6) (hd0 : 0 ≤ dep) (hd1 : dep + n ≤ 41) (hb : 0 ≤ b ∧ b ≤ 100) : Ct g mX0_runBody (2 * n + 3) [vr 6, vi b, vi x, vi dep] (trM V tr) (fun r V' => r = some (vi res.1) ∧ V' = trM V res.2) := by
  refine Ct.of (ls := [some (vr 6), some (vi b), some (vi x), some (vi dep)]) (plainFor_of_name (by decide +kernel)) rfl (by exact Nat.le_of_ble_eq_true rfl) (fun X hz hD => ?_)
  have e2 : ∀ a : TR, trM V a 6 2 = V 6 2 := fun a => by rw [trM_6, ur_n _ (by omega)]
  have e3 : ∀ a : TR, trM V a 6 3 = V 6 3 := fun a => by rw [trM_6, ur_n _ (by omega)]
  have e4 : ∀ a : TR, trM V a 6 4 = V 6 4 := fun a => by rw [trM_6, ur_n _ (by omega)]
  unfold actB at hx
  by_cases s_10 : b = 10
  · subst s_10
    rw [if_pos rfl] at hx
    refine S_il1 qX0_runBody_0 ?_
    refine S_lookup (tgt := 100) (off := 99) qX0_runBody_1 (by decide +kernel) (by omega) (by decide +kernel) (by decide) ?_
    cases hx
    refine S_il2 qX0_runBody_100 ?_
    refine S_al0 qX0_runBody_101 ?_
    refine S_getI qX0_runBody_102 fX0_35 e6_4 ?_
    rw [e4]
    refine S_iadd qX0_runBody_105 ?_
    exact S_iret hz qX0_runBody_106 ⟨by simp only [e2, e3, e4], rfl⟩
  by_cases s_11 : b = 11
  · subst s_11
    rw [if_neg (by omega : ¬ (11 : Int) = 10), if_pos rfl] at hx
    refine S_il1 qX0_runBody_0 ?_
    refine S_lookup (tgt := 107) (off := 106) qX0_runBody_1 (by decide +kernel) (by omega) (by decide +kernel) (by decide) ?_
    obtain ⟨r1, hr1, rfl⟩ := Option.map_eq_some_iff.mp hx
    refine S_al0 qX0_runBody_107 ?_
    refine S_iconst qX0_runBody_108 ?_
    refine S_al0 qX0_runBody_109 ?_
    refine S_getI qX0_runBody_110 fX0_28 e6_2 ?_
    rw [e2]
    refine S_il2 qX0_runBody_113 ?_
    refine S_il3 qX0_runBody_114 ?_
    refine S_V4X hD qX0_runBody_115 lX0_38 vX0_run r6 (hR V _ _ _ _ _ r1 hr1 hk hd0 hd1) (by omega) (K := ?_)
    refine S_al0 qX0_runBody_118 ?_
    refine S_getI qX0_runBody_119 fX0_33 e6_3 ?_
    rw [e3]
    refine S_isub qX0_runBody_122 ?_
    exact S_iret hz qX0_runBody_123 ⟨by simp only [e2, e3, e4], rfl⟩
  by_cases s_12 : b = 12
  · subst s_12
    rw [if_neg (by omega : ¬ (12 : Int) = 10), if_neg (by omega : ¬ (12 : Int) = 11), if_pos rfl] at hx
    refine S_il1 qX0_runBody_0 ?_
    refine S_lookup (tgt := 124) (off := 123) qX0_runBody_1 (by decide +kernel) (by omega) (by decide +kernel) (by decide) ?_
    obtain ⟨r1, hr1, rfl⟩ := Option.map_eq_some_iff.mp hx
    refine S_al0 qX0_runBody_124 ?_
    refine S_iconst qX0_runBody_125 ?_
    refine S_al0 qX0_runBody_126 ?_
    refine S_getI qX0_runBody_127 fX0_28 e6_2 ?_
    rw [e2]
    refine S_il2 qX0_runBody_130 ?_
    refine S_il3 qX0_runBody_131 ?_
    refine S_V4X hD qX0_runBody_132 lX0_38 vX0_run r6 (hR V _ _ _ _ _ r1 hr1 hk hd0 hd1) (by omega) (K := ?_)
    refine S_iconst qX0_runBody_135 ?_
    refine S_imul qX0_runBody_136 ?_
    exact S_iret hz qX0_runBody_137 ⟨by simp only [e2, e3, e4], rfl⟩
  by_cases s_20 : b = 20
  · subst s_20
    rw [if_neg (by omega : ¬ (20 : Int) = 10), if_neg (by omega : ¬ (20 : Int) = 11), if_neg (by omega : ¬ (20 : Int) = 12), if_pos rfl] at hx
    refine S_il1 qX0_runBody_0 ?_
    refine S_lookup (tgt := 138) (off := 137) qX0_runBody_1 (by decide +kernel) (by omega) (by decide +kernel) (by decide) ?_
    obtain ⟨r1, hr1, rfl⟩ := Option.map_eq_some_iff.mp hx
    refine S_al0 qX0_runBody_138 ?_
    refine S_iconst qX0_runBody_139 ?_
    refine S_iconst qX0_runBody_140 ?_
    refine S_il2 qX0_runBody_141 ?_
    refine S_il3 qX0_runBody_142 ?_
    refine S_V4X hD qX0_runBody_143 lX0_38 vX0_run r6 (hR V _ _ _ _ _ r1 hr1 hk hd0 hd1) (by omega) (K := ?_)
    refine S_bipush (d := qX0_runBody_146) (k := ?_)
    refine S_ixor qX0_runBody_148 ?_
    exact S_iret hz qX0_runBody_149 ⟨by simp only [e2, e3, e4], rfl⟩
  by_cases s_30 : b = 30
  · subst s_30
    rw [if_neg (by omega : ¬ (30 : Int) = 10), if_neg (by omega : ¬ (30 : Int) = 11), if_neg (by omega : ¬ (30 : Int) = 12), if_neg (by omega : ¬ (30 : Int) = 20), if_pos rfl] at hx
    refine S_il1 qX0_runBody_0 ?_
    refine S_lookup (tgt := 150) (off := 149) qX0_runBody_1 (by decide +kernel) (by omega) (by decide +kernel) (by decide) ?_
    refine S_al0 qX0_runBody_150 ?_
    refine S_iconst qX0_runBody_151 ?_
    refine S_iconst qX0_runBody_152 ?_
    refine S_il2 qX0_runBody_153 ?_
    refine S_iconst qX0_runBody_154 ?_
    refine S_imul qX0_runBody_155 ?_
    refine S_il3 qX0_runBody_156 ?_
    refine S_V4X hD qX0_runBody_157 lX0_38 vX0_run r6 (hR V _ _ _ _ _ res hx hk hd0 hd1) (by omega) (K := ?_)
    exact S_iret hz qX0_runBody_160 ⟨by simp only [e2, e3, e4], rfl⟩
  by_cases s_40 : b = 40
  · subst s_40
    rw [if_neg (by omega : ¬ (40 : Int) = 10), if_neg (by omega : ¬ (40 : Int) = 11), if_neg (by omega : ¬ (40 : Int) = 12), if_neg (by omega : ¬ (40 : Int) = 20), if_neg (by omega : ¬ (40 : Int) = 30), if_pos rfl] at hx
    refine S_il1 qX0_runBody_0 ?_
    refine S_lookup (tgt := 161) (off := 160) qX0_runBody_1 (by decide +kernel) (by omega) (by decide +kernel) (by decide) ?_
    obtain ⟨r1, hr1, hx⟩ := Option.bind_eq_some_iff.mp hx
    obtain ⟨r2, hr2, rfl⟩ := Option.map_eq_some_iff.mp hx
    refine S_al0 qX0_runBody_161 ?_
    refine S_iconst qX0_runBody_162 ?_
    refine S_iconst qX0_runBody_163 ?_
    refine S_il2 qX0_runBody_164 ?_
    refine S_il3 qX0_runBody_165 ?_
    refine S_V4X hD qX0_runBody_166 lX0_38 vX0_run r6 (hR V _ _ _ _ _ r1 hr1 hk hd0 hd1) (by omega) (K := ?_)
    refine S_al0 qX0_runBody_169 ?_
    refine S_iconst qX0_runBody_170 ?_
    refine S_al0 qX0_runBody_171 ?_
    refine S_getI qX0_runBody_172 fX0_28 e6_2 ?_
    rw [e2]
    refine S_iconst qX0_runBody_175 ?_
    refine S_il3 qX0_runBody_176 ?_
    refine S_V4X hD qX0_runBody_177 lX0_38 vX0_run r6 (hR V _ _ _ _ _ r2 hr2 hk hd0 hd1) (by omega) (K := ?_)
    refine S_iadd qX0_runBody_180 ?_
    exact S_iret hz qX0_runBody_181 ⟨by simp only [e2, e3, e4], rfl⟩
  by_cases s_50 : b = 50
  · subst s_50
    rw [if_neg (by omega : ¬ (50 : Int) = 10), if_neg (by omega : ¬ (50 : Int) = 11), if_neg (by omega : ¬ (50 : Int) = 12), if_neg (by omega : ¬ (50 : Int) = 20), if_neg (by omega : ¬ (50 : Int) = 30), if_neg (by omega : ¬ (50 : Int) = 40), if_pos rfl] at hx
    refine S_il1 qX0_runBody_0 ?_
    refine S_lookup (tgt := 182) (off := 181) qX0_runBody_1 (by decide +kernel) (by omega) (by decide +kernel) (by decide) ?_
    obtain ⟨r1, hr1, rfl⟩ := Option.map_eq_some_iff.mp hx
    refine S_al0 qX0_runBody_182 ?_
    refine S_iconst qX0_runBody_183 ?_
    refine S_iconst qX0_runBody_184 ?_
    refine S_il2 qX0_runBody_185 ?_
    refine S_il3 qX0_runBody_186 ?_
    refine S_V4X hD qX0_runBody_187 lX0_38 vX0_run r6 (hR V _ _ _ _ _ r1 hr1 hk hd0 hd1) (by omega) (K := ?_)
    refine S_ineg qX0_runBody_190 ?_
    exact S_iret hz qX0_runBody_191 ⟨by simp only [e2, e3, e4], rfl⟩
  by_cases s_51 : b = 51
  · subst s_51
    rw [if_neg (by omega : ¬ (51 : Int) = 10), if_neg (by omega : ¬ (51 : Int) = 11), if_neg (by omega : ¬ (51 : Int) = 12), if_neg (by omega : ¬ (51 : Int) = 20), if_neg (by omega : ¬ (51 : Int) = 30), if_neg (by omega : ¬ (51 : Int) = 40), if_neg (by omega : ¬ (51 : Int) = 50), if_pos rfl] at hx
    refine S_il1 qX0_runBody_0 ?_
    refine S_lookup (tgt := 192) (off := 191) qX0_runBody_1 (by decide +kernel) (by omega) (by decide +kernel) (by decide) ?_
    refine S_al0 qX0_runBody_192 ?_
    refine S_iconst qX0_runBody_193 ?_
    refine S_iconst qX0_runBody_194 ?_
    refine S_il2 qX0_runBody_195 ?_
    refine S_iconst qX0_runBody_196 ?_
    refine S_iadd qX0_runBody_197 ?_
    refine S_il3 qX0_runBody_198 ?_
    refine S_V4X hD qX0_runBody_199 lX0_38 vX0_run r6 (hR V _ _ _ _ _ res hx hk hd0 hd1) (by omega) (K := ?_)
    exact S_iret hz qX0_runBody_202 ⟨by simp only [e2, e3, e4], rfl⟩
  by_cases s_60 : b = 60
  · subst s_60
    rw [if_neg (by omega : ¬ (60 : Int) = 10), if_neg (by omega : ¬ (60 : Int) = 11), if_neg (by omega : ¬ (60 : Int) = 12), if_neg (by omega : ¬ (60 : Int) = 20), if_neg (by omega : ¬ (60 : Int) = 30), if_neg (by omega : ¬ (60 : Int) = 40), if_neg (by omega : ¬ (60 : Int) = 50), if_neg (by omega : ¬ (60 : Int) = 51), if_pos rfl] at hx
    refine S_il1 qX0_runBody_0 ?_
    refine S_lookup (tgt := 203) (off := 202) qX0_runBody_1 (by decide +kernel) (by omega) (by decide +kernel) (by decide) ?_
    refine S_al0 qX0_runBody_203 ?_
    refine S_iconst qX0_runBody_204 ?_
    refine S_iconst qX0_runBody_205 ?_
    refine S_il2 qX0_runBody_206 ?_
    refine S_al0 qX0_runBody_207 ?_
    refine S_getI qX0_runBody_208 fX0_35 e6_4 ?_
    rw [e4]
    refine S_isub qX0_runBody_211 ?_
    refine S_il3 qX0_runBody_212 ?_
    refine S_V4X hD qX0_runBody_213 lX0_38 vX0_run r6 (hR V _ _ _ _ _ res hx hk hd0 hd1) (by omega) (K := ?_)
    exact S_iret hz qX0_runBody_216 ⟨by simp only [e2, e3, e4], rfl⟩
  by_cases s_70 : b = 70
  · subst s_70
    rw [if_neg (by omega : ¬ (70 : Int) = 10), if_neg (by omega : ¬ (70 : Int) = 11), if_neg (by omega : ¬ (70 : Int) = 12), if_neg (by omega : ¬ (70 : Int) = 20), if_neg (by omega : ¬ (70 : Int) = 30), if_neg (by omega : ¬ (70 : Int) = 40), if_neg (by omega : ¬ (70 : Int) = 50), if_neg (by omega : ¬ (70 : Int) = 51), if_neg (by omega : ¬ (70 : Int) = 60), if_pos rfl] at hx
    refine S_il1 qX0_runBody_0 ?_
    refine S_lookup (tgt := 217) (off := 216) qX0_runBody_1 (by decide +kernel) (by omega) (by decide +kernel) (by decide) ?_
    obtain ⟨r1, hr1, hx⟩ := Option.bind_eq_some_iff.mp hx
    obtain ⟨r2, hr2, rfl⟩ := Option.map_eq_some_iff.mp hx
    refine S_al0 qX0_runBody_217 ?_
    refine S_iconst qX0_runBody_218 ?_
    refine S_iconst qX0_runBody_219 ?_
    refine S_il2 qX0_runBody_220 ?_
    refine S_il3 qX0_runBody_221 ?_
    refine S_V4X hD qX0_runBody_222 lX0_38 vX0_run r6 (hR V _ _ _ _ _ r1 hr1 hk hd0 hd1) (by omega) (K := ?_)
    refine S_al0 qX0_runBody_225 ?_
    refine S_iconst qX0_runBody_226 ?_
    refine S_iconst qX0_runBody_227 ?_
    refine S_iconst qX0_runBody_228 ?_
    refine S_il3 qX0_runBody_229 ?_
    refine S_V4X hD qX0_runBody_230 lX0_38 vX0_run r6 (hR V _ _ _ _ _ r2 hr2 hk hd0 hd1) (by omega) (K := ?_)
    refine S_iadd qX0_runBody_233 ?_
    exact S_iret hz qX0_runBody_234 ⟨by simp only [e2, e3, e4], rfl⟩
  by_cases s_71 : b = 71
  · subst s_71
    rw [if_neg (by omega : ¬ (71 : Int) = 10), if_neg (by omega : ¬ (71 : Int) = 11), if_neg (by omega : ¬ (71 : Int) = 12), if_neg (by omega : ¬ (71 : Int) = 20), if_neg (by omega : ¬ (71 : Int) = 30), if_neg (by omega : ¬ (71 : Int) = 40), if_neg (by omega : ¬ (71 : Int) = 50), if_neg (by omega : ¬ (71 : Int) = 51), if_neg (by omega : ¬ (71 : Int) = 60), if_neg (by omega : ¬ (71 : Int) = 70), if_pos rfl] at hx
    refine S_il1 qX0_runBody_0 ?_
    refine S_lookup (tgt := 235) (off := 234) qX0_runBody_1 (by decide +kernel) (by omega) (by decide +kernel) (by decide) ?_
    obtain ⟨r1, hr1, rfl⟩ := Option.map_eq_some_iff.mp hx
    refine S_al0 qX0_runBody_235 ?_
    refine S_iconst qX0_runBody_236 ?_
    refine S_iconst qX0_runBody_237 ?_
    refine S_il2 qX0_runBody_238 ?_
    refine S_il3 qX0_runBody_239 ?_
    refine S_V4X hD qX0_runBody_240 lX0_38 vX0_run r6 (hR V _ _ _ _ _ r1 hr1 hk hd0 hd1) (by omega) (K := ?_)
    refine S_al0 qX0_runBody_243 ?_
    refine S_getI qX0_runBody_244 fX0_33 e6_3 ?_
    rw [e3]
    refine S_ixor qX0_runBody_247 ?_
    exact S_iret hz qX0_runBody_248 ⟨by simp only [e2, e3, e4], rfl⟩
  exfalso
  rw [if_neg s_10, if_neg s_11, if_neg s_12, if_neg s_20, if_neg s_30, if_neg s_40, if_neg s_50, if_neg s_51, if_neg s_60, if_neg s_70, if_neg s_71] at hx
  cases hx