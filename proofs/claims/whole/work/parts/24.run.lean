theorem c_run (g : GC) : ∀ n : Nat, RunC g n := by
  intro n
  induction n with
  | zero => intro V s fr x dep tr res hx; unfold actR at hx; cases hx
  | succ n ih =>
    intro V s fr x dep tr res hx hk hd0 hd1
    unfold actR at hx
    by_cases hgd : 0 ≤ s ∧ s ≤ 2 ∧ 0 ≤ fr ∧ fr ≤ 6 ∧ 0 ≤ tr.1 ∧ tr.1 ≤ 1000
    · rw [if_pos hgd] at hx
      have hbr : 0 ≤ bodS fr s ∧ bodS fr s ≤ 100 := by
        have h1 : s = 0 ∨ s = 1 ∨ s = 2 := by omega
        have h2 : fr = 0 ∨ fr = 1 ∨ fr = 2 ∨ fr = 3 ∨ fr = 4 ∨ fr = 5 ∨ fr = 6 := by omega
        rcases h1 with rfl | rfl | rfl <;> rcases h2 with rfl | rfl | rfl | rfl | rfl | rfl | rfl <;> decide
      have e0 : trM V tr 6 0 = tr.1 := by rw [trM_6, ur_s]
      have e7 : trM V tr 7 = tr.2 := trM_7 V tr
      refine Ct.of (ls := [some (vr 6), some (vi s), some (vi fr), some (vi x), some (vi dep), none]) (plainFor_of_name (by decide +kernel)) rfl (by exact Nat.le_of_ble_eq_true rfl) (fun X hz hD => ?_)
      have hjoin : ∀ V2 : MM, V2 = upR (trM V tr) 7 (trP (bodS fr s) tr).2 → SW g X RX0 cX0_run 36 [some (vr 6), some (vi s), some (vi fr), some (vi x), some (vi dep), some (vi (bodS fr s))] [] V2 := by
        intro V2 hV2
        have e20 : V2 6 0 = tr.1 := by rw [hV2, upR_n _ (by omega), e0]
        refine S_al0 qX0_run_36 ?_
        refine S_dup (d := qX0_run_37) (k := ?_)
        refine S_getI qX0_run_38 fX0_15 e6_0 ?_
        rw [e20]
        refine S_iconst qX0_run_41 ?_
        refine S_iadd qX0_run_42 ?_
        refine S_putI qX0_run_43 fX0_15 e6_0 tX0_0 ?_
        refine S_al0 qX0_run_46 ?_
        refine S_il5 qX0_run_47 ?_
        refine S_il3 qX0_run_49 ?_
        refine S_il4 qX0_run_50 ?_
        refine S_iconst qX0_run_52 ?_
        refine S_iadd qX0_run_53 ?_
        have eM : upR V2 6 (ur (V2 6) 0 (tr.1 + 1)) = trM V (trP (bodS fr s) tr) := by
          rw [hV2, upR_n _ (show (6 : Nat) ≠ 7 by omega), trM_6, ur_u]
          unfold trM trP
          rw [upR_c _ _ (show (6 : Nat) ≠ 7 by omega), upR_u, upR_u]
        rw [eM]
        exact S_callV (as := [vi (bodS fr s), vi x, vi (dep + 1)]) hD qX0_run_54 lX0_46 vX0_runBody r6 (c_runBody ih V (bodS fr s) x (dep + 1) (trP (bodS fr s) tr) res hx hk (by omega) (by omega) hbr) (by omega) rfl rfl (Nat.le_of_ble_eq_true rfl) (fun r V1 h => by obtain ⟨rfl, rfl⟩ := h; exact S_iret hz qX0_run_57 ⟨rfl, rfl⟩)
      refine S_il4 qX0_run_0 ?_
      refine S_bipush (d := qX0_run_2) (k := ?_)
      refine S_icmp_le (d := qX0_run_4) (kt := fun c4 => ?_) (kf := fun c4 => ?_)
      rotate_left
      · omega
      refine S_il1 qX0_run_9 ?_
      refine S_il2 qX0_run_10 ?_
      refine S_S2E hD qX0_run_11 lX0_42 sX0_bodyOf (c_bodyOf (by omega) (by omega)) (K := ?_)
      refine S_is5 qX0_run_14 (K := ?_)
      refine S_al0 qX0_run_16 ?_
      refine S_getI qX0_run_17 fX0_15 e6_0 ?_
      rw [e0]
      refine S_bipush (d := qX0_run_20) (k := ?_)
      refine S_icmp_ge (d := qX0_run_22) (kt := fun c22 => ?_) (kf := fun c22 => ?_)
      · refine hjoin _ ?_
        first
          | (unfold trP
             rw [if_pos c22, e7]
             simp only [e0])
          | (unfold trP
             rw [if_neg (by omega)]
             show trM V tr = upR (trM V tr) 7 tr.2
             rw [← e7, upR_id])
      · refine S_al0 qX0_run_25 ?_
        refine S_getR qX0_run_26 fX0_11 e6_1 ?_
        refine S_al0 qX0_run_29 ?_
        refine S_getI qX0_run_30 fX0_15 e6_0 ?_
        refine S_il5 qX0_run_33 ?_
        refine S_iast qX0_run_35 a7 (K := ?_)
        refine hjoin _ ?_
        first
          | (unfold trP
             rw [if_pos c22, e7]
             simp only [e0])
          | (unfold trP
             rw [if_neg (by omega)]
             show trM V tr = upR (trM V tr) 7 tr.2
             rw [← e7, upR_id])
    · rw [if_neg hgd] at hx; cases hx
/-- an act: its answer and the trace -/
def actS (k v i : Int) (s x : Int) (row : Int → Int) : Option (Int × TR) := actR k v i 12 s k x (0, row)
