theorem lg_eq {a b : Int64} : (lg_cmp a b).toInt = 0 ↔ a = b := by
  unfold lg_cmp
  constructor
  · intro h
    by_cases h1 : a > b
    · rw [if_pos h1] at h; exact absurd h (by decide)
    · rw [if_neg h1] at h
      by_cases h2 : a = b
      · exact h2
      · rw [if_neg h2] at h; exact absurd h (by decide)
  · intro h
    subst h
    simp

theorem hold_loop {g : GC} {X : CX} {Q : Option AV → MM → Prop} {h f : Nat} {V : MM} {fr to d : Int} {xf : Int64} (hh : isH h) (hf : isF f) (rt : 0 ≤ to ∧ to ≤ 100) (hc : ∀ i, 0 ≤ i ∧ i < 100 → -3 ≤ V (h + 3) i ∧ V (h + 3) i ≤ 1799) (rd : 0 ≤ d ∧ d < 6) (rb : 0 ≤ V f 1 ∧ V f 1 ≤ 20000) (re : ∀ l, 0 ≤ envS (fsC V f) d l ∧ envS (fsC V f) d l ≤ 99) (hz : Fi g X (some .boolean) Q) (hD : Dp X 3) (hQ : Q (some (vi (b2i (decide (xf &&& Int64.ofInt 1 = Int64.ofInt 1))))) V) : ∀ (n : Nat) (i : Int) (x : Int64), 0 ≤ i → i ≤ 1000 → (to - i).toNat = n → evC (V (h + 3)) (fsC V f) d n i x = xf → SW g X RX3 cX3_holds 6 [some (vr h), some (vi fr), some (vi to), some (vr f), some (vi d), some (vl x.toInt), none, some (vi i), none] [] V := by
  intro n
  induction n with
  | zero =>
    intro i x h0 h1 hn hx
    unfold evC at hx
    subst hx
    refine S_il7 qX3_holds_6 ?_
    refine S_il2 qX3_holds_8 ?_
    refine S_icmp_ge (d := qX3_holds_9) (kt := fun c9 => ?_) (kf := fun c9 => ?_)
    rotate_left
    · omega
    refine S_ll5 qX3_holds_109 ?_
    refine S_lconst qX3_holds_111 ?_
    refine S_land qX3_holds_112 ?_
    refine S_lconst qX3_holds_113 ?_
    refine S_lcmp qX3_holds_114 ?_
    have e0 := lg_eq (a := Int64.ofInt (Int64.ofInt x.toInt &&& Int64.ofInt ((1 : Fin 2) : Nat)).toInt) (b := Int64.ofInt ((1 : Fin 2) : Nat))
    simp only [jo_ofInt] at e0
    refine S_if_ne (d := qX3_holds_115) (ha := io_rg _) (kt := fun c115 => ?_) (kf := fun c115 => ?_)
    · refine S_iconst qX3_holds_122 ?_
      refine S_zret hz qX3_holds_123 (by omega) ?_
      have e1 : x &&& Int64.ofInt 1 = Int64.ofInt 1 ∨ ¬ (x &&& Int64.ofInt 1 = Int64.ofInt 1) := Decidable.em _
      rcases e1 with e1 | e1
      · first | (rw [e1] at hQ; exact hQ) | (simp only [e1, decide_true, b2i, if_true] at hQ; first | exact hQ | (exfalso; simp only [jo_ofInt] at c115; exact c115 (e0.mpr e1)))
      · simp only [e1, decide_false, b2i] at hQ
        first | exact hQ | (exfalso; simp only [jo_ofInt] at c115; exact e1 (e0.mp c115))
    · refine S_iconst qX3_holds_118 ?_
      refine S_goto qX3_holds_119 ?_
      refine S_zret hz qX3_holds_123 (by omega) ?_
      have e1 : x &&& Int64.ofInt 1 = Int64.ofInt 1 ∨ ¬ (x &&& Int64.ofInt 1 = Int64.ofInt 1) := Decidable.em _
      rcases e1 with e1 | e1
      · first | (rw [e1] at hQ; exact hQ) | (simp only [e1, decide_true, b2i, if_true] at hQ; first | exact hQ | (exfalso; simp only [jo_ofInt] at c115; exact c115 (e0.mpr e1)))
      · simp only [e1, decide_false, b2i] at hQ
        first | exact hQ | (exfalso; simp only [jo_ofInt] at c115; exact e1 (e0.mp c115))
  | succ n ih =>
    intro i x h0 h1 hn hx
    unfold evC at hx
    have hci := hc i (by omega)
    refine S_il7 qX3_holds_6 ?_
    refine S_il2 qX3_holds_8 ?_
    refine S_icmp_ge (d := qX3_holds_9) (kt := fun c9 => ?_) (kf := fun c9 => ?_)
    · omega
    refine S_al0 qX3_holds_12 ?_
    refine S_getR qX3_holds_13 fX3_24 (H_6 hh) ?_
    refine S_il7 qX3_holds_16 ?_
    refine S_iald qX3_holds_18 (Ha_3 hh) (K := ?_)
    refine S_is8 qX3_holds_19 (K := ?_)
    refine S_il8 qX3_holds_21 ?_
    refine S_iconst qX3_holds_23 ?_
    refine S_icmp_ne (d := qX3_holds_24) (kt := fun c24 => ?_) (kf := fun c24 => ?_)
    · refine S_il8 qX3_holds_36 ?_
      refine S_bipush (d := qX3_holds_38) (k := ?_)
      refine S_icmp_ne (d := qX3_holds_40) (kt := fun c40 => ?_) (kf := fun c40 => ?_)
      · refine S_il8 qX3_holds_59 ?_
        refine S_bipush (d := qX3_holds_61) (k := ?_)
        refine S_icmp_ne (d := qX3_holds_63) (kt := fun c63 => ?_) (kf := fun c63 => ?_)
        · refine S_ll5 qX3_holds_80 ?_
          refine S_iconst qX3_holds_82 ?_
          refine S_lshl qX3_holds_83 ?_
          refine S_il8 qX3_holds_84 ?_
          refine S_al3 qX3_holds_86 ?_
          refine S_il4 qX3_holds_87 ?_
          refine S_S3B hD qX3_holds_89 lX3_51 sX3_passes (c_passes hf (by omega) (by omega) (by omega) re) (kt := fun j89 => ?_) (kf := fun j89 => ?_)
          · refine S_if_eq (d := qX3_holds_92) (kt := fun c => absurd c (by decide)) (kf := fun _ => ?_)
            refine S_lconst qX3_holds_95 ?_
            refine S_goto qX3_holds_96 ?_
            refine S_lor qX3_holds_100 ?_
            refine S_ls5 qX3_holds_101 (K := ?_)
            refine S_inc7 qX3_holds_103 (K := ?_)
            refine S_goto qX3_holds_106 ?_
            refine SW.forget 8 (ih (i + 1) _ (by omega) (by omega) (by omega) ?_)
            rw [← hx]
            congr 1
            simp only [jo_ofInt]
            unfold hldC
            first
              | (rw [if_pos (by omega)]; rfl)
              | (rw [if_neg (by omega), if_pos (by omega)]; rfl)
              | (rw [if_neg (by omega), if_neg (by omega), if_pos (by omega)]; rfl)
              | (rw [if_neg (by omega), if_neg (by omega), if_neg (by omega), j89]; rfl)
              | (rw [if_neg (by omega), if_neg (by omega), if_neg (by omega)]; simp only [j89, b2i, Bool.false_eq_true, if_false]; rfl)
          · refine S_if_eq (d := qX3_holds_92) (kt := fun _ => ?_) (kf := fun c => absurd c (by decide))
            refine S_lconst qX3_holds_99 ?_
            refine S_lor qX3_holds_100 ?_
            refine S_ls5 qX3_holds_101 (K := ?_)
            refine S_inc7 qX3_holds_103 (K := ?_)
            refine S_goto qX3_holds_106 ?_
            refine SW.forget 8 (ih (i + 1) _ (by omega) (by omega) (by omega) ?_)
            rw [← hx]
            congr 1
            simp only [jo_ofInt]
            unfold hldC
            first
              | (rw [if_pos (by omega)]; rfl)
              | (rw [if_neg (by omega), if_pos (by omega)]; rfl)
              | (rw [if_neg (by omega), if_neg (by omega), if_pos (by omega)]; rfl)
              | (rw [if_neg (by omega), if_neg (by omega), if_neg (by omega), j89]; rfl)
              | (rw [if_neg (by omega), if_neg (by omega), if_neg (by omega)]; simp only [j89, b2i, Bool.false_eq_true, if_false]; rfl)
        · refine S_ll5 qX3_holds_66 ?_
          refine S_iconst qX3_holds_68 ?_
          refine S_lushr qX3_holds_69 ?_
          refine S_ll5 qX3_holds_70 ?_
          refine S_lconst qX3_holds_72 ?_
          refine S_land qX3_holds_73 ?_
          refine S_lor qX3_holds_74 ?_
          refine S_ls5 qX3_holds_75 (K := ?_)
          refine S_goto qX3_holds_77 ?_
          refine S_inc7 qX3_holds_103 (K := ?_)
          refine S_goto qX3_holds_106 ?_
          refine SW.forget 8 (ih (i + 1) _ (by omega) (by omega) (by omega) ?_)
          rw [← hx]
          congr 1
          simp only [jo_ofInt]
          unfold hldC
          first
            | (rw [if_pos (by omega)]; rfl)
            | (rw [if_neg (by omega), if_pos (by omega)]; rfl)
            | (rw [if_neg (by omega), if_neg (by omega), if_pos (by omega)]; rfl)
            | (rw [if_neg (by omega), if_neg (by omega), if_neg (by omega), j89]; rfl)
            | (rw [if_neg (by omega), if_neg (by omega), if_neg (by omega)]; simp only [j89, b2i, Bool.false_eq_true, if_false]; rfl)
      · refine S_ll5 qX3_holds_43 ?_
        refine S_iconst qX3_holds_45 ?_
        refine S_lushr qX3_holds_46 ?_
        refine S_ll5 qX3_holds_47 ?_
        refine S_ldc2 qX3_holds_49 kX3_49 ?_
        refine S_lor qX3_holds_52 ?_
        refine S_land qX3_holds_53 ?_
        refine S_ls5 qX3_holds_54 (K := ?_)
        refine S_goto qX3_holds_56 ?_
        refine S_inc7 qX3_holds_103 (K := ?_)
        refine S_goto qX3_holds_106 ?_
        refine SW.forget 8 (ih (i + 1) _ (by omega) (by omega) (by omega) ?_)
        rw [← hx]
        congr 1
        simp only [jo_ofInt]
        unfold hldC
        first
          | (rw [if_pos (by omega)]; rfl)
          | (rw [if_neg (by omega), if_pos (by omega)]; rfl)
          | (rw [if_neg (by omega), if_neg (by omega), if_pos (by omega)]; rfl)
          | (rw [if_neg (by omega), if_neg (by omega), if_neg (by omega), j89]; rfl)
          | (rw [if_neg (by omega), if_neg (by omega), if_neg (by omega)]; simp only [j89, b2i, Bool.false_eq_true, if_false]; rfl)
    · refine S_ll5 qX3_holds_27 ?_
      refine S_lconst qX3_holds_29 ?_
      refine S_lxor qX3_holds_30 ?_
      refine S_ls5 qX3_holds_31 (K := ?_)
      refine S_goto qX3_holds_33 ?_
      refine S_inc7 qX3_holds_103 (K := ?_)
      refine S_goto qX3_holds_106 ?_
      refine SW.forget 8 (ih (i + 1) _ (by omega) (by omega) (by omega) ?_)
      rw [← hx]
      congr 1
      simp only [jo_ofInt]
      unfold hldC
      first
        | (rw [if_pos (by omega)]; rfl)
        | (rw [if_neg (by omega), if_pos (by omega)]; rfl)
        | (rw [if_neg (by omega), if_neg (by omega), if_pos (by omega)]; rfl)
        | (rw [if_neg (by omega), if_neg (by omega), if_neg (by omega), j89]; rfl)
        | (rw [if_neg (by omega), if_neg (by omega), if_neg (by omega)]; simp only [j89, b2i, Bool.false_eq_true, if_false]; rfl)
theorem c_holds {g : GC} {h f : Nat} {V : MM} {fr to d : Int} (hh : isH h) (hf : isF f) (rf : 0 ≤ fr ∧ fr ≤ 100) (rt : 0 ≤ to ∧ to ≤ 100) (hc : ∀ i, 0 ≤ i ∧ i < 100 → -3 ≤ V (h + 3) i ∧ V (h + 3) i ≤ 1799) (rd : 0 ≤ d ∧ d < 6) (rb : 0 ≤ V f 1 ∧ V f 1 ≤ 20000) (re : ∀ l, 0 ≤ envS (fsC V f) d l ∧ envS (fsC V f) d l ≤ 99) : Ct g mX3_holds 3 [vr h, vi fr, vi to, vr f, vi d] V (RE V (b2i (holC (V (h + 3)) (fsC V f) d fr to))) := by
  refine Ct.of (ls := [some (vr h), some (vi fr), some (vi to), some (vr f), some (vi d), none, none, none, none]) (plainFor_of_name (by decide +kernel)) rfl (by exact Nat.le_of_ble_eq_true rfl) (fun X hz hD => ?_)
  refine S_lconst qX3_holds_0 ?_
  refine S_ls5 qX3_holds_1 (K := ?_)
  refine S_il1 qX3_holds_3 ?_
  refine S_is7 qX3_holds_4 (K := ?_)
  exact hold_loop hh hf rt hc rd rb re hz hD ⟨rfl, rfl⟩ _ fr (Int64.ofInt 0) (by omega) (by omega) rfl rfl
