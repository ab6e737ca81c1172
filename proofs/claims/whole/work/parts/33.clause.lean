def cl3 (f : Int) (c : CT) (n : Int) (y : Bool × ST) : Bool × CT × ST := if y.1 = true then (true, stp c y.2.2.1 (if f = 108 then n else -n), y.2) else (false, c, y.2)
def cl2 (T : Int → Int) (L f : Int) (c : CT) (n : Int) (t : ST) : Bool × CT × ST := if f = 119 then (true, ((if n < 1 then 1 else n), c.2), t) else if f = 115 then (true, (c.1, n, c.2.2), t) else if ahS T L t.1 = 32 then cl3 f c n (coS T L (t.1 + 1, t.2)) else (false, c, t)
def clB (T : Int → Int) (L f : Int) (c : CT) (x : Bool × ST) : Bool × CT × ST := if x.1 = true then (if (nuS T L x.2.1).1 < 0 then (false, c, ((nuS T L x.2.1).2, x.2.2)) else cl2 T L f c (nuS T L x.2.1).1 ((nuS T L x.2.1).2, x.2.2)) else (false, c, x.2)
/-- a clause, read -/
def clS (T : Int → Int) (L : Int) (c : CT) (s : ST) : Bool × CT × ST := clB T L (ahS T L s.1) c (taL T L (woN (ahS T L s.1)) (lnS (woN (ahS T L s.1))) 0 s)
def clP (W : MM) (h : Nat) (x : Bool × CT × ST) : Int → MM → Prop := fun z V2 => (z = 1 ∧ x.1 = true ∧ V2 = rdM (hbM W h x.2.1) h x.2.2) ∨ (z = 0 ∧ x.1 = false ∧ V2 = rdM (hbM W h x.2.1) h x.2.2)
section CL
variable {T : Int → Int} {L : Int} {c : CT} {s : ST}
theorem cl_1 (h : ¬ (taL T L (woN (ahS T L s.1)) (lnS (woN (ahS T L s.1))) 0 s).1 = true) : clS T L c s = (false, c, (taL T L (woN (ahS T L s.1)) (lnS (woN (ahS T L s.1))) 0 s).2) := if_neg h
theorem cl_2 (h : (taL T L (woN (ahS T L s.1)) (lnS (woN (ahS T L s.1))) 0 s).1 = true) (h2 : (nuS T L (taL T L (woN (ahS T L s.1)) (lnS (woN (ahS T L s.1))) 0 s).2.1).1 < 0) : clS T L c s = (false, c, ((nuS T L (taL T L (woN (ahS T L s.1)) (lnS (woN (ahS T L s.1))) 0 s).2.1).2, (taL T L (woN (ahS T L s.1)) (lnS (woN (ahS T L s.1))) 0 s).2.2)) := (if_pos h).trans (if_pos h2)
theorem cl_3 (h : (taL T L (woN (ahS T L s.1)) (lnS (woN (ahS T L s.1))) 0 s).1 = true) (h2 : ¬ (nuS T L (taL T L (woN (ahS T L s.1)) (lnS (woN (ahS T L s.1))) 0 s).2.1).1 < 0) (h3 : (ahS T L s.1) = 119) : clS T L c s = (true, ((if (nuS T L (taL T L (woN (ahS T L s.1)) (lnS (woN (ahS T L s.1))) 0 s).2.1).1 < 1 then 1 else (nuS T L (taL T L (woN (ahS T L s.1)) (lnS (woN (ahS T L s.1))) 0 s).2.1).1), c.2), ((nuS T L (taL T L (woN (ahS T L s.1)) (lnS (woN (ahS T L s.1))) 0 s).2.1).2, (taL T L (woN (ahS T L s.1)) (lnS (woN (ahS T L s.1))) 0 s).2.2)) := (if_pos h).trans ((if_neg h2).trans (if_pos h3))
theorem cl_4 (h : (taL T L (woN (ahS T L s.1)) (lnS (woN (ahS T L s.1))) 0 s).1 = true) (h2 : ¬ (nuS T L (taL T L (woN (ahS T L s.1)) (lnS (woN (ahS T L s.1))) 0 s).2.1).1 < 0) (h3 : ¬ (ahS T L s.1) = 119) (h4 : (ahS T L s.1) = 115) : clS T L c s = (true, (c.1, (nuS T L (taL T L (woN (ahS T L s.1)) (lnS (woN (ahS T L s.1))) 0 s).2.1).1, c.2.2), ((nuS T L (taL T L (woN (ahS T L s.1)) (lnS (woN (ahS T L s.1))) 0 s).2.1).2, (taL T L (woN (ahS T L s.1)) (lnS (woN (ahS T L s.1))) 0 s).2.2)) := (if_pos h).trans ((if_neg h2).trans ((if_neg h3).trans (if_pos h4)))
theorem cl_5 (h : (taL T L (woN (ahS T L s.1)) (lnS (woN (ahS T L s.1))) 0 s).1 = true) (h2 : ¬ (nuS T L (taL T L (woN (ahS T L s.1)) (lnS (woN (ahS T L s.1))) 0 s).2.1).1 < 0) (h3 : ¬ (ahS T L s.1) = 119) (h4 : ¬ (ahS T L s.1) = 115) (h5 : ¬ ahS T L (nuS T L (taL T L (woN (ahS T L s.1)) (lnS (woN (ahS T L s.1))) 0 s).2.1).2 = 32) : clS T L c s = (false, c, ((nuS T L (taL T L (woN (ahS T L s.1)) (lnS (woN (ahS T L s.1))) 0 s).2.1).2, (taL T L (woN (ahS T L s.1)) (lnS (woN (ahS T L s.1))) 0 s).2.2)) := (if_pos h).trans ((if_neg h2).trans ((if_neg h3).trans ((if_neg h4).trans (if_neg h5))))
theorem cl_6 (h : (taL T L (woN (ahS T L s.1)) (lnS (woN (ahS T L s.1))) 0 s).1 = true) (h2 : ¬ (nuS T L (taL T L (woN (ahS T L s.1)) (lnS (woN (ahS T L s.1))) 0 s).2.1).1 < 0) (h3 : ¬ (ahS T L s.1) = 119) (h4 : ¬ (ahS T L s.1) = 115) (h5 : ahS T L (nuS T L (taL T L (woN (ahS T L s.1)) (lnS (woN (ahS T L s.1))) 0 s).2.1).2 = 32) (h6 : ¬ (coS T L ((nuS T L (taL T L (woN (ahS T L s.1)) (lnS (woN (ahS T L s.1))) 0 s).2.1).2 + 1, (taL T L (woN (ahS T L s.1)) (lnS (woN (ahS T L s.1))) 0 s).2.2)).1 = true) : clS T L c s = (false, c, (coS T L ((nuS T L (taL T L (woN (ahS T L s.1)) (lnS (woN (ahS T L s.1))) 0 s).2.1).2 + 1, (taL T L (woN (ahS T L s.1)) (lnS (woN (ahS T L s.1))) 0 s).2.2)).2) := (if_pos h).trans ((if_neg h2).trans ((if_neg h3).trans ((if_neg h4).trans ((if_pos h5).trans (if_neg h6)))))
theorem cl_7 (h : (taL T L (woN (ahS T L s.1)) (lnS (woN (ahS T L s.1))) 0 s).1 = true) (h2 : ¬ (nuS T L (taL T L (woN (ahS T L s.1)) (lnS (woN (ahS T L s.1))) 0 s).2.1).1 < 0) (h3 : ¬ (ahS T L s.1) = 119) (h4 : ¬ (ahS T L s.1) = 115) (h5 : ahS T L (nuS T L (taL T L (woN (ahS T L s.1)) (lnS (woN (ahS T L s.1))) 0 s).2.1).2 = 32) (h6 : (coS T L ((nuS T L (taL T L (woN (ahS T L s.1)) (lnS (woN (ahS T L s.1))) 0 s).2.1).2 + 1, (taL T L (woN (ahS T L s.1)) (lnS (woN (ahS T L s.1))) 0 s).2.2)).1 = true) : clS T L c s = (true, stp c (coS T L ((nuS T L (taL T L (woN (ahS T L s.1)) (lnS (woN (ahS T L s.1))) 0 s).2.1).2 + 1, (taL T L (woN (ahS T L s.1)) (lnS (woN (ahS T L s.1))) 0 s).2.2)).2.2.1 (if (ahS T L s.1) = 108 then (nuS T L (taL T L (woN (ahS T L s.1)) (lnS (woN (ahS T L s.1))) 0 s).2.1).1 else -(nuS T L (taL T L (woN (ahS T L s.1)) (lnS (woN (ahS T L s.1))) 0 s).2.1).1), (coS T L ((nuS T L (taL T L (woN (ahS T L s.1)) (lnS (woN (ahS T L s.1))) 0 s).2.1).2 + 1, (taL T L (woN (ahS T L s.1)) (lnS (woN (ahS T L s.1))) 0 s).2.2)).2) := (if_pos h).trans ((if_neg h2).trans ((if_neg h3).trans ((if_neg h4).trans ((if_pos h5).trans (if_pos h6)))))
end CL
theorem clP_f {W : MM} {h : Nat} {x : Bool × CT × ST} {t : ST} (e : x = (false, cW W h, t)) : RI (clP W h x) (some (vi 0)) (rdM W h t) := by
  subst e
  exact ⟨0, rfl, Or.inr ⟨rfl, rfl, (congrArg (fun m => rdM m h t) (hb_id W h)).symm⟩⟩
theorem clP_t {W : MM} {h : Nat} {x : Bool × CT × ST} {c : CT} {t : ST} (e : x = (true, c, t)) : RI (clP W h x) (some (vi 1)) (rdM (hbM W h c) h t) := by
  subst e
  exact ⟨1, rfl, Or.inl ⟨rfl, rfl, rfl⟩⟩
theorem bf {b : Bool} (h : b = false) : ¬ b = true := by rw [h]; exact Bool.false_ne_true

theorem c_readClause {g : GC} {W : MM} {h : Nat} {s : ST} (hh : isH h) (hB : BInv W) (hs : RInv s) (hn : 0 ≤ W h 2 ∧ W h 2 < 10) : Ct g mX4_readClause 22 [vr 4, vr h] (rdM W h s) (RI (clP W h (clS (W 5) (W 4 1) (cW W h) s))) := by
  refine Ct.of (ls := [some (vr 4), some (vr h), none, none]) (plainFor_of_name (by decide +kernel)) rfl (by exact Nat.le_of_ble_eq_true rfl) (fun X hz hD => ?_)
  have ha := ahS_rg hB hs.1.1
  have nr := nu_rg (W 5) (W 4 1) (taL (W 5) (W 4 1) (woN (ahS (W 5) (W 4 1) s.1)) (lnS (woN (ahS (W 5) (W 4 1) s.1))) 0 s).2.1
  refine S_al0 qX4_readClause_0 ?_
  refine S_V0E hD qX4_readClause_1 lX4_35 vX4_ahead r4 (c_aheadS hh hB hs) (K := ?_)
  refine S_is2 qX4_readClause_4 (K := ?_)
  refine S_al0 qX4_readClause_5 ?_
  refine S_il2 qX4_readClause_6 ?_
  refine S_S1ER hD qX4_readClause_7 lX4_39 sX4_wordOf (c_wordOf (by omega)) (K := ?_)
  refine S_V1I hD qX4_readClause_10 lX4_43 vX4_takesAll r4 (c_takesAll hh hB (wo_lt _) hs) (kk := fun z10 V10 h10 => ?_)
  obtain ⟨rfl, t10, rfl⟩ | ⟨rfl, t10, rfl⟩ := h10
  · refine S_if_ne (d := qX4_readClause_13) (kt := fun _ => ?_) (kf := fun c => absurd c (by decide))
    have hs1 := ta_inv (T := W 5) (L := W 4 1) (wo_lt (ahS (W 5) (W 4 1) s.1)) (lnS (woN (ahS (W 5) (W 4 1) s.1))) 0 s (by omega) (by omega) hs
    refine S_al0 qX4_readClause_18 ?_
    refine S_V0I hD qX4_readClause_19 lX4_47 vX4_readNumber r4 (c_readNumberR (p := (taL (W 5) (W 4 1) (woN (ahS (W 5) (W 4 1) s.1)) (lnS (woN (ahS (W 5) (W 4 1) s.1))) 0 s).2.1) (q := (taL (W 5) (W 4 1) (woN (ahS (W 5) (W 4 1) s.1)) (lnS (woN (ahS (W 5) (W 4 1) s.1))) 0 s).2.2) hh hB hs1) (kk := fun z19 V19 h19 => ?_)
    obtain ⟨rfl, rfl⟩ := h19
    refine S_is3 qX4_readClause_22 (K := ?_)
    refine S_il3 qX4_readClause_23 ?_
    refine S_if_ge (d := qX4_readClause_24) (kt := fun c24 => ?_) (kf := fun c24 => ?_)
    · have hs2 : RInv ((nuS (W 5) (W 4 1) (taL (W 5) (W 4 1) (woN (ahS (W 5) (W 4 1) s.1)) (lnS (woN (ahS (W 5) (W 4 1) s.1))) 0 s).2.1).2, (taL (W 5) (W 4 1) (woN (ahS (W 5) (W 4 1) s.1)) (lnS (woN (ahS (W 5) (W 4 1) s.1))) 0 s).2.2) := ⟨nu_in hs1.1, hs1.2⟩
      refine S_il2 qX4_readClause_29 ?_
      refine S_bipush (d := qX4_readClause_30) (k := ?_)
      refine S_icmp_ne (d := qX4_readClause_32) (kt := fun c32 => ?_) (kf := fun c32 => ?_)
      · refine S_il2 qX4_readClause_42 ?_
        refine S_bipush (d := qX4_readClause_43) (k := ?_)
        refine S_icmp_ne (d := qX4_readClause_45) (kt := fun c45 => ?_) (kf := fun c45 => ?_)
        · refine S_al0 qX4_readClause_55 ?_
          refine S_bipush (d := qX4_readClause_56) (k := ?_)
          refine S_V1I hD qX4_readClause_58 lX4_31 vX4_takes r4 (c_takesR hh hB hs2 (by omega)) (kk := fun z58 V58 h58 => ?_)
          obtain ⟨rfl, t58, u58, rfl⟩ | ⟨rfl, t58, rfl⟩ := h58
          · refine S_if_eq (d := qX4_readClause_61) (kt := fun c => absurd c (by decide)) (kf := fun _ => ?_)
            have hs3 : RInv ((nuS (W 5) (W 4 1) (taL (W 5) (W 4 1) (woN (ahS (W 5) (W 4 1) s.1)) (lnS (woN (ahS (W 5) (W 4 1) s.1))) 0 s).2.1).2 + 1, (taL (W 5) (W 4 1) (woN (ahS (W 5) (W 4 1) s.1)) (lnS (woN (ahS (W 5) (W 4 1) s.1))) 0 s).2.2) := hs2.nx t58 (by omega)
            refine S_al0 qX4_readClause_64 ?_
            refine S_al1 qX4_readClause_65 ?_
            refine S_iconst qX4_readClause_66 ?_
            refine S_V2I hD qX4_readClause_67 lX4_58 vX4_readAnyOf r4 (c_cond hh hB _ hs3) (kk := fun z67 V67 h67 => ?_)
            obtain ⟨rfl, t67, rfl⟩ | ⟨rfl, t67, rfl⟩ := h67
            · refine S_if_ne (d := qX4_readClause_70) (kt := fun _ => ?_) (kf := fun c => absurd c (by decide))
              refine S_al1 qX4_readClause_75 ?_
              refine S_il2 qX4_readClause_76 ?_
              refine S_bipush (d := qX4_readClause_77) (k := ?_)
              refine S_icmp_ne (d := qX4_readClause_79) (kt := fun c79 => ?_) (kf := fun c79 => ?_)
              · refine S_il3 qX4_readClause_86 ?_
                refine S_ineg qX4_readClause_87 ?_
                refine S_V1W hD qX4_readClause_88 lX4_62 vX3_addStep (H_r hh) (c_hAddStep hh (by rw [rd_h hh, ur_n _ (by omega)]; exact hn)) (K := ?_)
                rw [rd_as hh]
                refine S_iconst qX4_readClause_91 ?_
                refine S_zret hz qX4_readClause_92 (by omega) ?_
                have e7 := cl_7 (c := cW W h) t10 (by omega) (by omega) (by omega) t58 t67
                first
                  | (rw [if_pos (by omega)] at e7; exact clP_t e7)
                  | (rw [if_neg (by omega)] at e7; exact clP_t e7)
              · refine S_il3 qX4_readClause_82 ?_
                refine S_goto qX4_readClause_83 ?_
                refine S_V1W hD qX4_readClause_88 lX4_62 vX3_addStep (H_r hh) (c_hAddStep hh (by rw [rd_h hh, ur_n _ (by omega)]; exact hn)) (K := ?_)
                rw [rd_as hh]
                refine S_iconst qX4_readClause_91 ?_
                refine S_zret hz qX4_readClause_92 (by omega) ?_
                have e7 := cl_7 (c := cW W h) t10 (by omega) (by omega) (by omega) t58 t67
                first
                  | (rw [if_pos (by omega)] at e7; exact clP_t e7)
                  | (rw [if_neg (by omega)] at e7; exact clP_t e7)
            · refine S_if_ne (d := qX4_readClause_70) (kt := fun c => absurd c (by decide)) (kf := fun _ => ?_)
              refine S_iconst qX4_readClause_73 ?_
              refine S_zret hz qX4_readClause_74 (by omega) ?_
              first
                | exact clP_f (cl_6 t10 (by omega) (by omega) (by omega) t58 (bf t67))
                | exact clP_f (cl_5 t10 (by omega) (by omega) (by omega) t58)
          · refine S_if_eq (d := qX4_readClause_61) (kt := fun _ => ?_) (kf := fun c => absurd c (by decide))
            refine S_iconst qX4_readClause_73 ?_
            refine S_zret hz qX4_readClause_74 (by omega) ?_
            first
              | exact clP_f (cl_6 t10 (by omega) (by omega) (by omega) t58 (bf t67))
              | exact clP_f (cl_5 t10 (by omega) (by omega) (by omega) t58)
        · refine S_al1 qX4_readClause_48 ?_
          refine S_il3 qX4_readClause_49 ?_
          refine S_putI qX4_readClause_50 fX4_55 (H_1 hh) tX3_1 ?_
          rw [rd_k hh]
          refine S_iconst qX4_readClause_53 ?_
          refine S_zret hz qX4_readClause_54 (by omega) ?_
          exact clP_t (cl_4 t10 (by omega) (by omega) (by omega))
      · refine S_al1 qX4_readClause_35 ?_
        refine S_il3 qX4_readClause_36 ?_
        refine S_V1W hD qX4_readClause_37 lX4_51 vX3_setWide (H_r hh) (c_setWide hh (by omega)) (K := ?_)
        rw [rd_w hh]
        refine S_iconst qX4_readClause_40 ?_
        refine S_zret hz qX4_readClause_41 (by omega) ?_
        exact clP_t (cl_3 t10 (by omega) (by omega))
    · refine S_iconst qX4_readClause_27 ?_
      refine S_zret hz qX4_readClause_28 (by omega) ?_
      exact clP_f (cl_2 t10 (by omega))
  · refine S_if_ne (d := qX4_readClause_13) (kt := fun c => absurd c (by decide)) (kf := fun _ => ?_)
    refine S_iconst qX4_readClause_16 ?_
    refine S_zret hz qX4_readClause_17 (by omega) ?_
    exact clP_f (cl_1 (bf t10))
