/-- which places of a memory stand for anything -/
def inR (k : Nat) (i : Int) : Prop := match sh k with
  | .inl o => 0 ≤ i ∧ i < o.2.length
  | .inr a => 0 ≤ i ∧ i < a.2
theorem arrV_cong (c : ClassId) {n : Nat} {z z' : Nat → Value} (h : ∀ j, j < n → z j = z' j) : arrV c n z = arrV c n z' := by
  unfold arrV
  first
    | (congr 1; apply Array.ext <;> simp; intro i hi; exact h i hi)
    | (congr 2; apply List.map_congr_left; intro i hi; exact h i (List.mem_range.mp hi))
    | (simp; intro i hi; exact h i hi)
theorem ent_cong (g : GC) {V V' : MM} {k : Nat} (h : ∀ i, inR k i → V k i = V' k i) {H : Heap} (hP : va_at g.2.1 qcl (g.2.2.1 k, ent g V k) H) : va_at g.2.1 qcl (g.2.2.1 k, ent g V' k) H := by
  unfold ent at hP ⊢
  unfold inR at h
  cases hs : sh k with
  | inl o =>
    rw [hs] at hP h
    have e : o.2.mapIdx (fun j q => fval g q (V k (j : Int))) = o.2.mapIdx (fun j q => fval g q (V' k (j : Int))) := by
      apply List.ext_getElem?
      intro i
      rw [List.getElem?_mapIdx, List.getElem?_mapIdx]
      cases hi : o.2[i]? with
      | none => rfl
      | some q =>
        have hl := (List.getElem?_eq_some_iff.mp hi).1
        simp only [Option.map_some]
        rw [h (i : Int) ⟨by omega, by omega⟩]
    show va_at g.2.1 qcl (g.2.2.1 k, .inr (o.1, o.2.mapIdx (fun j q => fval g q (V' k (j : Int))))) H
    rw [← e]
    exact hP
  | inr a =>
    rw [hs] at hP h
    have e : vp_cell (g.2.2.2.2 a.1) (a.2, cont g a.1 (V k)) = vp_cell (g.2.2.2.2 a.1) (a.2, cont g a.1 (V' k)) := by
      unfold cont
      split
      · rw [vp_cell_l, vp_cell_l]
        exact arrV_cong _ (fun j hj => by rw [h (j : Int) ⟨by omega, by omega⟩])
      · rfl
      · rfl
      · rw [vp_cell_i, vp_cell_i]
        exact arrV_cong _ (fun j hj => by rw [h (j : Int) ⟨by omega, by omega⟩])
    show H[g.2.2.1 k]? = some (vp_cell (g.2.2.2.2 a.1) (a.2, cont g a.1 (V' k)))
    rw [← e]
    exact hP
theorem wl_cong {g : GC} {V V' : MM} {H : Heap} (h : ∀ k i, inR k i → V k i = V' k i) (hP : va_P g.2.1 qcl (wl g V) H) : va_P g.2.1 qcl (wl g V') H := by
  intro k q hk
  obtain ⟨hk2, rfl⟩ := wl_in hk
  exact ent_cong g (h k) (hP k _ (wl_at g V hk2))
theorem SW.castR {g : GC} {X : CX} {own : String} {cc : ByteArray} {pc : Nat} {ls : List (Option AV)} {st : List AV} {V V' : MM} (k : SW g X own cc pc ls st V') (h : ∀ k i, inR k i → V k i = V' k i) : SW g X own cc pc ls st V := by
  obtain ⟨⟨p, e, R, s, m⟩, ⟨args, below, meth, c⟩, ⟨nL, cells, slots, Z⟩⟩ := X
  intro hC H locs lsA hP hS hl
  exact k hC H locs lsA (wl_cong h hP) hS hl
theorem inR_a {k t n : Nat} {i : Int} (hk : ak k = some (t, n)) (h : inR k i) : 0 ≤ i ∧ i < n := by
  unfold inR at h
  unfold ak at hk
  split at hk
  · cases hk
  · rename_i a ha
    rw [ha] at h
    cases hk
    exact h

theorem cp_row {V : MM} {k0 k1 t n : Nat} {z : Int} (hk : ak k1 = some (t, n)) (hz : z = n) : ∀ k i, inR k i → upR V k1 (cpS (V k0) (V k1) 0 0 z) k i = upR V k1 (V k0) k i := by
  intro k i h
  by_cases e : k = k1
  · subst e
    have h2 := inR_a hk h
    rw [upR_s, upR_s]
    unfold cpS
    rw [if_pos (by omega)]
    exact congrArg _ (by omega)
  · rw [upR_n _ e, upR_n _ e]

theorem c_becomeM {g : GC} {f o : Nat} {V : MM} (hf : isF f) (ho : isF o) (hne : f ≠ o) (hq : 0 ≤ V o 2) : Ct g mX2_become 2 [vr f, vr o] V (RW (upR (upR (upR (upR (upR (upR V f (ur (ur (ur (V f) 0 (V o 0)) 1 (V o 1)) 2 (V o 2))) (f + 1) (V (o + 1))) (f + 2) (V (o + 2))) (f + 3) (V (o + 3))) (f + 4) (V (o + 4))) (f + 5) (V (o + 5)))) := by
  refine Ct.of (ls := [some (vr f), some (vr o)]) (plainFor_of_name (by decide +kernel)) rfl (by exact Nat.le_of_ble_eq_true rfl) (fun X hz hD => ?_)
  have hsep : f + 7 ≤ o ∨ o + 7 ≤ f := by unfold isF at hf ho; omega
  refine S_al0 qX2_become_0 ?_
  refine S_al1 qX2_become_1 ?_
  refine S_getI qX2_become_2 fX2_34 (F_0 ho) ?_
  refine S_putI qX2_become_5 fX2_34 (F_0 hf) tX2_0 ?_
  refine S_al0 qX2_become_8 ?_
  refine S_al1 qX2_become_9 ?_
  refine S_getI qX2_become_10 fX2_38 (F_1 ho) ?_
  refine S_putI qX2_become_13 fX2_38 (F_1 hf) tX2_1 ?_
  refine S_al0 qX2_become_16 ?_
  refine S_al1 qX2_become_17 ?_
  refine S_getH qX2_become_18 fX2_30 (F_2 ho) ?_
  refine S_putH qX2_become_21 fX2_30 (F_2 hf) tX2_2 ?_
  refine S_al1 qX2_become_24 ?_
  refine S_getR qX2_become_25 fX2_9 (F_3 ho) ?_
  refine S_iconst qX2_become_28 ?_
  refine S_al0 qX2_become_29 ?_
  refine S_getR qX2_become_30 fX2_9 (F_3 hf) ?_
  refine S_iconst qX2_become_33 ?_
  refine S_bipush (d := qX2_become_34) (k := ?_)
  refine S_copyI hD qX2_become_36 cp_X2_41 (Fa_1 ho) (Fa_1 hf) (K := ?_)
  refine SW.castR ?_ (cp_row (Fa_1 hf) (by rfl))
  refine S_al1 qX2_become_39 ?_
  refine S_getR qX2_become_40 fX2_15 (F_4 ho) ?_
  refine S_iconst qX2_become_43 ?_
  refine S_al0 qX2_become_44 ?_
  refine S_getR qX2_become_45 fX2_15 (F_4 hf) ?_
  refine S_iconst qX2_become_48 ?_
  refine S_bipush (d := qX2_become_49) (k := ?_)
  refine S_copyI hD qX2_become_51 cp_X2_41 (Fa_2 ho) (Fa_2 hf) (K := ?_)
  refine SW.castR ?_ (cp_row (Fa_2 hf) (by rfl))
  refine S_al1 qX2_become_54 ?_
  refine S_getR qX2_become_55 fX2_18 (F_5 ho) ?_
  refine S_iconst qX2_become_58 ?_
  refine S_al0 qX2_become_59 ?_
  refine S_getR qX2_become_60 fX2_18 (F_5 hf) ?_
  refine S_iconst qX2_become_63 ?_
  refine S_bipush (d := qX2_become_64) (k := ?_)
  refine S_copyI hD qX2_become_66 cp_X2_41 (Fa_3 ho) (Fa_3 hf) (K := ?_)
  refine SW.castR ?_ (cp_row (Fa_3 hf) (by rfl))
  refine S_al1 qX2_become_69 ?_
  refine S_getR qX2_become_70 fX2_21 (F_6 ho) ?_
  refine S_iconst qX2_become_73 ?_
  refine S_al0 qX2_become_74 ?_
  refine S_getR qX2_become_75 fX2_21 (F_6 hf) ?_
  refine S_iconst qX2_become_78 ?_
  refine S_bipush (d := qX2_become_79) (k := ?_)
  refine S_copyI hD qX2_become_81 cp_X2_41 (Fa_4 ho) (Fa_4 hf) (K := ?_)
  refine SW.castR ?_ (cp_row (Fa_4 hf) (by rfl))
  refine S_al1 qX2_become_84 ?_
  refine S_getR qX2_become_85 fX2_24 (F_7 ho) ?_
  refine S_iconst qX2_become_88 ?_
  refine S_al0 qX2_become_89 ?_
  refine S_getR qX2_become_90 fX2_24 (F_7 hf) ?_
  refine S_iconst qX2_become_93 ?_
  refine S_bipush (d := qX2_become_94) (k := ?_)
  refine S_copyI hD qX2_become_96 cp_X2_41 (Fa_5 ho) (Fa_5 hf) (K := ?_)
  refine SW.castR ?_ (cp_row (Fa_5 hf) (by rfl))
  refine S_vret hz qX2_become_99 ?_
  refine RW.mk ?_
  simp only [upR_n _ (show o ≠ f by omega), upR_n _ (show o + 1 ≠ f by omega), upR_n _ (show o + 2 ≠ f by omega), upR_n _ (show o + 2 ≠ f + 1 by omega), upR_n _ (show o + 3 ≠ f by omega), upR_n _ (show o + 3 ≠ f + 1 by omega), upR_n _ (show o + 3 ≠ f + 2 by omega), upR_n _ (show o + 4 ≠ f by omega), upR_n _ (show o + 4 ≠ f + 1 by omega), upR_n _ (show o + 4 ≠ f + 2 by omega), upR_n _ (show o + 4 ≠ f + 3 by omega), upR_n _ (show o + 5 ≠ f by omega), upR_n _ (show o + 5 ≠ f + 1 by omega), upR_n _ (show o + 5 ≠ f + 2 by omega), upR_n _ (show o + 5 ≠ f + 3 by omega), upR_n _ (show o + 5 ≠ f + 4 by omega), upR_s, upR_u, Int.toNat_of_nonneg hq]

theorem become_at {V : MM} {f o : Nat} {hs : HS} {s : FS} (hf : isF f) (hne : f ≠ o) (hF : FlC V o hs s) : FlC (upR (upR (upR (upR (upR (upR V f (ur (ur (ur (V f) 0 (V o 0)) 1 (V o 1)) 2 (V o 2))) (f + 1) (V (o + 1))) (f + 2) (V (o + 2))) (f + 3) (V (o + 3))) (f + 4) (V (o + 4))) (f + 5) (V (o + 5))) f hs s := by
  obtain ⟨ho, rfl, hH, h0, hI⟩ := hF
  have hfb := isF_b hf
  have hob := isF_b ho
  generalize hW : upR (upR (upR (upR (upR (upR V f (ur (ur (ur (V f) 0 (V o 0)) 1 (V o 1)) 2 (V o 2))) (f + 1) (V (o + 1))) (f + 2) (V (o + 2))) (f + 3) (V (o + 3))) (f + 4) (V (o + 4))) (f + 5) (V (o + 5)) = W
  have a0 : W f = ur (ur (ur (V f) 0 (V o 0)) 1 (V o 1)) 2 (V o 2) := by rw [← hW]; simp only [upR_n _ (show f ≠ f + 1 by omega), upR_n _ (show f ≠ f + 2 by omega), upR_n _ (show f ≠ f + 3 by omega), upR_n _ (show f ≠ f + 4 by omega), upR_n _ (show f ≠ f + 5 by omega), upR_s]
  have a1 : W (f + 1) = V (o + 1) := by rw [← hW]; simp only [upR_n _ (show f + 1 ≠ f + 2 by omega), upR_n _ (show f + 1 ≠ f + 3 by omega), upR_n _ (show f + 1 ≠ f + 4 by omega), upR_n _ (show f + 1 ≠ f + 5 by omega), upR_s]
  have a2 : W (f + 2) = V (o + 2) := by rw [← hW]; simp only [upR_n _ (show f + 2 ≠ f + 3 by omega), upR_n _ (show f + 2 ≠ f + 4 by omega), upR_n _ (show f + 2 ≠ f + 5 by omega), upR_s]
  have a3 : W (f + 3) = V (o + 3) := by rw [← hW]; simp only [upR_n _ (show f + 3 ≠ f + 4 by omega), upR_n _ (show f + 3 ≠ f + 5 by omega), upR_s]
  have a4 : W (f + 4) = V (o + 4) := by rw [← hW]; simp only [upR_n _ (show f + 4 ≠ f + 5 by omega), upR_s]
  have a5 : W (f + 5) = V (o + 5) := by rw [← hW, upR_s]
  have b2 : W f 2 = V o 2 := by rw [a0, ur_s]
  refine ⟨hf, ?_, ?_, by rw [b2]; exact h0, hI⟩
  · show _ = (W f 0, W f 1, W (f + 1), W (f + 2), W (f + 3), W (f + 4), W (f + 5))
    rw [a0, a1, a2, a3, a4, a5, ur_n _ (by omega), ur_n _ (by omega), ur_s, ur_n _ (by omega), ur_s]
  · rw [b2]
    refine HlC_cong hH (fun k h1 h2 => ?_)
    rw [← hW, upR_n _ (by omega), upR_n _ (by omega), upR_n _ (by omega), upR_n _ (by omega), upR_n _ (by omega), upR_n _ (by omega)]
theorem c_become {g : GC} {f o : Nat} {V : MM} {hs : HS} {s : FS} (hf : isF f) (hne : f ≠ o) (hF : FlC V o hs s) : Ct g mX2_become 2 [vr f, vr o] V (RV (fun V' => FlC V' f hs s ∧ Sm V V' f 6 ∧ V' f 2 = V o 2)) :=
  (c_becomeM hf hF.1 hne hF.2.2.2.1).mono (fun r V' h => by
    obtain ⟨rfl, rfl⟩ := h
    have hfb := isF_b hf
    have hF2 := become_at hf hne hF
    refine ⟨rfl, hF2, fun k hk => ?_, ?_⟩
    · rw [upR_n _ (by omega), upR_n _ (by omega), upR_n _ (by omega), upR_n _ (by omega), upR_n _ (by omega), upR_n _ (by omega)]
    · rw [upR_n _ (by omega), upR_n _ (by omega), upR_n _ (by omega), upR_n _ (by omega), upR_n _ (by omega), upR_s, ur_s])
