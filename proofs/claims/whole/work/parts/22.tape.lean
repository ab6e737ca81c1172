section RS
variable {g : GC} {X : CX} {own : String} {cc : ByteArray} {pc nx tgt : Nat} {ls : List (Option AV)} {st : List AV} {V : MM}
/-- a static field: its link -/
def SL (own : String) (idx : Nat) (C n d : String) : Prop := Cond.fieldLink own idx C n d ∈ Gs ∨ ∃ host, Cond.fieldLinkNest own idx C n d host ∈ Ns
theorem S_gets {idx : Nat} {C n d : String} {v : AV} (dd : DI cc pc (.getstatic idx) 3 nx) (hl0 : SL own idx C n d) (hv : ∀ g' : GC, ∀ U : State, ∀ H : Heap, Ro g' U H → va_Z C n d (cv g' v) g'.2.2.2.1 U H) (K : SW g X own cc nx ls (v :: st) V) : SW g X own cc pc ls st V := by
  obtain ⟨⟨p, e, R, s, m⟩, ⟨args, below, meth, c⟩, ⟨nL, cells, slots, Z⟩⟩ := X
  obtain ⟨hd, rfl⟩ := dd
  intro hC H locs lsA hP hS hl
  obtain ⟨hx, hb, hml, hown, hts, hW, hR⟩ := id hC
  rcases hl0 with hl0 | ⟨host, hl0⟩
  · exact va_gets hx hb (hv g s s.heap hW.2.2.1) hS hown (hts _ hl0) (fun _ h => h) hd (K hC H locs lsA hP hS hl)
  · exact va_getsN hx hb (hv g s s.heap hW.2.2.1) hS hown (va_Nw.use rfl (hW.2.2.2.2 _ hl0)) (fun _ h => h) hd (K hC H locs lsA hP hS hl)
theorem S_tlen {k N : Nat} {f : Nat → Value} {ty : FieldType} (dd : DI cc pc .arraylength 1 nx) (hv : ∀ g' : GC, ∀ U : State, ∀ H : Heap, Ro g' U H → va_T ty (g'.2.2.1 k) N f g'.2.2.2.1 U H) (K : SW g X own cc nx ls (vi (N : Int) :: st) V) : SW g X own cc pc ls (vr k :: st) V := by
  obtain ⟨⟨p, e, R, s, m⟩, ⟨args, below, meth, c⟩, ⟨nL, cells, slots, Z⟩⟩ := X
  obtain ⟨hd, rfl⟩ := dd
  intro hC H locs lsA hP hS hl
  obtain ⟨hx, hb, hml, hown, hts, hW, hR⟩ := id hC
  obtain ⟨cell, h1, h2, h3, h4, h5, h6, h7⟩ := (hv g s s.heap hW.2.2.1).kept hS.2.1
  exact W.alen (n := Int32.ofNat N) hx hb h1 h2 h5 rfl rfl hd (by
    have := K hC H locs lsA hP hS hl
    rw [List.map_cons] at this
    show W p g.1 e R s m args below meth c H locs cells slots Z (F0 m (pc + 1) lsA (.int (Int32.ofNat N) :: st.map (cv g)))
    rw [← Int32.ofInt_eq_ofNat]
    exact this)
theorem S_tild {k N : Nat} {f : Nat → Int32} {i z : Int} (dd : DI cc pc .iaload 1 nx) (hv : ∀ g' : GC, ∀ U : State, ∀ H : Heap, Ro g' U H → va_T .int (g'.2.2.1 k) N (fun j => .int (f j)) g'.2.2.2.1 U H) (hi : 0 ≤ i ∧ i < N ∧ i < 1000) (hz : f i.toNat = Int32.ofInt z) (K : SW g X own cc nx ls (vi z :: st) V) : SW g X own cc pc ls (vi i :: vr k :: st) V := by
  obtain ⟨⟨p, e, R, s, m⟩, ⟨args, below, meth, c⟩, ⟨nL, cells, slots, Z⟩⟩ := X
  obtain ⟨hd, rfl⟩ := dd
  intro hC H locs lsA hP hS hl
  obtain ⟨hx, hb, hml, hown, hts, hW, hR⟩ := id hC
  obtain ⟨cell, h1, h2, h3, h4, h5, h6, h7⟩ := (hv g s s.heap hW.2.2.1).kept hS.2.1
  have hc : (Int32.ofInt i).toNatClampNeg = i.toNat := io_cl (by omega)
  have hin : ¬ (Int32.ofInt i < 0 ∨ cell.slots.size ≤ (Int32.ofInt i).toNatClampNeg) := by
    rintro (q | q)
    · have := (io_lt (a := i) (b := 0) (by omega) (by omega)).mp q
      omega
    · rw [hc] at q
      omega
  refine W.iald (v := .int (Int32.ofInt z)) hx hb h1 h2 h3 hin ?_ rfl rfl hd (K hC H locs lsA hP hS hl)
  rw [hc, h6 i.toNat (by omega)]
  show some (Value.int (f i.toNat)) = _
  rw [hz]
theorem S_tbld {k N : Nat} {f : Nat → Int32} {i z : Int} (dd : DI cc pc .baload 1 nx) (hv : ∀ g' : GC, ∀ U : State, ∀ H : Heap, Ro g' U H → va_T .byte (g'.2.2.1 k) N (fun j => .int (f j)) g'.2.2.2.1 U H) (hi : 0 ≤ i ∧ i < N ∧ i < 1000) (hz : f i.toNat = Int32.ofInt z) (K : SW g X own cc nx ls (vi z :: st) V) : SW g X own cc pc ls (vi i :: vr k :: st) V := by
  obtain ⟨⟨p, e, R, s, m⟩, ⟨args, below, meth, c⟩, ⟨nL, cells, slots, Z⟩⟩ := X
  obtain ⟨hd, rfl⟩ := dd
  intro hC H locs lsA hP hS hl
  obtain ⟨hx, hb, hml, hown, hts, hW, hR⟩ := id hC
  obtain ⟨cell, h1, h2, h3, h4, h5, h6, h7⟩ := (hv g s s.heap hW.2.2.1).kept hS.2.1
  have hc : (Int32.ofInt i).toNatClampNeg = i.toNat := io_cl (by omega)
  have hin : ¬ (Int32.ofInt i < 0 ∨ cell.slots.size ≤ (Int32.ofInt i).toNatClampNeg) := by
    rintro (q | q)
    · have := (io_lt (a := i) (b := 0) (by omega) (by omega)).mp q
      omega
    · rw [hc] at q
      omega
  refine W.bald (v := .int (Int32.ofInt z)) hx hb h1 h2 h3 hin ?_ rfl rfl hd (K hC H locs lsA hP hS hl)
  rw [hc, h6 i.toNat (by omega)]
  show some (Value.int (f i.toNat)) = _
  rw [hz]
theorem ro_above {g' : GC} {U : State} {H : Heap} (h : Ro g' U H) : va_T .int (g'.2.2.1 220) 7 (fun j => .int (roAbove.getD j 0)) g'.2.2.2.1 U H := h.2.1.2
theorem ro_bodies {g' : GC} {U : State} {H : Heap} (h : Ro g' U H) : va_T .int (g'.2.2.1 221) 21 (fun j => .int (roBodies.getD j 0)) g'.2.2.2.1 U H := h.2.2.2
theorem S_ldcS {idx k : Nat} {tx : String} (dd : DI cc pc (.ldc idx) 2 nx) (hv : ∀ g' : GC, ∀ U : State, roRef g' U → vk_R own idx tx (g'.2.2.1 k) U) (K : SW g X own cc nx ls (vr k :: st) V) : SW g X own cc pc ls st V := by
  obtain ⟨⟨p, e, R, s, m⟩, ⟨args, below, meth, c⟩, ⟨nL, cells, slots, Z⟩⟩ := X
  obtain ⟨hd, rfl⟩ := dd
  intro hC H locs lsA hP hS hl
  obtain ⟨hx, hb, hml, hown, hts, hW, hR⟩ := id hC
  exact va_ldcS hx hb hown (hv g s hW.2.2.2) hd (K hC H locs lsA hP hS hl)
end RS
theorem sX6_265 : SL RX6 265 "TwoBeatsAgo" "KIND_ABOVE" "[I" := Or.inl (Gs_of (tb_4 (i := 37) (by decide +kernel)) rfl)
theorem sX0_53 : SL RX0 53 "TwoBeatsAgo" "KIND_ABOVE" "[I" := Or.inr ⟨"TwoBeatsAgo", (Ns_of (tb_4 (i := 23) (by decide +kernel)) rfl)⟩
theorem sX0_50 : SL RX0 50 "TwoBeatsAgo$Acts" "BODIES" "[I" := Or.inl (Gs_of (tb_4 (i := 21) (by decide +kernel)) rfl)
theorem sJ0_38 : SL RJ0 38 "java/lang/String" "COMPACT_STRINGS" "Z" := Or.inl (Gs_of (tb_2 (i := 126) (by decide +kernel)) rfl)
theorem eq_if {a b : Int} {x y : Int} : (if a < b then x else y) = (if a < b then x else y) := rfl
theorem fill_loop {g : GC} {X : CX} {Q : Option AV → MM → Prop} {k n0 : Nat} {V : MM} {z : Int} (hk : ak k = some (1, n0)) (hn0 : n0 ≤ 1000) (hz : Fi g X none Q) (hQ : Q none (upR V k (lz (V k) 0 z n0))) : ∀ (n : Nat) (i : Int) (V1 : MM), 0 ≤ i → i + n = n0 → V1 = upR V k (lz (V k) 0 z i) → SW g X RJ7 cJ7_fill_d0a16 6 [some (vr k), some (vl z), none, some (vi i), some (vi (n0 : Int))] [] V1 := by
  intro n
  induction n with
  | zero =>
    intro i V1 h0 h1 hV
    have e : i = n0 := by omega
    subst e
    refine S_il3 qJ7_fill_d0a16_6 ?_
    refine S_il4 qJ7_fill_d0a16_7 ?_
    refine S_icmp_ge (d := qJ7_fill_d0a16_9) (kt := fun c9 => ?_) (kf := fun c9 => ?_)
    rotate_left
    · omega
    refine S_vret hz qJ7_fill_d0a16_22 ?_
    rw [hV]
    exact hQ
  | succ n ih =>
    intro i V1 h0 h1 hV
    have e4 : V1 k = lz (V k) 0 z i := by rw [hV, upR_s]
    refine S_il3 qJ7_fill_d0a16_6 ?_
    refine S_il4 qJ7_fill_d0a16_7 ?_
    refine S_icmp_ge (d := qJ7_fill_d0a16_9) (kt := fun c9 => ?_) (kf := fun c9 => ?_)
    · omega
    refine S_al0 qJ7_fill_d0a16_12 ?_
    refine S_il3 qJ7_fill_d0a16_13 ?_
    refine S_ll1 qJ7_fill_d0a16_14 ?_
    refine S_last qJ7_fill_d0a16_15 hk (K := ?_)
    refine S_inc3 qJ7_fill_d0a16_16 (K := ?_)
    refine S_goto qJ7_fill_d0a16_19 ?_
    refine ih (i + 1) _ (by omega) (by omega) ?_
    rw [e4, lz_1 _ h0 (by omega), hV, upR_u]
theorem c_fillL {g : GC} {k n0 : Nat} {V : MM} {z : Int} (hk : ak k = some (1, n0)) (hn0 : n0 ≤ 1000) : Ct g mJ7_fill_d0a16 1 [vr k, vl z] V (RW (upR V k (lz (V k) 0 z n0))) := by
  refine Ct.of (ls := [some (vr k), some (vl z), none, none, none]) (plainFor_of_name (by decide +kernel)) rfl (by exact Nat.le_of_ble_eq_true rfl) (fun X hz hD => ?_)
  refine S_iconst qJ7_fill_d0a16_0 ?_
  refine S_is3 qJ7_fill_d0a16_1 (K := ?_)
  refine S_al0 qJ7_fill_d0a16_2 ?_
  refine S_alen qJ7_fill_d0a16_3 hk ?_
  refine S_is4 qJ7_fill_d0a16_4 (K := ?_)
  exact fill_loop hk hn0 hz ⟨rfl, rfl⟩ n0 0 V (by omega) (by omega) (by rw [lz_0, upR_id])

theorem filI_loop {g : GC} {X : CX} {Q : Option AV → MM → Prop} {k n0 : Nat} {V : MM} {z : Int} (hk : ak k = some (0, n0)) (hn0 : n0 ≤ 1000) (hz : Fi g X none Q) (hQ : Q none (upR V k (lz (V k) 0 z n0))) : ∀ (n : Nat) (i : Int) (V1 : MM), 0 ≤ i → i + n = n0 → V1 = upR V k (lz (V k) 0 z i) → SW g X RJ7 cJ7_fill_53178 5 [some (vr k), some (vi z), some (vi i), some (vi (n0 : Int))] [] V1 := by
  intro n
  induction n with
  | zero =>
    intro i V1 h0 h1 hV
    have e : i = n0 := by omega
    subst e
    refine S_il2 qJ7_fill_53178_5 ?_
    refine S_il3 qJ7_fill_53178_6 ?_
    refine S_icmp_ge (d := qJ7_fill_53178_7) (kt := fun c7 => ?_) (kf := fun c7 => ?_)
    rotate_left
    · omega
    refine S_vret hz qJ7_fill_53178_20 ?_
    rw [hV]
    exact hQ
  | succ n ih =>
    intro i V1 h0 h1 hV
    have e4 : V1 k = lz (V k) 0 z i := by rw [hV, upR_s]
    refine S_il2 qJ7_fill_53178_5 ?_
    refine S_il3 qJ7_fill_53178_6 ?_
    refine S_icmp_ge (d := qJ7_fill_53178_7) (kt := fun c7 => ?_) (kf := fun c7 => ?_)
    · omega
    refine S_al0 qJ7_fill_53178_10 ?_
    refine S_il2 qJ7_fill_53178_11 ?_
    refine S_il1 qJ7_fill_53178_12 ?_
    refine S_iast qJ7_fill_53178_13 hk (K := ?_)
    refine S_inc2 qJ7_fill_53178_14 (K := ?_)
    refine S_goto qJ7_fill_53178_17 ?_
    refine ih (i + 1) _ (by omega) (by omega) ?_
    rw [e4, lz_1 _ h0 (by omega), hV, upR_u]
theorem c_fillI {g : GC} {k n0 : Nat} {V : MM} {z : Int} (hk : ak k = some (0, n0)) (hn0 : n0 ≤ 1000) : Ct g mJ7_fill_53178 1 [vr k, vi z] V (RW (upR V k (lz (V k) 0 z n0))) := by
  refine Ct.of (ls := [some (vr k), some (vi z), none, none]) (plainFor_of_name (by decide +kernel)) rfl (by exact Nat.le_of_ble_eq_true rfl) (fun X hz hD => ?_)
  refine S_iconst qJ7_fill_53178_0 ?_
  refine S_is2 qJ7_fill_53178_1 (K := ?_)
  refine S_al0 qJ7_fill_53178_2 ?_
  refine S_alen qJ7_fill_53178_3 hk ?_
  refine S_is3 qJ7_fill_53178_4 (K := ?_)
  exact filI_loop hk hn0 hz ⟨rfl, rfl⟩ n0 0 V (by omega) (by omega) (by rw [lz_0, upR_id])

theorem c_tapeBecome {g : GC} {t : Nat} {V : MM} {s n : Int} (ht : isT t) (rn : 0 ≤ n ∧ n ≤ 60) : Ct g mX5_become 2 [vr t, vi s, vi n] V (RW (upR (upR V t (ur (ur (V t) 0 s) 1 n)) (t + 1) (lz (V (t + 1)) 0 0 60))) := by
  refine Ct.of (ls := [some (vr t), some (vi s), some (vi n)]) (plainFor_of_name (by decide +kernel)) rfl (by exact Nat.le_of_ble_eq_true rfl) (fun X hz hD => ?_)
  refine S_al0 qX5_become_0 ?_
  refine S_il1 qX5_become_1 ?_
  refine S_putI qX5_become_2 fX5_9 (T_0 ht) tX5_0 ?_
  refine S_al0 qX5_become_5 ?_
  refine S_iconst qX5_become_6 ?_
  refine S_il2 qX5_become_7 ?_
  refine S_bipush (d := qX5_become_8) (k := ?_)
  refine S_S2E hD qX5_become_10 lX5_17 sJ9_min_7cf53 (c_min (by omega) (by omega)) (K := ?_)
  refine S_S2E hD qX5_become_13 lX5_23 sJ9_max_7cf53 (c_max (by omega) (by first | omega | (split <;> omega))) (K := ?_)
  refine S_putI qX5_become_16 fX5_26 (T_1 ht) tX5_1 ?_
  refine S_al0 qX5_become_19 ?_
  refine S_getR qX5_become_20 fX5_13 (T_2 ht) ?_
  refine S_lconst qX5_become_23 ?_
  refine S_S2W hD qX5_become_24 lX5_29 sJ7_fill_d0a16 (c_fillL (Ta_1 ht) (by omega)) (K := ?_)
  refine S_vret hz qX5_become_27 ?_
  refine RW.mk ?_
  have e1 : (if (60 : Int) < n then 60 else n) = n := if_neg (by omega)
  have e2 : (if (0 : Int) < n then n else 0) = n := by split <;> omega
  simp only [upR_n _ (show t + 1 ≠ t by omega), upR_n _ (show t ≠ t + 1 by omega), upR_s, upR_u, e1, e2]
  rfl

/-- an item cut to its sort -/
def fitS (s z : Int) : Int :=
  if s = 0 then (Int32.ofInt (((Int64.ofInt z).toInt32).toInt)).toInt8.toInt32.toInt
  else if s = 1 then (Int32.ofInt (((Int64.ofInt z).toInt32).toInt)).toInt16.toInt32.toInt
  else if s = 2 then ((Int64.ofInt z).toInt32).toInt
  else if s = 4 then (if Int64.ofInt z = Int64.ofInt 0 then 0 else 1) else z
theorem i32_rg (x : Int32) : -2147483648 ≤ x.toInt ∧ x.toInt ≤ 2147483647 := io_rg x

theorem c_fitted {g : GC} {t : Nat} {V : MM} {z : Int} (ht : isT t) (rs : -1 ≤ V t 0 ∧ V t 0 ≤ 4) : Ct g mX5_fitted 1 [vr t, vl z] V (REL V (fitS (V t 0) z)) := by
  refine Ct.of (ls := [some (vr t), some (vl z), none]) (plainFor_of_name (by decide +kernel)) rfl (by exact Nat.le_of_ble_eq_true rfl) (fun X hz hD => ?_)
  have g1 := io_rg ((Int64.ofInt z).toInt32)
  have g2 := io_rg ((Int32.ofInt (((Int64.ofInt z).toInt32).toInt)).toInt8.toInt32)
  have g3 := io_rg ((Int32.ofInt (((Int64.ofInt z).toInt32).toInt)).toInt16.toInt32)
  have g4 : (lg_cmp (Int64.ofInt z) (Int64.ofInt ((0 : Fin 2) : Nat))).toInt = 0 ↔ Int64.ofInt z = Int64.ofInt 0 := lg_eq
  refine S_al0 qX5_fitted_0 ?_
  refine S_getI qX5_fitted_1 fX5_9 (T_0 ht) ?_
  by_cases s4_0 : V t 0 = 0
  · refine S_tabIn (tgt := 40) (off := 36) qX5_fitted_4 (by omega) (by omega) (by rw [s4_0]; rfl) (by decide) ?_
    refine S_ll1 qX5_fitted_40 ?_
    refine S_l2i qX5_fitted_41 ?_
    refine S_i2b qX5_fitted_42 ?_
    refine S_i2l (d := qX5_fitted_43) (k := ?_)
    refine S_lret hz qX5_fitted_44 ?_
    refine REL.mk ?_
    unfold fitS
    first
      | (rw [if_pos (by omega)]; done)
      | (rw [if_neg (by omega), if_pos (by omega)]; done)
      | (rw [if_neg (by omega), if_neg (by omega), if_pos (by omega)]; done)
      | (rw [if_neg (by omega), if_neg (by omega), if_neg (by omega), if_neg (by omega)]; done)
      | (rw [if_neg (by omega), if_neg (by omega), if_neg (by omega), if_pos (by omega), if_pos (g4.mp c57)]; done)
      | (rw [if_neg (by omega), if_neg (by omega), if_neg (by omega), if_pos (by omega), if_neg (fun q => c57 (g4.mpr q))]; done)
      | (rw [if_neg (by omega), if_neg (by omega), if_neg (by omega), if_pos (by omega), if_pos (g4.mp c57)]; rfl)
      | (rw [if_neg (by omega), if_neg (by omega), if_neg (by omega), if_pos (by omega), if_neg (fun q => c57 (g4.mpr q))]; rfl)
  by_cases s4_1 : V t 0 = 1
  · refine S_tabIn (tgt := 45) (off := 41) qX5_fitted_4 (by omega) (by omega) (by rw [s4_1]; rfl) (by decide) ?_
    refine S_ll1 qX5_fitted_45 ?_
    refine S_l2i qX5_fitted_46 ?_
    refine S_i2s qX5_fitted_47 ?_
    refine S_i2l (d := qX5_fitted_48) (k := ?_)
    refine S_lret hz qX5_fitted_49 ?_
    refine REL.mk ?_
    unfold fitS
    first
      | (rw [if_pos (by omega)]; done)
      | (rw [if_neg (by omega), if_pos (by omega)]; done)
      | (rw [if_neg (by omega), if_neg (by omega), if_pos (by omega)]; done)
      | (rw [if_neg (by omega), if_neg (by omega), if_neg (by omega), if_neg (by omega)]; done)
      | (rw [if_neg (by omega), if_neg (by omega), if_neg (by omega), if_pos (by omega), if_pos (g4.mp c57)]; done)
      | (rw [if_neg (by omega), if_neg (by omega), if_neg (by omega), if_pos (by omega), if_neg (fun q => c57 (g4.mpr q))]; done)
      | (rw [if_neg (by omega), if_neg (by omega), if_neg (by omega), if_pos (by omega), if_pos (g4.mp c57)]; rfl)
      | (rw [if_neg (by omega), if_neg (by omega), if_neg (by omega), if_pos (by omega), if_neg (fun q => c57 (g4.mpr q))]; rfl)
  by_cases s4_2 : V t 0 = 2
  · refine S_tabIn (tgt := 50) (off := 46) qX5_fitted_4 (by omega) (by omega) (by rw [s4_2]; rfl) (by decide) ?_
    refine S_ll1 qX5_fitted_50 ?_
    refine S_l2i qX5_fitted_51 ?_
    refine S_i2l (d := qX5_fitted_52) (k := ?_)
    refine S_lret hz qX5_fitted_53 ?_
    refine REL.mk ?_
    unfold fitS
    first
      | (rw [if_pos (by omega)]; done)
      | (rw [if_neg (by omega), if_pos (by omega)]; done)
      | (rw [if_neg (by omega), if_neg (by omega), if_pos (by omega)]; done)
      | (rw [if_neg (by omega), if_neg (by omega), if_neg (by omega), if_neg (by omega)]; done)
      | (rw [if_neg (by omega), if_neg (by omega), if_neg (by omega), if_pos (by omega), if_pos (g4.mp c57)]; done)
      | (rw [if_neg (by omega), if_neg (by omega), if_neg (by omega), if_pos (by omega), if_neg (fun q => c57 (g4.mpr q))]; done)
      | (rw [if_neg (by omega), if_neg (by omega), if_neg (by omega), if_pos (by omega), if_pos (g4.mp c57)]; rfl)
      | (rw [if_neg (by omega), if_neg (by omega), if_neg (by omega), if_pos (by omega), if_neg (fun q => c57 (g4.mpr q))]; rfl)
  by_cases s4_3 : V t 0 = 3
  · refine S_tabIn (tgt := 66) (off := 62) qX5_fitted_4 (by omega) (by omega) (by rw [s4_3]; rfl) (by decide) ?_
    refine S_ll1 qX5_fitted_66 ?_
    refine S_lret hz qX5_fitted_67 ?_
    refine REL.mk ?_
    unfold fitS
    first
      | (rw [if_pos (by omega)]; done)
      | (rw [if_neg (by omega), if_pos (by omega)]; done)
      | (rw [if_neg (by omega), if_neg (by omega), if_pos (by omega)]; done)
      | (rw [if_neg (by omega), if_neg (by omega), if_neg (by omega), if_neg (by omega)]; done)
      | (rw [if_neg (by omega), if_neg (by omega), if_neg (by omega), if_pos (by omega), if_pos (g4.mp c57)]; done)
      | (rw [if_neg (by omega), if_neg (by omega), if_neg (by omega), if_pos (by omega), if_neg (fun q => c57 (g4.mpr q))]; done)
      | (rw [if_neg (by omega), if_neg (by omega), if_neg (by omega), if_pos (by omega), if_pos (g4.mp c57)]; rfl)
      | (rw [if_neg (by omega), if_neg (by omega), if_neg (by omega), if_pos (by omega), if_neg (fun q => c57 (g4.mpr q))]; rfl)
  by_cases s4_4 : V t 0 = 4
  · refine S_tabIn (tgt := 54) (off := 50) qX5_fitted_4 (by omega) (by omega) (by rw [s4_4]; rfl) (by decide) ?_
    refine S_ll1 qX5_fitted_54 ?_
    refine S_lconst qX5_fitted_55 ?_
    refine S_lcmp qX5_fitted_56 ?_
    refine S_if_eq (d := qX5_fitted_57) (ha := io_rg _) (kt := fun c57 => ?_) (kf := fun c57 => ?_)
    · refine S_lconst qX5_fitted_64 ?_
      refine S_lret hz qX5_fitted_65 ?_
      refine REL.mk ?_
      unfold fitS
      first
        | (rw [if_pos (by omega)]; done)
        | (rw [if_neg (by omega), if_pos (by omega)]; done)
        | (rw [if_neg (by omega), if_neg (by omega), if_pos (by omega)]; done)
        | (rw [if_neg (by omega), if_neg (by omega), if_neg (by omega), if_neg (by omega)]; done)
        | (rw [if_neg (by omega), if_neg (by omega), if_neg (by omega), if_pos (by omega), if_pos (g4.mp c57)]; done)
        | (rw [if_neg (by omega), if_neg (by omega), if_neg (by omega), if_pos (by omega), if_neg (fun q => c57 (g4.mpr q))]; done)
        | (rw [if_neg (by omega), if_neg (by omega), if_neg (by omega), if_pos (by omega), if_pos (g4.mp c57)]; rfl)
        | (rw [if_neg (by omega), if_neg (by omega), if_neg (by omega), if_pos (by omega), if_neg (fun q => c57 (g4.mpr q))]; rfl)
    · refine S_lconst qX5_fitted_60 ?_
      refine S_goto qX5_fitted_61 ?_
      refine S_lret hz qX5_fitted_65 ?_
      refine REL.mk ?_
      unfold fitS
      first
        | (rw [if_pos (by omega)]; done)
        | (rw [if_neg (by omega), if_pos (by omega)]; done)
        | (rw [if_neg (by omega), if_neg (by omega), if_pos (by omega)]; done)
        | (rw [if_neg (by omega), if_neg (by omega), if_neg (by omega), if_neg (by omega)]; done)
        | (rw [if_neg (by omega), if_neg (by omega), if_neg (by omega), if_pos (by omega), if_pos (g4.mp c57)]; done)
        | (rw [if_neg (by omega), if_neg (by omega), if_neg (by omega), if_pos (by omega), if_neg (fun q => c57 (g4.mpr q))]; done)
        | (rw [if_neg (by omega), if_neg (by omega), if_neg (by omega), if_pos (by omega), if_pos (g4.mp c57)]; rfl)
        | (rw [if_neg (by omega), if_neg (by omega), if_neg (by omega), if_pos (by omega), if_neg (fun q => c57 (g4.mpr q))]; rfl)
  refine S_tabOut (tgt := 66) qX5_fitted_4 (by omega) (by omega) (by decide) ?_
  refine S_ll1 qX5_fitted_66 ?_
  refine S_lret hz qX5_fitted_67 ?_
  refine REL.mk ?_
  unfold fitS
  first
    | (rw [if_pos (by omega)]; done)
    | (rw [if_neg (by omega), if_pos (by omega)]; done)
    | (rw [if_neg (by omega), if_neg (by omega), if_pos (by omega)]; done)
    | (rw [if_neg (by omega), if_neg (by omega), if_neg (by omega), if_neg (by omega)]; done)
    | (rw [if_neg (by omega), if_neg (by omega), if_neg (by omega), if_pos (by omega), if_pos (g4.mp c57)]; done)
    | (rw [if_neg (by omega), if_neg (by omega), if_neg (by omega), if_pos (by omega), if_neg (fun q => c57 (g4.mpr q))]; done)
    | (rw [if_neg (by omega), if_neg (by omega), if_neg (by omega), if_pos (by omega), if_pos (g4.mp c57)]; rfl)
    | (rw [if_neg (by omega), if_neg (by omega), if_neg (by omega), if_pos (by omega), if_neg (fun q => c57 (g4.mpr q))]; rfl)

theorem c_hasStretch {g : GC} {t : Nat} {V : MM} {a n : Int} (ht : isT t) (rl : 0 ≤ V t 1 ∧ V t 1 ≤ 60) (ra : -2147483648 ≤ a ∧ a ≤ 2147483647) (rn : -2147483648 ≤ n ∧ n ≤ 2147483647) : Ct g mX5_hasStretch 1 [vr t, vi a, vi n] V (RB V (0 ≤ n ∧ 0 ≤ a ∧ a ≤ V t 1 - n)) := by
  refine Ct.of (ls := [some (vr t), some (vi a), some (vi n)]) (plainFor_of_name (by decide +kernel)) rfl (by exact Nat.le_of_ble_eq_true rfl) (fun X hz hD => ?_)
  refine S_il2 qX5_hasStretch_0 ?_
  refine S_if_lt (d := qX5_hasStretch_1) (kt := fun c1 => ?_) (kf := fun c1 => ?_)
  · refine S_iconst qX5_hasStretch_22 ?_
    refine S_zret hz qX5_hasStretch_23 (by omega) ?_
    exact RB.mk (by omega)
  · refine S_il1 qX5_hasStretch_4 ?_
    refine S_if_lt (d := qX5_hasStretch_5) (kt := fun c5 => ?_) (kf := fun c5 => ?_)
    · refine S_iconst qX5_hasStretch_22 ?_
      refine S_zret hz qX5_hasStretch_23 (by omega) ?_
      exact RB.mk (by omega)
    · refine S_il1 qX5_hasStretch_8 ?_
      refine S_al0 qX5_hasStretch_9 ?_
      refine S_getI qX5_hasStretch_10 fX5_26 (T_1 ht) ?_
      refine S_il2 qX5_hasStretch_13 ?_
      refine S_isub qX5_hasStretch_14 ?_
      refine S_icmp_gt (d := qX5_hasStretch_15) (kt := fun c15 => ?_) (kf := fun c15 => ?_)
      · refine S_iconst qX5_hasStretch_22 ?_
        refine S_zret hz qX5_hasStretch_23 (by omega) ?_
        exact RB.mk (by omega)
      · refine S_iconst qX5_hasStretch_18 ?_
        refine S_goto qX5_hasStretch_19 ?_
        refine S_zret hz qX5_hasStretch_23 (by omega) ?_
        exact RB.mk (by omega)
