section RT
variable {g : GC} {X : CX} {own : String} {cc : ByteArray} {pc nx tgt : Nat} {ls : List (Option AV)} {st : List AV} {V : MM}
theorem S_ishr {a b : Int} (d : DI cc pc .ishr 1 nx) (k : SW g X own cc nx ls (vi (Int32.ofInt a >>> (Int32.ofInt b &&& 31)).toInt :: st) V) : SW g X own cc pc ls (vi b :: vi a :: st) V := by
  obtain ⟨⟨p, e, R, s, m⟩, ⟨args, below, meth, c⟩, ⟨nL, cells, slots, Z⟩⟩ := X
  obtain ⟨hd, rfl⟩ := d
  intro hC H locs lsA hP hS hl
  have hx := hC.1
  have hb := hC.2.1
  show W p g.1 e R s m args below meth c H locs cells slots Z (F0 m pc lsA (.int (Int32.ofInt b) :: .int (Int32.ofInt a) :: st.map (cv g)))
  refine lv_ishr hx hb hd ?_
  rw [← io_ofInt (Int32.ofInt a >>> (Int32.ofInt b &&& 31))]
  exact k hC H locs lsA hP hS hl
theorem S_bret {x : Int} {Q : Option AV → MM → Prop} (hz : Fi g X (some .byte) Q) (d : DI cc pc .ireturn 1 nx) (hx : narrow .byte (.int (Int32.ofInt x)) = .int (Int32.ofInt x)) (h : Q (some (vi x)) V) : SW g X own cc pc ls [vi x] V := by
  obtain ⟨⟨p, e, R, s, m⟩, ⟨args, below, meth, c⟩, ⟨nL, cells, slots, Z⟩⟩ := X
  obtain ⟨hd, rfl⟩ := d
  obtain ⟨rfl, hr, hk⟩ := hz
  intro hC H locs lsA hP hS hl
  exact W.zret hC.1 hC.2.1 hr hx (fun t ht hW => ⟨⟨some (vi x), V, rfl, h, by rw [ht]; exact hP⟩, hS.F ht⟩) hS.2.2 hd hk
/-- a field of a String -/
def SF (own : String) (idx : Nat) (n d : String) : Prop := Cond.fieldLink own idx "java/lang/String" n d ∈ Gs
theorem S_strV {idx i : Nat} (dd : DI cc pc (.getfield idx) 3 nx) (hl0 : SF own idx "value" "[B") (hi : i < 6) (K : SW g X own cc nx ls (vr (210 + i) :: st) V) : SW g X own cc pc ls (vr (200 + i) :: st) V := by
  obtain ⟨⟨p, e, R, s, m⟩, ⟨args, below, meth, c⟩, ⟨nL, cells, slots, Z⟩⟩ := X
  obtain ⟨hd, rfl⟩ := dd
  intro hC H locs lsA hP hS hl
  obtain ⟨hx, hb, hml, hown, hts, hW, hR⟩ := id hC
  exact vk_getf hx hb (hW.2.2.1.1.1.1 i hi).2.2.1 hS hown (hts _ hl0) (fun _ h => h) hd (K hC H locs lsA hP hS hl)
theorem S_strC {idx i : Nat} (dd : DI cc pc (.getfield idx) 3 nx) (hl0 : SF own idx "coder" "B") (hi : i < 6) (K : SW g X own cc nx ls (vi 0 :: st) V) : SW g X own cc pc ls (vr (200 + i) :: st) V := by
  obtain ⟨⟨p, e, R, s, m⟩, ⟨args, below, meth, c⟩, ⟨nL, cells, slots, Z⟩⟩ := X
  obtain ⟨hd, rfl⟩ := dd
  intro hC H locs lsA hP hS hl
  obtain ⟨hx, hb, hml, hown, hts, hW, hR⟩ := id hC
  exact vk_getf hx hb (hW.2.2.1.1.1.1 i hi).2.1 hS hown (hts _ hl0) (fun _ h => h) hd (K hC H locs lsA hP hS hl)
end RT
theorem fJ0_9 : SF RJ0 9 "value" "[B" := Gs_of (tb_6 (i := 166) (by decide +kernel)) rfl
theorem fJ0_15 : SF RJ0 15 "coder" "B" := Gs_of (tb_6 (i := 167) (by decide +kernel)) rfl
theorem sJ0_1053 : SL RJ0 1053 "jdk/internal/util/Preconditions" "SIOOBE_FORMATTER" "Ljava/util/function/BiFunction;" := Or.inl (Gs_of (tb_2 (i := 142) (by decide +kernel)) rfl)
theorem ro_str {g' : GC} {U : State} {H : Heap} (i : Nat) (hi : i < 6) (h : Ro g' U H) : va_T .byte (g'.2.2.1 (210 + i)) (roLen.getD i 0) (fun j => .int ((roByt.getD i []).getD j 0)) g'.2.2.2.1 U H := (h.1.1.1 i hi).2.2.2
/-- how long a literal is; its sign at j -/
abbrev lnS (i : Nat) : Nat := roLen.getD i 0
abbrev byS (i : Nat) (j : Int) : Int := ((roByt.getD i []).getD j.toNat 0).toInt
theorem by_ok : ∀ i : Fin 6, ∀ j : Fin 6, (j.1 < lnS i.1 → 32 ≤ byS i.1 (j.1 : Int) ∧ byS i.1 (j.1 : Int) ≤ 122) := by decide +kernel
theorem by_rg {i : Nat} {j : Int} (hi : i < 6) (hj : 0 ≤ j ∧ j < lnS i) : 32 ≤ byS i j ∧ byS i j ≤ 122 := by
  have h6 : ∀ i : Fin 6, lnS i.1 ≤ 6 := by decide
  have h7 : lnS i ≤ 6 := h6 ⟨i, hi⟩
  have h := by_ok ⟨i, hi⟩ ⟨j.toNat, by omega⟩ (by show j.toNat < lnS i; omega)
  have e : ((j.toNat : Nat) : Int) = j := by omega
  rw [show ((⟨j.toNat, by omega⟩ : Fin 6).1 : Int) = j from e] at h
  exact h
theorem by_z (i : Nat) (j : Int) : (roByt.getD i []).getD j.toNat 0 = Int32.ofInt (byS i j) := (io_ofInt _).symm
theorem ln_rg {i : Nat} (hi : i < 6) : 3 ≤ lnS i ∧ lnS i ≤ 6 := by
  have h6 : ∀ i : Fin 6, 3 ≤ lnS i.1 ∧ lnS i.1 ≤ 6 := by decide
  exact h6 ⟨i, hi⟩
theorem i2c_ok : ∀ n : Fin 256, (((Int32.ofInt (Int32.ofInt (n.1 : Int) &&& Int32.ofInt 255).toInt).toUInt32 % 65536).toInt32).toInt = (n.1 : Int) := by decide +kernel
theorem i2c_rg {x : Int} (h : 0 ≤ x ∧ x ≤ 255) : (((Int32.ofInt (Int32.ofInt x &&& Int32.ofInt 255).toInt).toUInt32 % 65536).toInt32).toInt = x := by
  have h3 := i2c_ok ⟨x.toNat, by omega⟩
  have h4 : ((x.toNat : Nat) : Int) = x := by omega
  rw [h4] at h3
  exact h3
/-- x as a byte, read again -/
def i2bS (x : Int) : Int := (Int32.ofInt x).toInt8.toInt32.toInt
theorem i2b_ok : ∀ n : Fin 256, i2bS (n.1 : Int) = (if n.1 < 128 then (n.1 : Int) else (n.1 : Int) - 256) := by decide +kernel
theorem i2b_rg {x : Int} (h : 0 ≤ x ∧ x ≤ 255) : i2bS x = if x < 128 then x else x - 256 := by
  have h3 := i2b_ok ⟨x.toNat, by omega⟩
  have h4 : ((x.toNat : Nat) : Int) = x := by omega
  rw [h4] at h3
  rw [h3]
  by_cases hq : x < 128
  · rw [if_pos hq, if_pos (by show x.toNat < 128; omega)]
  · rw [if_neg hq, if_neg (by show ¬ x.toNat < 128; omega)]

/-- a contract whose arguments are the machine's own values -/
def CtV (g : GC) (M : MN) (d : Nat) (vs : List Value) (V : MM) (Q : Option AV → MM → Prop) : Prop := Met g.1 M.1 (Cond.code M.1 M.2.1 M.2.2.1 M.2.2.2 :: Gs) (rmd d) (va_Pc vs (fun U => va_P g.2.1 qcl (wl g V) U.heap ∧ Wd g U U.heap)) (Qc g Q) 0 0 g.2.2.2.1
theorem CtV.of {g : GC} {M : MN} {d : Nat} {vs : List Value} {V : MM} {Q : Option AV → MM → Prop} {ls : List (Option AV)} (hpl : plainFor M.1 = true) (hsub : ∀ (i : Nat) (v : AV), ls[i]? = some (some v) → (i, cv g v) ∈ lv_args 0 vs) (hlen2 : (lg_sl vs).length ≤ M.2.2.1) (hlen3 : ls.length ≤ M.2.2.1)
    (k : ∀ X : CX, Fi g X M.2.2.2 Q → Dp X d → SW g X M.1.cls M.2.1 0 ls [] V) : CtV g M d vs V Q := by
  obtain ⟨y, cc, maxL, ret⟩ := M
  refine Met.ofF (cc := cc) (maxL := maxL) (ret := ret) hpl rfl ?_
  intro p e s m args below meth c s₁ B hml hv
  obtain ⟨rfl, hP, hW⟩ := hv
  have hall : ∀ w ∈ Cond.code y cc maxL ret :: Gs, w.before _ s = true := atoms_spec (ws := Cond.code y cc maxL ret :: Gs) B.pre
  have hown : s.vm.findClass y.cls = some m.cls := findClass_of_methodNamed B.named
  have hl := lv_entry vs (n := maxL) hlen2
  rw [lg_entry_eq]
  generalize (lg_sl vs ++ List.replicate (maxL - (lg_sl vs).length) Slot.unset).toArray = lsA at hl ⊢
  have hlok : lok g lsA maxL ls := ⟨hl.1, hl.2.1, fun i v hi => hl.2.2 _ (hsub i v hi), hlen3⟩
  have K := k ((p, e, rmd d, s, m), (vs.toArray, below, meth, c), (maxL, 0, 0, MQ below (Qc g Q) vs.toArray s 0 0 g.2.2.2.1)) ⟨rfl, B.returns, B.notSynchronized⟩ ⟨Nat.le_refl _, Nat.le_refl _⟩
  exact K ⟨B.exec, B.bytes, hml, hown, fun w hw => hall w (List.mem_cons_of_mem _ hw), hW, Nat.zero_le _, Nat.zero_le _⟩ s.heap [] lsA hP va_S.rf hlok
theorem c_checkPre {g : GC} {V : MM} {i n : Int} {w : Value} (hw : w = .null ∨ ∃ t : Nat, w = .ref t) (hi : 0 ≤ i ∧ i < n) (hn : n ≤ 1000) : CtV g mJ3_checkIndex_8e157 1 [.int (Int32.ofInt i), .int (Int32.ofInt n), w] V (RE V i) := by
  refine CtV.of (ls := [some (vi i), some (vi n), none]) (plainFor_of_name (by decide +kernel)) (fun k v hk => ?_) ?_ (by exact Nat.le_of_ble_eq_true rfl) (fun X hz hD => ?_)
  · match k, hk with
    | 0, hk => cases hk; exact List.mem_cons_self
    | 1, hk => cases hk; exact List.mem_cons_of_mem _ List.mem_cons_self
    | 2, hk => cases hk
    | k + 3, hk => cases hk
  · rcases hw with rfl | ⟨t, rfl⟩ <;> exact Nat.le_of_ble_eq_true rfl
  refine S_il0 qJ3_checkIndex_8e157_0 ?_
  refine S_if_lt (d := qJ3_checkIndex_8e157_1) (kt := fun c1 => ?_) (kf := fun c1 => ?_)
  · omega
  refine S_il0 qJ3_checkIndex_8e157_4 ?_
  refine S_il1 qJ3_checkIndex_8e157_5 ?_
  refine S_icmp_lt (d := qJ3_checkIndex_8e157_6) (kt := fun c6 => ?_) (kf := fun c6 => ?_)
  rotate_left
  · omega
  refine S_il0 qJ3_checkIndex_8e157_16 ?_
  refine S_iret hz qJ3_checkIndex_8e157_17 ?_
  exact ⟨rfl, rfl⟩
theorem Pv_blind {g : GC} {vs : List Value} {V : MM} : FrameBlind (va_Pc vs (fun U => va_P g.2.1 qcl (wl g V) U.heap ∧ Wd g U U.heap)) := fun a U f mk q =>
  ⟨q.1, q.2.1, q.2.2.1, va_K.moved (u := U) (U := U.calling f mk a) (Vm.Alike.refl U.vm) q.2.2.2.1, Ro.moved (u := U) (U := U.calling f mk a) (Vm.Alike.refl U.vm) q.2.2.2.2.1, roRef.same (u := U) (U := U.calling f mk a) rfl q.2.2.2.2.2⟩
theorem c_checkIndex {g : GC} {V : MM} {i n : Int} (hi : 0 ≤ i ∧ i < n) (hn : n ≤ 1000) : Ct g mJ0_checkIndex_df160 2 [vi i, vi n] V (RW V) := by
  refine Ct.of (ls := [some (vi i), some (vi n)]) (plainFor_of_name (by decide +kernel)) rfl (by exact Nat.le_of_ble_eq_true rfl) (fun X hz hD => ?_)
  refine S_il0 qJ0_checkIndex_df160_0 ?_
  refine S_il1 qJ0_checkIndex_df160_1 ?_
  have K : SW g X RJ0 cJ0_checkIndex_df160 8 [some (vi i), some (vi n)] [vi i] V := by
    have K2 : SW g X RJ0 cJ0_checkIndex_df160 9 [some (vi i), some (vi n)] [] V := S_vret hz qJ0_checkIndex_df160_9 ⟨rfl, rfl⟩
    obtain ⟨⟨p, e, R, s, m⟩, ⟨args, below, meth, c⟩, ⟨nL, cells, slots, Z⟩⟩ := X
    intro hC H locs lsA hP hS hl
    exact lv_pop hC.1 hC.2.1 qJ0_checkIndex_df160_8.1 rfl (K2 hC H locs lsA hP hS hl)
  obtain ⟨⟨p, e, R, s, m⟩, ⟨args, below, meth, c⟩, ⟨nL, cells, slots, Z⟩⟩ := X
  intro hC H locs lsA hP hS hl
  obtain ⟨hx, hb, hml, hown, hts, hW, hR1, hR2⟩ := id hC
  have main : ∀ w : Value, (w = .null ∨ ∃ t : Nat, w = .ref t) → W p g.1 e R s m args below meth c H locs cells slots Z (F0 m 5 lsA (w :: .int (Int32.ofInt n) :: .int (Int32.ofInt i) :: [])) := by
    intro w hw
    have hc := c_checkPre (g := g) (V := V) hw hi hn
    obtain ⟨⟨hcd, hini, hnm, hmx⟩, hss⟩ := sJ3_checkIndex_8e157
    have hG := Gs_code (M := mJ3_checkIndex_8e157) (n := 3) ⟨hcd, hini, hnm, hmx⟩
    have hroom : (rmd 1).frames + 1 ≤ R.frames ∧ 8 + (mJ3_checkIndex_8e157.2.2.1 + 11) + (rmd 1).locals ≤ R.locals := by
      obtain ⟨h1, h2⟩ := hD
      have h3 : mJ3_checkIndex_8e157.2.2.1 = 3 := rfl
      show 1 + 1 ≤ R.frames ∧ 8 + (mJ3_checkIndex_8e157.2.2.1 + 11) + 64 * 1 ≤ R.locals
      omega
    have hpv : PreS s H (va_Pc [.int (Int32.ofInt i), .int (Int32.ofInt n), w] (fun U => va_P g.2.1 qcl (wl g V) U.heap ∧ Wd g U U.heap)) [.int (Int32.ofInt i), .int (Int32.ofInt n), w] := ⟨Pv_blind, fun U hU hWU => ⟨rfl, by rw [hU]; exact hP, hW.at hS hU hWU⟩⟩
    have hwr : 2 * (F0 m 5 lsA (w :: .int (Int32.ofInt n) :: .int (Int32.ofInt i) :: [])).monitorRoom + (([] : List Value).map fun v => v.category).sum ≤ 8 := Nat.zero_le _
    have hstk : (F0 m 5 lsA (w :: .int (Int32.ofInt n) :: .int (Int32.ofInt i) :: [])).stack = ([.int (Int32.ofInt i), .int (Int32.ofInt n), w] : List Value).reverse ++ [] := rfl
    have hl0 : Cond.methodLink RJ0 1059 mJ3_checkIndex_8e157.1 ∈ Gs := Gs_of (tb_2 (i := 144) (by decide +kernel)) rfl
    exact SW.back (as := []) (rest := []) (va_runS (As := [.int (Int32.ofInt i), .int (Int32.ofInt n), w]) (rest := []) ⟨hx, hb, hml, hown, hts⟩ hc ⟨callB_of 3 hts hG rfl rfl rfl (hts _ hini) (hts _ hl0) hnm hroom, hts _ hss⟩ hpv rfl rfl hl.1 hstk hwr qJ0_checkIndex_df160_5.1 ⟨hR1, hR2⟩) hC hS hl (fun r V1 h => by
      obtain ⟨rfl, rfl⟩ := h
      exact K)
  have hl1 : Cond.fieldLink RJ0 1053 "jdk/internal/util/Preconditions" "SIOOBE_FORMATTER" "Ljava/util/function/BiFunction;" ∈ Gs := Gs_of (tb_2 (i := 142) (by decide +kernel)) rfl
  rcases hW.2.2.1.1.2.2 with hZ | ⟨t, hZ⟩
  · exact va_gets hx hb hZ hS hown (hts _ hl1) (fun _ h => h) qJ0_checkIndex_df160_2.1 (main _ (Or.inl rfl))
  · exact va_gets hx hb hZ hS hown (hts _ hl1) (fun _ h => h) qJ0_checkIndex_df160_2.1 (main _ (Or.inr ⟨t, rfl⟩))
