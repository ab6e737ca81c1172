set_option maxRecDepth 20000 in
theorem ly_X0 : ∀ w ∈ u_ws RX0 TX0 5, w ∈ Gs := by
  have h : u_ws RX0 TX0 5 = ([172, 174, 176, 178, 180] : List Nat).filterMap (fun i => tables_1[i]?) := by decide +kernel
  have h2 : (u_ws RX0 TX0 5).all goodWord = true := by decide +kernel
  intro w hw
  have h3 := List.all_eq_true.mp h2 w hw
  rw [h] at hw
  obtain ⟨i, -, hi⟩ := List.mem_filterMap.mp hw
  exact Gs_in hi h3
set_option maxRecDepth 20000 in
theorem ly_X1 : ∀ w ∈ u_ws RX1 TX1 9, w ∈ Gs := by
  have h : u_ws RX1 TX1 9 = ([120, 122, 124, 126, 128, 130, 132, 134, 136] : List Nat).filterMap (fun i => tables_1[i]?) := by decide +kernel
  have h2 : (u_ws RX1 TX1 9).all goodWord = true := by decide +kernel
  intro w hw
  have h3 := List.all_eq_true.mp h2 w hw
  rw [h] at hw
  obtain ⟨i, -, hi⟩ := List.mem_filterMap.mp hw
  exact Gs_in hi h3
set_option maxRecDepth 20000 in
theorem ly_X2 : ∀ w ∈ u_ws RX2 TX2 9, w ∈ Gs := by
  have h : u_ws RX2 TX2 9 = ([83, 85, 87, 89, 91, 93, 95, 97, 99] : List Nat).filterMap (fun i => tables_1[i]?) := by decide +kernel
  have h2 : (u_ws RX2 TX2 9).all goodWord = true := by decide +kernel
  intro w hw
  have h3 := List.all_eq_true.mp h2 w hw
  rw [h] at hw
  obtain ⟨i, -, hi⟩ := List.mem_filterMap.mp hw
  exact Gs_in hi h3
set_option maxRecDepth 20000 in
theorem ly_X3 : ∀ w ∈ u_ws RX3 TX3 7, w ∈ Gs := by
  have h : u_ws RX3 TX3 7 = ([42, 44, 46, 48, 50, 52, 54] : List Nat).filterMap (fun i => tables_1[i]?) := by decide +kernel
  have h2 : (u_ws RX3 TX3 7).all goodWord = true := by decide +kernel
  intro w hw
  have h3 := List.all_eq_true.mp h2 w hw
  rw [h] at hw
  obtain ⟨i, -, hi⟩ := List.mem_filterMap.mp hw
  exact Gs_in hi h3
set_option maxRecDepth 20000 in
theorem ly_X4 : ∀ w ∈ u_ws RX4 TX4 3, w ∈ Gs := by
  have h : u_ws RX4 TX4 3 = ([151, 153, 155] : List Nat).filterMap (fun i => tables_1[i]?) := by decide +kernel
  have h2 : (u_ws RX4 TX4 3).all goodWord = true := by decide +kernel
  intro w hw
  have h3 := List.all_eq_true.mp h2 w hw
  rw [h] at hw
  obtain ⟨i, -, hi⟩ := List.mem_filterMap.mp hw
  exact Gs_in hi h3
set_option maxRecDepth 20000 in
theorem ly_X5 : ∀ w ∈ u_ws RX5 TX5 3, w ∈ Gs := by
  have h : u_ws RX5 TX5 3 = ([196, 198, 200] : List Nat).filterMap (fun i => tables_1[i]?) := by decide +kernel
  have h2 : (u_ws RX5 TX5 3).all goodWord = true := by decide +kernel
  intro w hw
  have h3 := List.all_eq_true.mp h2 w hw
  rw [h] at hw
  obtain ⟨i, -, hi⟩ := List.mem_filterMap.mp hw
  exact Gs_in hi h3
set_option maxRecDepth 20000 in
theorem ly_X6 : ∀ w ∈ u_ws RX6 TX6 12, w ∈ Gs := by
  have h : u_ws RX6 TX6 12 = ([216, 218, 220, 222, 224, 226, 228, 230, 232, 234, 236, 238] : List Nat).filterMap (fun i => tables_1[i]?) := by decide +kernel
  have h2 : (u_ws RX6 TX6 12).all goodWord = true := by decide +kernel
  intro w hw
  have h3 := List.all_eq_true.mp h2 w hw
  rw [h] at hw
  obtain ⟨i, -, hi⟩ := List.mem_filterMap.mp hw
  exact Gs_in hi h3
set_option maxRecDepth 20000 in
theorem ly_X7 : ∀ w ∈ u_ws RX7 TX7 64, w ∈ Gs := by
  have h : u_ws RX7 TX7 64 = ([866, 868, 870, 872, 874, 876, 878, 880, 882, 884, 886, 888, 890, 892, 894, 896, 898, 900, 902, 904, 906, 908, 910, 912, 914, 916, 918, 920, 922, 924, 926, 928, 930, 932, 934, 936, 938, 940, 942, 944, 946, 948, 950, 952, 954, 956, 958, 960, 962, 964, 966, 968, 970, 972, 974, 976, 978, 980, 982, 984, 986, 988, 990, 992] : List Nat).filterMap (fun i => tables_1[i]?) := by decide +kernel
  have h2 : (u_ws RX7 TX7 64).all goodWord = true := by decide +kernel
  intro w hw
  have h3 := List.all_eq_true.mp h2 w hw
  rw [h] at hw
  obtain ⟨i, -, hi⟩ := List.mem_filterMap.mp hw
  exact Gs_in hi h3
theorem ly_all {ci : Nat} {q : vw_C} (h : qcl[ci]? = some q) : (∀ w ∈ u_ws q.1 q.2.1 q.2.2, w ∈ Gs) ∧ (∀ a, a < q.2.2 → ∀ b, b < q.2.2 → a ≠ b → (q.2.1 a).2.1 ≠ (q.2.1 b).2.1) ∧ ∃ ty : Nat → FieldType, ∀ k, k < q.2.2 → parseFieldDescriptor (q.2.1 k).2.2.1 = some (ty k) := by
  match ci, h with
  | 0, h => cases h; exact ⟨ly_X0, nmX0, tyX0, tyX0_ok⟩
  | 1, h => cases h; exact ⟨ly_X1, nmX1, tyX1, tyX1_ok⟩
  | 2, h => cases h; exact ⟨ly_X2, nmX2, tyX2, tyX2_ok⟩
  | 3, h => cases h; exact ⟨ly_X3, nmX3, tyX3, tyX3_ok⟩
  | 4, h => cases h; exact ⟨ly_X4, nmX4, tyX4, tyX4_ok⟩
  | 5, h => cases h; exact ⟨ly_X5, nmX5, tyX5, tyX5_ok⟩
  | 6, h => cases h; exact ⟨ly_X6, nmX6, tyX6, tyX6_ok⟩
  | 7, h => cases h; exact ⟨ly_X7, nmX7, tyX7, tyX7_ok⟩
  | n + 8, h => simp [qcl] at h
def fk (k j : Nat) : Option (Nat × Nat × Nat) := match sh k with
  | .inl o => o.2[j]?.map (fun q => (o.1, q))
  | .inr _ => none
def ak (k : Nat) : Option (Nat × Nat) := match sh k with
  | .inl _ => none
  | .inr a => some a
def ok (k : Nat) : Option Nat := match sh k with
  | .inl o => if k < qN then some o.1 else none
  | .inr _ => none
theorem shT_len : shT.length = qN := by decide +kernel
theorem sh_big {k : Nat} (h : ¬ k < qN) : sh k = .inl (0, []) := by
  unfold sh
  rw [List.getD_eq_getElem?_getD, List.getElem?_eq_none (by rw [shT_len]; omega)]
  rfl
theorem fk_lt {k j : Nat} {x : Nat × Nat × Nat} (h : fk k j = some x) : k < qN := by
  by_cases hk : k < qN
  · exact hk
  · unfold fk at h
    rw [sh_big hk] at h
    simp at h
theorem ak_lt {k : Nat} {x : Nat × Nat} (h : ak k = some x) : k < qN := by
  by_cases hk : k < qN
  · exact hk
  · unfold ak at h
    rw [sh_big hk] at h
    simp at h
theorem ok_lt {k : Nat} {x : Nat} (h : ok k = some x) : k < qN := by
  unfold ok at h
  split at h
  · by_cases hk : k < qN
    · exact hk
    · rw [if_neg hk] at h; cases h
  · cases h
theorem ak_small {k : Nat} {x : Nat × Nat} (h : ak k = some x) : x.2 < 2147483648 ∧ x.1 < 6 := by
  have hk := ak_lt h
  have h1 : ∀ k, k < qN → ∀ a, sh k = .inr a → a.2 < 2147483648 ∧ a.1 < 6 := by
    have h2 : ((List.range qN).all (fun k => match sh k with | .inl _ => true | .inr a => decide (a.2 < 2147483648 ∧ a.1 < 6))) = true := by decide +kernel
    intro k hk a ha
    have h3 := List.all_eq_true.mp h2 k (List.mem_range.mpr hk)
    rw [ha] at h3
    simpa using h3
  unfold ak at h
  split at h
  · cases h
  · rename_i a ha
    cases h
    exact h1 k hk _ ha
def FL (own : String) (idx ci j : Nat) (z : Int) : Prop := (j : Int) = z ∧ ∃ q : vw_C, qcl[ci]? = some q ∧ j < q.2.2 ∧ (Cond.fieldLink own idx (q.2.1 j).1 (q.2.1 j).2.1 (q.2.1 j).2.2.1 ∈ Gs ∨ ∃ host, Cond.fieldLinkNest own idx (q.2.1 j).1 (q.2.1 j).2.1 (q.2.1 j).2.2.1 host ∈ Ns)
def FT (ci j : Nat) (ty : FieldType) : Prop := ∃ q : vw_C, qcl[ci]? = some q ∧ (q.2.1 j).2.2.2 = false ∧ parseFieldDescriptor (q.2.1 j).2.2.1 = some ty
theorem ent_o {g : GC} {V : MM} {k : Nat} {o : Nat × List (Nat × Nat)} (h : sh k = .inl o) : ent g V k = .inr (o.1, o.2.mapIdx (fun j q => fval g q (V k (j : Int)))) := by
  unfold ent
  rw [h]
  rfl
theorem ent_a {g : GC} {V : MM} {k : Nat} {a : Nat × Nat} (h : ak k = some a) : sh k = .inr a ∧ ent g V k = .inl (g.2.2.2.2 a.1, a.2, cont g a.1 (V k)) := by
  unfold ak at h
  split at h
  · cases h
  · rename_i b hb
    cases h
    refine ⟨hb, ?_⟩
    unfold ent
    rw [hb]
    rfl
theorem fk_o {k j : Nat} {x : Nat × Nat × Nat} (h : fk k j = some x) : ∃ o, sh k = .inl o ∧ o.1 = x.1 ∧ o.2[j]? = some x.2 := by
  unfold fk at h
  split at h
  · rename_i o ho
    cases hj : o.2[j]? with
    | none => rw [hj] at h; cases h
    | some q =>
      rw [hj] at h
      cases h
      exact ⟨o, ho, rfl, hj⟩
  · cases h
theorem ml_set (g : GC) (l : List (Nat × Nat)) (row : Int → Int) {j : Nat} {q : Nat × Nat} (x : Int) (hj : l[j]? = some q) : (l.mapIdx (fun i q => fval g q (row (i : Int)))).set j (fval g q x) = l.mapIdx (fun i q => fval g q (ur row (j : Int) x (i : Int))) := by
  apply List.ext_getElem?
  intro i
  rw [List.getElem?_set]
  by_cases e : j = i
  · subst e
    have hl : j < l.length := (List.getElem?_eq_some_iff.mp hj).1
    rw [if_pos rfl, if_pos (by rw [List.length_mapIdx]; exact hl), List.getElem?_mapIdx, hj]
    simp [ur]
  · rw [if_neg e, List.getElem?_mapIdx, List.getElem?_mapIdx]
    cases l[i]? with
    | none => rfl
    | some q => 
      have : ¬ (i : Int) = (j : Int) := by omega
      simp [ur, this]
section RM
variable {g : GC} {X : CX} {own : String} {cc : ByteArray} {pc nx tgt : Nat} {ls : List (Option AV)} {st : List AV} {V : MM}
/-- any field -/
theorem S_get {idx ci j k : Nat} {z : Int} {q : Nat × Nat} (d : DI cc pc (.getfield idx) 3 nx) (hf : FL own idx ci j z) (hk : fk k j = some (ci, q)) {v : AV} (hv : fval g q (V k z) = cv g v) (K : SW g X own cc nx ls (v :: st) V) : SW g X own cc pc ls (vr k :: st) V := by
  obtain ⟨⟨p, e, R, s, m⟩, ⟨args, below, meth, c⟩, ⟨nL, cells, slots, Z⟩⟩ := X
  obtain ⟨hd, rfl⟩ := d
  intro hC H locs lsA hP hS hl
  obtain ⟨hx, hb, hml, hown, hts, hW, hR⟩ := id hC
  have hkl := fk_lt hk
  obtain ⟨o, ho1, ho2, ho3⟩ := fk_o hk
  obtain ⟨rfl, ⟨C, T, N⟩, hq, hj, hlink⟩ := hf
  obtain ⟨hin, -, -⟩ := ly_all hq
  have he : (wl g V)[k]? = some (g.2.2.1 k, .inr (ci, o.2.mapIdx (fun j q => fval g q (V k (j : Int))))) := by
    rw [wl_at g V hkl, ent_o ho1, ho2]
  have hv2 : (o.2.mapIdx (fun j q => fval g q (V k (j : Int))))[j]? = some (cv g v) := by
    rw [List.getElem?_mapIdx, ho3, ← hv]
    rfl
  rcases hlink with hl1 | ⟨host, hl1⟩
  · exact va_get hx hb hts hin hown hW.2.1 hP k he hq j hj (hts _ hl1) (fun _ h => h) hv2 hd (K hC H locs lsA hP hS hl)
  · exact va_getN hx hb hts hin hown hW.2.1 hP k he hq j hj (va_Nw.use rfl (hW.2.2.2.2 _ hl1)) (fun _ h => h) hv2 hd (K hC H locs lsA hP hS hl)
theorem S_getI {idx ci j k t : Nat} {z : Int} (d : DI cc pc (.getfield idx) 3 nx) (hf : FL own idx ci j z) (hk : fk k j = some (ci, 0, t)) (K : SW g X own cc nx ls (vi (V k z) :: st) V) : SW g X own cc pc ls (vr k :: st) V := S_get d hf hk rfl K
theorem S_getR {idx ci j k t : Nat} {z : Int} (d : DI cc pc (.getfield idx) 3 nx) (hf : FL own idx ci j z) (hk : fk k j = some (ci, 1, t)) (K : SW g X own cc nx ls (vr t :: st) V) : SW g X own cc pc ls (vr k :: st) V := S_get d hf hk rfl K
theorem S_getH {idx ci j k t : Nat} {z : Int} (d : DI cc pc (.getfield idx) 3 nx) (hf : FL own idx ci j z) (hk : fk k j = some (ci, 2, t)) (K : SW g X own cc nx ls (vr (V k z).toNat :: st) V) : SW g X own cc pc ls (vr k :: st) V := S_get d hf hk rfl K
theorem S_put {idx ci j k : Nat} {z : Int} {q : Nat × Nat} {ty : FieldType} {v : AV} {x : Int} (d : DI cc pc (.putfield idx) 3 nx) (hf : FL own idx ci j z) (hk : fk k j = some (ci, q)) (hty : FT ci j ty) (hv : fval g q x = cv g v) (hn : narrow ty (cv g v) = cv g v) (hfit : fits ty (cv g v) = true) (K : SW g X own cc nx ls st (upR V k (ur (V k) z x))) : SW g X own cc pc ls (v :: vr k :: st) V := by
  obtain ⟨⟨p, e, R, s, m⟩, ⟨args, below, meth, c⟩, ⟨nL, cells, slots, Z⟩⟩ := X
  obtain ⟨hd, rfl⟩ := d
  intro hC H locs lsA hP hS hl
  obtain ⟨hx, hb, hml, hown, hts, hW, hR⟩ := id hC
  have hkl := fk_lt hk
  obtain ⟨o, ho1, ho2, ho3⟩ := fk_o hk
  obtain ⟨rfl, ⟨C, T, N⟩, hq, hj, hlink⟩ := hf
  obtain ⟨hin, hnm, ty0, hty0⟩ := ly_all hq
  obtain ⟨q2, hq2, hfin, hd2⟩ := hty
  cases hq.symm.trans hq2
  have he : (wl g V)[k]? = some (g.2.2.1 k, .inr (ci, o.2.mapIdx (fun j q => fval g q (V k (j : Int))))) := by
    rw [wl_at g V hkl, ent_o ho1, ho2]
  have hlen : j < (o.2.mapIdx (fun j q => fval g q (V k (j : Int)))).length := by
    rw [List.length_mapIdx]
    exact (List.getElem?_eq_some_iff.mp ho3).1
  have hset : (wl g V).set k (g.2.2.1 k, .inr (ci, (o.2.mapIdx (fun j q => fval g q (V k (j : Int)))).set j (cv g v))) = wl g (upR V k (ur (V k) (j : Int) x)) := by
    rw [← wl_set g V hkl (ur (V k) (j : Int) x), ho1, ← hv, ml_set g o.2 (V k) x ho3, ← show o.1 = ci from ho2]
    rfl
  rcases hlink with hl1 | ⟨host, hl1⟩
  · exact va_put hx hb hts hin ty0 hty0 hnm hown hW.2.1 hP (wl_D hW.1 V) hS k he hq j hj (hts _ hl1) (fun _ h => h) hfin hd2 hn hfit hlen hd (fun H1 locs1 hP1 _ hS1 => K hC H1 locs1 lsA (hset ▸ hP1) hS1 hl)
  · exact va_putN hx hb hts hin ty0 hty0 hnm hown hW.2.1 hP (wl_D hW.1 V) hS k he hq j hj (va_Nw.use rfl (hW.2.2.2.2 _ hl1)) (fun _ h => h) hfin hd2 hn hfit hlen hd (fun H1 locs1 hP1 _ hS1 => K hC H1 locs1 lsA (hset ▸ hP1) hS1 hl)
theorem S_putI {idx ci j k t : Nat} {z : Int} {x : Int} (d : DI cc pc (.putfield idx) 3 nx) (hf : FL own idx ci j z) (hk : fk k j = some (ci, 0, t)) (hty : FT ci j .int) (K : SW g X own cc nx ls st (upR V k (ur (V k) z x))) : SW g X own cc pc ls (vi x :: vr k :: st) V := S_put d hf hk hty rfl rfl rfl K
theorem S_putZ {idx ci j k t : Nat} {z : Int} {x : Int} (d : DI cc pc (.putfield idx) 3 nx) (hf : FL own idx ci j z) (hk : fk k j = some (ci, 0, t)) (hty : FT ci j .boolean) (h01 : x = 0 ∨ x = 1 := by omega) (K : SW g X own cc nx ls st (upR V k (ur (V k) z x))) : SW g X own cc pc ls (vi x :: vr k :: st) V := S_put d hf hk hty rfl (by rcases h01 with rfl | rfl <;> rfl) (by rcases h01 with rfl | rfl <;> rfl) K
theorem S_putH {idx ci j k t h : Nat} {z : Int} {C : String} (d : DI cc pc (.putfield idx) 3 nx) (hf : FL own idx ci j z) (hk : fk k j = some (ci, 2, t)) (hty : FT ci j (.object C)) (K : SW g X own cc nx ls st (upR V k (ur (V k) z (h : Int)))) : SW g X own cc pc ls (vr h :: vr k :: st) V := S_put d hf hk hty rfl rfl rfl K
theorem qty_at {g : GC} {t : Nat} (h : t < 6) : ∃ ty, (qtys g)[t]? = some (g.2.2.2.2 t, ty) := by
  match t, h with
  | 0, _ => exact ⟨_, rfl⟩
  | 1, _ => exact ⟨_, rfl⟩
  | 2, _ => exact ⟨_, rfl⟩
  | 3, _ => exact ⟨_, rfl⟩
  | 4, _ => exact ⟨_, rfl⟩
  | 5, _ => exact ⟨_, rfl⟩
theorem S_alen {k : Nat} {a : Nat × Nat} (d : DI cc pc .arraylength 1 nx) (hk : ak k = some a) (K : SW g X own cc nx ls (vi (a.2 : Int) :: st) V) : SW g X own cc pc ls (vr k :: st) V := by
  obtain ⟨⟨p, e, R, s, m⟩, ⟨args, below, meth, c⟩, ⟨nL, cells, slots, Z⟩⟩ := X
  obtain ⟨hd, rfl⟩ := d
  intro hC H locs lsA hP hS hl
  obtain ⟨hx, hb, hml, hown, hts, hW, hR⟩ := id hC
  have hkl := ak_lt hk
  obtain ⟨ty, hty⟩ := qty_at (g := g) (ak_small hk).2
  have he : (wl g V)[k]? = some (g.2.2.1 k, .inl (g.2.2.2.2 a.1, a.2, cont g a.1 (V k))) := by rw [wl_at g V hkl, (ent_a hk).2]
  exact va_alen hx hb hW.2.1 hP k a.1 he hty Int32.ofInt_eq_ofNat.symm hd (K hC H locs lsA hP hS hl)
theorem S_iald {k n : Nat} {i : Int} (d : DI cc pc .iaload 1 nx) (hk : ak k = some (0, n)) (h0 : 0 ≤ i ∧ i < n := by omega) (K : SW g X own cc nx ls (vi (V k i) :: st) V) : SW g X own cc pc ls (vi i :: vr k :: st) V := by
  obtain ⟨⟨p, e, R, s, m⟩, ⟨args, below, meth, c⟩, ⟨nL, cells, slots, Z⟩⟩ := X
  obtain ⟨hd, rfl⟩ := d
  intro hC H locs lsA hP hS hl
  obtain ⟨hx, hb, hml, hown, hts, hW, hR⟩ := id hC
  have hkl := ak_lt hk
  have hn := (ak_small hk).1
  have he : (wl g V)[k]? = some (g.2.2.1 k, .inl (g.2.2.2.2 0, n, .inl (fun j => Int32.ofInt (V k (j : Int))))) := by rw [wl_at g V hkl, (ent_a hk).2]; rfl
  have hc : (Int32.ofInt i).toNatClampNeg = i.toNat := io_cl (by simp at hn; omega)
  refine va_iald (f := fun j => Int32.ofInt (V k (j : Int))) hx hb hW.2.1 hP k 0 he rfl (io_in h0.1 h0.2 hn) hd ?_
  show W p g.1 e R s m args below meth c H locs cells slots Z (F0 m (pc + 1) lsA (.int (Int32.ofInt (V k ((Int32.ofInt i).toNatClampNeg : Int))) :: st.map (cv g)))
  rw [hc, Int.toNat_of_nonneg h0.1]
  exact K hC H locs lsA hP hS hl
theorem S_bald {k n : Nat} {i : Int} (d : DI cc pc .baload 1 nx) (hk : ak k = some (2, n)) (h0 : 0 ≤ i ∧ i < n := by omega) (K : SW g X own cc nx ls (vi (V k i) :: st) V) : SW g X own cc pc ls (vi i :: vr k :: st) V := by
  obtain ⟨⟨p, e, R, s, m⟩, ⟨args, below, meth, c⟩, ⟨nL, cells, slots, Z⟩⟩ := X
  obtain ⟨hd, rfl⟩ := d
  intro hC H locs lsA hP hS hl
  obtain ⟨hx, hb, hml, hown, hts, hW, hR⟩ := id hC
  have hkl := ak_lt hk
  have hn := (ak_small hk).1
  have he : (wl g V)[k]? = some (g.2.2.1 k, .inl (g.2.2.2.2 2, n, .inl (fun j => Int32.ofInt (V k (j : Int))))) := by rw [wl_at g V hkl, (ent_a hk).2]; rfl
  have hc : (Int32.ofInt i).toNatClampNeg = i.toNat := io_cl (by simp at hn; omega)
  refine va_zald (f := fun j => Int32.ofInt (V k (j : Int))) hx hb hW.2.1 hP k 2 he rfl (io_in h0.1 h0.2 hn) hd ?_
  show W p g.1 e R s m args below meth c H locs cells slots Z (F0 m (pc + 1) lsA (.int (Int32.ofInt (V k ((Int32.ofInt i).toNatClampNeg : Int))) :: st.map (cv g)))
  rw [hc, Int.toNat_of_nonneg h0.1]
  exact K hC H locs lsA hP hS hl
theorem S_cald {k n : Nat} {i : Int} (d : DI cc pc .caload 1 nx) (hk : ak k = some (3, n)) (h0 : 0 ≤ i ∧ i < n := by omega) (K : SW g X own cc nx ls (vi (V k i) :: st) V) : SW g X own cc pc ls (vi i :: vr k :: st) V := by
  obtain ⟨⟨p, e, R, s, m⟩, ⟨args, below, meth, c⟩, ⟨nL, cells, slots, Z⟩⟩ := X
  obtain ⟨hd, rfl⟩ := d
  intro hC H locs lsA hP hS hl
  obtain ⟨hx, hb, hml, hown, hts, hW, hR⟩ := id hC
  have hkl := ak_lt hk
  have hn := (ak_small hk).1
  have he : (wl g V)[k]? = some (g.2.2.1 k, .inl (g.2.2.2.2 3, n, .inl (fun j => Int32.ofInt (V k (j : Int))))) := by rw [wl_at g V hkl, (ent_a hk).2]; rfl
  have hc : (Int32.ofInt i).toNatClampNeg = i.toNat := io_cl (by simp at hn; omega)
  refine va_cald (f := fun j => Int32.ofInt (V k (j : Int))) hx hb hW.2.1 hP k 3 he rfl (io_in h0.1 h0.2 hn) hd ?_
  show W p g.1 e R s m args below meth c H locs cells slots Z (F0 m (pc + 1) lsA (.int (Int32.ofInt (V k ((Int32.ofInt i).toNatClampNeg : Int))) :: st.map (cv g)))
  rw [hc, Int.toNat_of_nonneg h0.1]
  exact K hC H locs lsA hP hS hl
theorem S_lald {k n : Nat} {i : Int} (d : DI cc pc .laload 1 nx) (hk : ak k = some (1, n)) (h0 : 0 ≤ i ∧ i < n := by omega) (K : SW g X own cc nx ls (vl (V k i) :: st) V) : SW g X own cc pc ls (vi i :: vr k :: st) V := by
  obtain ⟨⟨p, e, R, s, m⟩, ⟨args, below, meth, c⟩, ⟨nL, cells, slots, Z⟩⟩ := X
  obtain ⟨hd, rfl⟩ := d
  intro hC H locs lsA hP hS hl
  obtain ⟨hx, hb, hml, hown, hts, hW, hR⟩ := id hC
  have hkl := ak_lt hk
  have hn := (ak_small hk).1
  have he : (wl g V)[k]? = some (g.2.2.1 k, .inl (g.2.2.2.2 1, n, .inr (.inl (fun j => Int64.ofInt (V k (j : Int)))))) := by rw [wl_at g V hkl, (ent_a hk).2]; rfl
  have hc : (Int32.ofInt i).toNatClampNeg = i.toNat := io_cl (by simp at hn; omega)
  refine va_lald (f := fun j => Int64.ofInt (V k (j : Int))) hx hb hW.2.1 hP k 1 he rfl (io_in h0.1 h0.2 hn) hd ?_
  show W p g.1 e R s m args below meth c H locs cells slots Z (F0 m (pc + 1) lsA (.long (Int64.ofInt (V k ((Int32.ofInt i).toNatClampNeg : Int))) :: st.map (cv g)))
  rw [hc, Int.toNat_of_nonneg h0.1]
  exact K hC H locs lsA hP hS hl
theorem S_aaldH {k n : Nat} {i : Int} (d : DI cc pc .aaload 1 nx) (hk : ak k = some (4, n)) (h0 : 0 ≤ i ∧ i < n := by omega) (K : SW g X own cc nx ls (vr (47 + 4 * i.toNat) :: st) V) : SW g X own cc pc ls (vi i :: vr k :: st) V := by
  obtain ⟨⟨p, e, R, s, m⟩, ⟨args, below, meth, c⟩, ⟨nL, cells, slots, Z⟩⟩ := X
  obtain ⟨hd, rfl⟩ := d
  intro hC H locs lsA hP hS hl
  obtain ⟨hx, hb, hml, hown, hts, hW, hR⟩ := id hC
  have hkl := ak_lt hk
  have hn := (ak_small hk).1
  have he : (wl g V)[k]? = some (g.2.2.1 k, .inl (g.2.2.2.2 4, n, .inr (.inr (.inr (.inr (fun j => some (g.2.2.1 (47 + 4 * j)))))))) := by rw [wl_at g V hkl, (ent_a hk).2]; rfl
  have hc : (Int32.ofInt i).toNatClampNeg = i.toNat := io_cl (by simp at hn; omega)
  refine va_aldq (f := fun j => some (g.2.2.1 (47 + 4 * j))) hx hb hW.2.1 hP k 4 he rfl (io_in h0.1 h0.2 hn) hd ?_
  show W p g.1 e R s m args below meth c H locs cells slots Z (F0 m (pc + 1) lsA (.ref (g.2.2.1 (47 + 4 * (Int32.ofInt i).toNatClampNeg)) :: st.map (cv g)))
  rw [hc]
  exact K hC H locs lsA hP hS hl
theorem S_aaldT {k n : Nat} {i : Int} (d : DI cc pc .aaload 1 nx) (hk : ak k = some (5, n)) (h0 : 0 ≤ i ∧ i < n := by omega) (K : SW g X own cc nx ls (vr (71 + 2 * i.toNat) :: st) V) : SW g X own cc pc ls (vi i :: vr k :: st) V := by
  obtain ⟨⟨p, e, R, s, m⟩, ⟨args, below, meth, c⟩, ⟨nL, cells, slots, Z⟩⟩ := X
  obtain ⟨hd, rfl⟩ := d
  intro hC H locs lsA hP hS hl
  obtain ⟨hx, hb, hml, hown, hts, hW, hR⟩ := id hC
  have hkl := ak_lt hk
  have hn := (ak_small hk).1
  have he : (wl g V)[k]? = some (g.2.2.1 k, .inl (g.2.2.2.2 5, n, .inr (.inr (.inr (.inr (fun j => some (g.2.2.1 (71 + 2 * j)))))))) := by rw [wl_at g V hkl, (ent_a hk).2]; rfl
  have hc : (Int32.ofInt i).toNatClampNeg = i.toNat := io_cl (by simp at hn; omega)
  refine va_aldq (f := fun j => some (g.2.2.1 (71 + 2 * j))) hx hb hW.2.1 hP k 5 he rfl (io_in h0.1 h0.2 hn) hd ?_
  show W p g.1 e R s m args below meth c H locs cells slots Z (F0 m (pc + 1) lsA (.ref (g.2.2.1 (71 + 2 * (Int32.ofInt i).toNatClampNeg)) :: st.map (cv g)))
  rw [hc]
  exact K hC H locs lsA hP hS hl
theorem up_ur (row : Int → Int) {i : Int} (h : 0 ≤ i) (x : Int) : upd (fun j : Nat => Int32.ofInt (row (j : Int))) i.toNat (Int32.ofInt x) = fun j : Nat => Int32.ofInt (ur row i x (j : Int)) := by
  funext j
  unfold upd ur
  by_cases e : j = i.toNat
  · rw [if_pos e, if_pos (by omega)]
  · rw [if_neg e, if_neg (by omega)]
theorem upL_ur (row : Int → Int) {i : Int} (h : 0 ≤ i) (x : Int) : vp_updL (fun j : Nat => Int64.ofInt (row (j : Int))) i.toNat (Int64.ofInt x) = fun j : Nat => Int64.ofInt (ur row i x (j : Int)) := by
  funext j
  unfold vp_updL ur
  by_cases e : j = i.toNat
  · rw [if_pos e, if_pos (by omega)]
  · rw [if_neg e, if_neg (by omega)]
theorem S_iast {k n : Nat} {i x : Int} (d : DI cc pc .iastore 1 nx) (hk : ak k = some (0, n)) (h0 : 0 ≤ i ∧ i < n := by omega) (K : SW g X own cc nx ls st (upR V k (ur (V k) i x))) : SW g X own cc pc ls (vi x :: vi i :: vr k :: st) V := by
  obtain ⟨⟨p, e, R, s, m⟩, ⟨args, below, meth, c⟩, ⟨nL, cells, slots, Z⟩⟩ := X
  obtain ⟨hd, rfl⟩ := d
  intro hC H locs lsA hP hS hl
  obtain ⟨hx, hb, hml, hown, hts, hW, hR⟩ := id hC
  have hkl := ak_lt hk
  have hn := (ak_small hk).1
  have he : (wl g V)[k]? = some (g.2.2.1 k, .inl (g.2.2.2.2 0, n, .inl (fun j => Int32.ofInt (V k (j : Int))))) := by rw [wl_at g V hkl, (ent_a hk).2]; rfl
  have hc : (Int32.ofInt i).toNatClampNeg = i.toNat := io_cl (by simp at hn; omega)
  refine va_iast (f := fun j => Int32.ofInt (V k (j : Int))) (x := Int32.ofInt x) hx hb hW.2.1 hP (wl_D hW.1 V) hS k 0 he rfl (io_in h0.1 h0.2 hn) hd (fun H1 locs1 hP1 _ hS1 => K hC H1 locs1 lsA ?_ hS1 hl)
  have hset : (wl g V).set k (g.2.2.1 k, .inl (g.2.2.2.2 0, n, .inl (upd (fun j => Int32.ofInt (V k (j : Int))) (Int32.ofInt i).toNatClampNeg (Int32.ofInt x)))) = wl g (upR V k (ur (V k) i x)) := by
    rw [← wl_set g V hkl (ur (V k) i x), (ent_a (g := g) (V := V) hk).1, hc, up_ur (V k) h0.1 x]
    rfl
  exact hset ▸ hP1
theorem S_bast {k n : Nat} {i x : Int} (d : DI cc pc .bastore 1 nx) (hk : ak k = some (2, n)) (h0 : 0 ≤ i ∧ i < n := by omega) (h01 : x = 0 ∨ x = 1 := by omega) (K : SW g X own cc nx ls st (upR V k (ur (V k) i x))) : SW g X own cc pc ls (vi x :: vi i :: vr k :: st) V := by
  obtain ⟨⟨p, e, R, s, m⟩, ⟨args, below, meth, c⟩, ⟨nL, cells, slots, Z⟩⟩ := X
  obtain ⟨hd, rfl⟩ := d
  intro hC H locs lsA hP hS hl
  obtain ⟨hx, hb, hml, hown, hts, hW, hR⟩ := id hC
  have hkl := ak_lt hk
  have hn := (ak_small hk).1
  have he : (wl g V)[k]? = some (g.2.2.1 k, .inl (g.2.2.2.2 2, n, .inl (fun j => Int32.ofInt (V k (j : Int))))) := by rw [wl_at g V hkl, (ent_a hk).2]; rfl
  have hc : (Int32.ofInt i).toNatClampNeg = i.toNat := io_cl (by simp at hn; omega)
  have hx1 : vp_nar .boolean (Int32.ofInt x) = Int32.ofInt x := by rcases h01 with rfl | rfl <;> rfl
  refine va_zast (f := fun j => Int32.ofInt (V k (j : Int))) (x := Int32.ofInt x) hx hb hW.2.1 hP (wl_D hW.1 V) hS k 2 he rfl (io_in h0.1 h0.2 hn) hd (fun H1 locs1 hP1 _ hS1 => K hC H1 locs1 lsA ?_ hS1 hl)
  have hset : (wl g V).set k (g.2.2.1 k, .inl (g.2.2.2.2 2, n, .inl (upd (fun j => Int32.ofInt (V k (j : Int))) (Int32.ofInt i).toNatClampNeg (vp_nar .boolean (Int32.ofInt x))))) = wl g (upR V k (ur (V k) i x)) := by
    rw [← wl_set g V hkl (ur (V k) i x), (ent_a (g := g) (V := V) hk).1, hc, hx1, up_ur (V k) h0.1 x]
    rfl
  exact hset ▸ hP1
theorem S_cast {k n : Nat} {i x : Int} (d : DI cc pc .castore 1 nx) (hk : ak k = some (3, n)) (h0 : 0 ≤ i ∧ i < n := by omega) (hx1 : vp_nar .char (Int32.ofInt x) = Int32.ofInt x) (K : SW g X own cc nx ls st (upR V k (ur (V k) i x))) : SW g X own cc pc ls (vi x :: vi i :: vr k :: st) V := by
  obtain ⟨⟨p, e, R, s, m⟩, ⟨args, below, meth, c⟩, ⟨nL, cells, slots, Z⟩⟩ := X
  obtain ⟨hd, rfl⟩ := d
  intro hC H locs lsA hP hS hl
  obtain ⟨hx, hb, hml, hown, hts, hW, hR⟩ := id hC
  have hkl := ak_lt hk
  have hn := (ak_small hk).1
  have he : (wl g V)[k]? = some (g.2.2.1 k, .inl (g.2.2.2.2 3, n, .inl (fun j => Int32.ofInt (V k (j : Int))))) := by rw [wl_at g V hkl, (ent_a hk).2]; rfl
  have hc : (Int32.ofInt i).toNatClampNeg = i.toNat := io_cl (by simp at hn; omega)
  refine va_cast (f := fun j => Int32.ofInt (V k (j : Int))) (x := Int32.ofInt x) hx hb hW.2.1 hP (wl_D hW.1 V) hS k 3 he rfl (io_in h0.1 h0.2 hn) hd (fun H1 locs1 hP1 _ hS1 => K hC H1 locs1 lsA ?_ hS1 hl)
  have hset : (wl g V).set k (g.2.2.1 k, .inl (g.2.2.2.2 3, n, .inl (upd (fun j => Int32.ofInt (V k (j : Int))) (Int32.ofInt i).toNatClampNeg (vp_nar .char (Int32.ofInt x))))) = wl g (upR V k (ur (V k) i x)) := by
    rw [← wl_set g V hkl (ur (V k) i x), (ent_a (g := g) (V := V) hk).1, hc, hx1, up_ur (V k) h0.1 x]
    rfl
  exact hset ▸ hP1
theorem S_last {k n : Nat} {i x : Int} (d : DI cc pc .lastore 1 nx) (hk : ak k = some (1, n)) (h0 : 0 ≤ i ∧ i < n := by omega) (K : SW g X own cc nx ls st (upR V k (ur (V k) i x))) : SW g X own cc pc ls (vl x :: vi i :: vr k :: st) V := by
  obtain ⟨⟨p, e, R, s, m⟩, ⟨args, below, meth, c⟩, ⟨nL, cells, slots, Z⟩⟩ := X
  obtain ⟨hd, rfl⟩ := d
  intro hC H locs lsA hP hS hl
  obtain ⟨hx, hb, hml, hown, hts, hW, hR⟩ := id hC
  have hkl := ak_lt hk
  have hn := (ak_small hk).1
  have he : (wl g V)[k]? = some (g.2.2.1 k, .inl (g.2.2.2.2 1, n, .inr (.inl (fun j => Int64.ofInt (V k (j : Int)))))) := by rw [wl_at g V hkl, (ent_a hk).2]; rfl
  have hc : (Int32.ofInt i).toNatClampNeg = i.toNat := io_cl (by simp at hn; omega)
  refine va_last (f := fun j => Int64.ofInt (V k (j : Int))) (x := Int64.ofInt x) hx hb hW.2.1 hP (wl_D hW.1 V) hS k 1 he rfl (io_in h0.1 h0.2 hn) hd (fun H1 locs1 hP1 _ hS1 => K hC H1 locs1 lsA ?_ hS1 hl)
  have hset : (wl g V).set k (g.2.2.1 k, .inl (g.2.2.2.2 1, n, .inr (.inl (vp_updL (fun j => Int64.ofInt (V k (j : Int))) (Int32.ofInt i).toNatClampNeg (Int64.ofInt x))))) = wl g (upR V k (ur (V k) i x)) := by
    rw [← wl_set g V hkl (ur (V k) i x), (ent_a (g := g) (V := V) hk).1, hc, upL_ur (V k) h0.1 x]
    rfl
  exact hset ▸ hP1
end RM

