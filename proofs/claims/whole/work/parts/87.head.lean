/-! the law's start: both objects made, then the loop -/
theorem law_init {g : GC} {X : CX} {b : Nat} (hDp : DpI X 40 126 4133) (hnL : nLX X = 4) (K : ∀ (qs qs2 : Nat → Nat), IW g X RL cL_law 18 [(3, .int (Int32.ofInt 0)), (2, .ref (qs2 0)), (1, .ref (qs 0)), (0, .ref b)] [] (mkX6 g qs ++ mkX7 g qs2) 126 4133) : IW g X RL cL_law 0 [(0, .ref b)] [] [] 0 0 := by
  refine I_new (ci := 6) (C := RX6) (T := TX6) (N := 12) (ty := tyX6) (fs := dfX6) hDp qL_law_0 rfl tyX6_ok (Gs_of (tb_1 (i := 17) (by decide +kernel)) rfl) wI_6 wJ_6 df_6 (by exact Nat.le_of_ble_eq_true rfl) (by exact Nat.le_of_ble_eq_true rfl) (fun q1 => ?_)
  refine I_dup qL_law_3 ?_
  refine I_call (As := []) (rest := [.ref q1]) hDp qL_law_4 (Or.inl (Gs_of (tb_1 (i := 19) (by decide +kernel)) rfl)) oX6_init wV_6 rfl rfl (mk_X6 _ q1) (by decide) (by exact Nat.le_of_ble_eq_true rfl) (by exact Nat.le_of_ble_eq_true rfl) rfl rfl (by exact Nat.le_of_ble_eq_true rfl) (fun w hw => ?_)
  obtain ⟨s1, rfl, rfl⟩ := hw
  show IW g X _ _ _ _ _ (mkX6 g s1) 83 1933
  refine I_as (lv' := [(1, .ref (s1 0)), (0, .ref b)]) qL_law_7 rfl (by rw [hnL]; exact Nat.le_of_ble_eq_true rfl) rfl ?_
  refine I_new (ci := 7) (C := RX7) (T := TX7) (N := 64) (ty := tyX7) (fs := dfX7) hDp qL_law_8 rfl tyX7_ok (Gs_of (tb_4 (i := 76) (by decide +kernel)) rfl) wI_7 wJ_7 df_7 (by exact Nat.le_of_ble_eq_true rfl) (by exact Nat.le_of_ble_eq_true rfl) (fun q2 => ?_)
  refine I_dup qL_law_11 ?_
  refine I_call (As := []) (rest := [.ref q2]) hDp qL_law_12 (Or.inl (Gs_of (tb_4 (i := 78) (by decide +kernel)) rfl)) oX7_init wV_7 rfl rfl (mk_X7 _ q2) (by decide) (by exact Nat.le_of_ble_eq_true rfl) (by exact Nat.le_of_ble_eq_true rfl) rfl rfl (by exact Nat.le_of_ble_eq_true rfl) (fun w hw => ?_)
  obtain ⟨s2, rfl, rfl⟩ := hw
  show IW g X _ _ _ _ _ (mkX6 g s1 ++ mkX7 g s2) 126 4133
  refine I_as (lv' := [(2, .ref (s2 0)), (1, .ref (s1 0)), (0, .ref b)]) qL_law_15 rfl (by rw [hnL]; exact Nat.le_of_ble_eq_true rfl) rfl ?_
  refine I_ic (v := Int32.ofInt 0) qL_law_16 rfl ?_
  refine I_is (lv' := [(3, .int (Int32.ofInt 0)), (2, .ref (s2 0)), (1, .ref (s1 0)), (0, .ref b)]) qL_law_17 rfl (by rw [hnL]; exact Nat.le_of_ble_eq_true rfl) rfl ?_
  exact K s1 s2
theorem law_head {p : Program} {e : Env} {s : State} {m : MethodId} {below : List Frame} {meth : Method} {c : Code} {l : Launch} {b L : Nat} {xs : Nat → Int32} {D : va_G} {cid : Nat → ClassId} {adR : Nat → Nat} (hL : L ≤ 3072) (C0 : lw_At p s m meth c b L xs) (hb0 : adR 250 = b) (hWd : WdI (l, D, adR, (fun q => s.heap.size ≤ q), cid) s) (hG : ∀ w ∈ Gs, w.before #[Value.ref b] s = true) (hRo : Ro (l, D, adR, (fun q => s.heap.size ≤ q), cid) s s.heap) (hStr : roStr (l, D, adR, (fun q => s.heap.size ≤ q), cid) s) (qs qs2 : Nat → Nat) :
    IW (l, D, adR, (fun q => s.heap.size ≤ q), cid) ((p, e, room_1, s, m), (#[Value.ref b], below, meth, c), (4, 0, 0, lw_Z below #[Value.ref b] s)) RL cL_law 18 [(3, .int (Int32.ofInt 0)), (2, .ref (qs2 0)), (1, .ref (qs 0)), (0, .ref b)] [] (mkX6 (l, D, adR, (fun q => s.heap.size ≤ q), cid) qs ++ mkX7 (l, D, adR, (fun q => s.heap.size ≤ q), cid) qs2) 126 4133 := by
  obtain ⟨hx, hb, hr, hml, hcls, hts, hX, hbl, hlocks, hgv⟩ := C0
  intro hC H locs lsA hP hD hS hl
  have hg := gA_Wd (qs := qs) (qs2 := qs2) hD hWd hRo hStr
  have hC2 : CxOK (gA (l, D, adR, (fun q => s.heap.size ≤ q), cid) qs qs2) ((p, e, room_1, s, m), (#[Value.ref b], below, meth, c), (4, 126, 4133, lw_Z below #[Value.ref b] s)) RL cL_law := ⟨hx, hb, hml, hcls, hG, hg, by exact Nat.le_of_ble_eq_true rfl, by exact Nat.le_of_ble_eq_true rfl⟩
  have e250 : adA adR qs qs2 250 = b := (adA_hi adR qs qs2 (by omega)).trans hb0
  have hlx : LX (gA (l, D, adR, (fun q => s.heap.size ≤ q), cid) qs qs2) ((p, e, room_1, s, m), (#[Value.ref b], below, meth, c), (4, 126, 4133, lw_Z below #[Value.ref b] s)) L xs := by
    show va_X (adA adR qs qs2 250) L xs s s.heap ∧ adA adR qs qs2 250 < s.heap.size ∧ ¬ (s.heap.size ≤ adA adR qs qs2 250)
    rw [e250]
    exact ⟨hX, hbl, Nat.not_le.mpr hbl⟩
  have hDp : Dp ((p, e, room_1, s, m), (#[Value.ref b], below, meth, c), (4, 126, 4133, lw_Z below #[Value.ref b] s)) 40 := ⟨by exact Nat.le_of_ble_eq_true rfl, by exact Nat.le_of_ble_eq_true rfl⟩
  have E : ∀ (i : Int) (V : MM), SW (gA (l, D, adR, (fun q => s.heap.size ≤ q), cid) qs qs2) ((p, e, room_1, s, m), (#[Value.ref b], below, meth, c), (4, 126, 4133, lw_Z below #[Value.ref b] s)) RL cL_law 1390 (lsL i) [] V := by
    intro i V
    refine S_iconst qL_law_1390 ?_
    intro hC3 H3 locs3 ls3 hP3 hS3 hl3
    refine va_forget (fun q hq => hS3.2.2 q hq) ?_
    refine W.widen (k := 600000) (n := 7302250) (by exact Nat.le_of_ble_eq_true rfl) (by exact Nat.le_of_ble_eq_true rfl) ?_
    have e1 : Int32.ofInt 1 = 1 := by decide
    show W p l e room_1 s m #[Value.ref b] below meth c H3 [] 600000 7302250 (lw_Z below #[Value.ref b] s) (F0 m 1391 ls3 [.int (Int32.ofInt 1)])
    rw [e1]
    exact lw_ret hx hb hr hlocks qL_law_1391.1
  have hlok : lok (gA (l, D, adR, (fun q => s.heap.size ≤ q), cid) qs qs2) lsA 4 (lsL 0) := by
    refine ⟨hl.1, hl.2.1, fun i v hv => ?_, by decide⟩
    have h3 : lsA[3]? = some (.val (.int (Int32.ofInt 0))) := hl.2.2 (3, .int (Int32.ofInt 0)) (List.Mem.head _)
    have h2 : lsA[2]? = some (.val (.ref (qs2 0))) := hl.2.2 (2, .ref (qs2 0)) (List.Mem.tail _ (List.Mem.head _))
    have h1 : lsA[1]? = some (.val (.ref (qs 0))) := hl.2.2 (1, .ref (qs 0)) (List.Mem.tail _ (List.Mem.tail _ (List.Mem.head _)))
    have h0 : lsA[0]? = some (.val (.ref b)) := hl.2.2 (0, .ref b) (List.Mem.tail _ (List.Mem.tail _ (List.Mem.tail _ (List.Mem.head _))))
    match i, hv with
    | 0, hv =>
      cases hv
      show lsA[0]? = some (.val (.ref (adA adR qs qs2 250)))
      rw [e250]
      exact h0
    | 1, hv =>
      cases hv
      exact h1
    | 2, hv =>
      cases hv
      exact h2
    | 3, hv =>
      cases hv
      exact h3
    | n + 4, hv => exact absurd (show (none : Option (Option AV)) = some (some v) from hv) (by simp)
  exact law_loop hlx hL hDp E (L + 1) 0 (by omega) (by omega) (by omega) V00 Z00 CA00 MA00 hC2 H locs lsA (wl_00 hP) hS hlok
