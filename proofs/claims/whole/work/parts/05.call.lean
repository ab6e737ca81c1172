/-! contracts, returns, calls -/
abbrev MN : Type := MethodName × ByteArray × Nat × Option FieldType
def rmd (d : Nat) : Room := { frames := d, cells := 0, slots := 0, locals := 64 * d }
def Qc (g : GC) (Q : Option AV → MM → Prop) : Array Value → State → Outcome → State → Prop := fun _ st oc t => (∃ (r : Option AV) (V : MM), oc = .returned (r.map (cv g)) ∧ Q r V ∧ va_P g.2.1 qcl (wl g V) t.heap) ∧ va_F g.2.2.2.1 st t
/-- the contract: from every state that holds the memory V the method returns r and holds V', with Q r V' -/
def Ct (g : GC) (M : MN) (d : Nat) (as : List AV) (V : MM) (Q : Option AV → MM → Prop) : Prop := Met g.1 M.1 (Cond.code M.1 M.2.1 M.2.2.1 M.2.2.2 :: Gs) (rmd d) (va_Pc (as.map (cv g)) (fun U => va_P g.2.1 qcl (wl g V) U.heap ∧ Wd g U U.heap)) (Qc g Q) 0 0 g.2.2.2.1
/-- what a method's end must reach; how deep it may call -/
def Fi (g : GC) (X : CX) (rt : Option FieldType) (Q : Option AV → MM → Prop) : Prop := match X with
  | ((_, _, _, s, _), (args, below, meth, _), (_, cells, slots, Z)) => Z = MQ below (Qc g Q) args s cells slots g.2.2.2.1 ∧ meth.sig.returnType = rt ∧ meth.locks = false
def Dp (X : CX) (d : Nat) : Prop := match X with
  | ((_, _, R, _, _), _, _) => d ≤ R.frames ∧ 64 * d ≤ R.locals
def elA : List AV → List (Option AV)
  | [] => []
  | .inr (.inr z) :: vs => some (vl z) :: none :: elA vs
  | v :: vs => some v :: elA vs
theorem elA_len (g : GC) (as : List AV) : (elA as).length = (lg_sl (as.map (cv g))).length := by
  induction as with
  | nil => rfl
  | cons v vs ih =>
    match v with
    | .inl z => simpa [elA, lg_sl, cv, Value.category] using ih
    | .inr (.inl k) => simpa [elA, lg_sl, cv, Value.category] using ih
    | .inr (.inr z) => simpa [elA, lg_sl, cv, Value.category] using ih
theorem elA_args (g : GC) (as : List AV) : ∀ (o i : Nat) (v : AV), (elA as)[i]? = some (some v) → (o + i, cv g v) ∈ lv_args o (as.map (cv g)) := by
  induction as with
  | nil => intro o i v h; simp [elA] at h
  | cons w vs ih =>
    intro o i v h
    match w, h with
    | .inl z, h =>
      cases i with
      | zero => simp [elA] at h; subst h; exact List.mem_cons_self
      | succ i =>
        have h2 : (elA vs)[i]? = some (some v) := by simpa [elA] using h
        have := ih (o + 1) i v h2
        exact List.mem_cons_of_mem _ (by rw [show o + (i + 1) = o + 1 + i by omega]; exact this)
    | .inr (.inl k), h =>
      cases i with
      | zero => simp [elA] at h; subst h; exact List.mem_cons_self
      | succ i =>
        have h2 : (elA vs)[i]? = some (some v) := by simpa [elA] using h
        have := ih (o + 1) i v h2
        exact List.mem_cons_of_mem _ (by rw [show o + (i + 1) = o + 1 + i by omega]; exact this)
    | .inr (.inr z), h =>
      match i, h with
      | 0, h => simp [elA] at h; subst h; exact List.mem_cons_self
      | 1, h => simp [elA] at h
      | i + 2, h =>
        have h2 : (elA vs)[i]? = some (some v) := by simpa [elA] using h
        have := ih (o + 2) i v h2
        exact List.mem_cons_of_mem _ (by rw [show o + (i + 2) = o + 2 + i by omega]; exact this)
/-- Met.ofW by the method's own name: also for classes some methods of which the machine runs itself -/
theorem Met.ofF {l : Launch} {y : MethodName} {ws ws' : List Cond} {rm : Room} {Pc : Array Value → State → Prop} {Qc : Array Value → State → Outcome → State → Prop} {mc ms : Nat} {free : Addr → Prop} {cc : ByteArray} {maxL : Nat} {ret : Option FieldType}
    (hy : plainFor y = true) (hw : ws = Cond.code y cc maxL ret :: ws')
    (body : ∀ p e s m args below meth c s₁, BodyLoose p l y (headSpec ws rm) cc maxL ret e s m args below meth c s₁ → c.maxLocals = maxL → Pc args s →
      W p l e (headSpec ws rm).room s m args below meth c s.heap [] 0 0 (MQ below Qc args s mc ms free) (entryFrame m args maxL)) : Met l y ws rm Pc Qc mc ms free := by
  refine MetFree.of_bodySF (code := cc) (maxLocals := maxL) (ret := ret) hy ?_ ?_
  · intro args s m h hn
    obtain ⟨meth, c, h1, h2, h3, h4, h5, h6, -, -⟩ := Cond.code_spec hn (atoms_spec (ws := ws) h _ (by rw [hw]; exact List.mem_cons_self))
    exact ⟨meth, c, h1, h2, h3, h4, h5, h6⟩
  · intro p e s m args below meth c s₁ B hml hP _
    have hh0 : s₁.heap = s.heap := by rw [B.state]; rfl
    obtain ⟨t, a1, o, b1, b2, b3⟩ := body p e s m args below meth c s₁ B hml hP s₁ hh0 (Stand.of_body B)
    exact ⟨t, o, a1, b1, b2, ⟨b3.1, b3.2⟩⟩
theorem Ct.of {g : GC} {M : MN} {d : Nat} {as : List AV} {V : MM} {Q : Option AV → MM → Prop} {ls : List (Option AV)} (hpl : plainFor M.1 = true) (hls : elA as ++ List.replicate (M.2.2.1 - (elA as).length) none = ls) (hlen : (elA as).length ≤ M.2.2.1)
    (k : ∀ X : CX, Fi g X M.2.2.2 Q → Dp X d → SW g X M.1.cls M.2.1 0 ls [] V) : Ct g M d as V Q := by
  obtain ⟨y, cc, maxL, ret⟩ := M
  refine Met.ofF (cc := cc) (maxL := maxL) (ret := ret) hpl rfl ?_
  intro p e s m args below meth c s₁ B hml hv
  obtain ⟨rfl, hP, hW⟩ := hv
  have hall : ∀ w ∈ Cond.code y cc maxL ret :: Gs, w.before _ s = true := atoms_spec (ws := Cond.code y cc maxL ret :: Gs) B.pre
  have hown : s.vm.findClass y.cls = some m.cls := findClass_of_methodNamed B.named
  have hlen2 : (lg_sl (as.map (cv g))).length ≤ maxL := by rw [← elA_len g as]; exact hlen
  have hl := lv_entry (as.map (cv g)) (n := maxL) hlen2
  rw [lg_entry_eq]
  generalize (lg_sl (as.map (cv g)) ++ List.replicate (maxL - (lg_sl (as.map (cv g))).length) Slot.unset).toArray = lsA at hl ⊢
  have hlok : lok g lsA maxL ls := by
    refine ⟨hl.1, hl.2.1, fun i v hi => ?_, ?_⟩
    · rw [← hls] at hi
      by_cases hi2 : i < (elA as).length
      · rw [List.getElem?_append_left hi2] at hi
        have h3 := elA_args g as 0 i v hi
        rw [Nat.zero_add] at h3
        exact hl.2.2 _ h3
      · rw [List.getElem?_append_right (by omega)] at hi
        have := List.eq_of_mem_replicate (List.mem_of_getElem? hi)
        cases this
    · rw [← hls, List.length_append, List.length_replicate]
      show (elA as).length + (maxL - (elA as).length) ≤ maxL
      have : (elA as).length ≤ maxL := hlen
      omega
  have K := k ((p, e, rmd d, s, m), ((as.map (cv g)).toArray, below, meth, c), (maxL, 0, 0, MQ below (Qc g Q) (as.map (cv g)).toArray s 0 0 g.2.2.2.1)) ⟨rfl, B.returns, B.notSynchronized⟩ ⟨Nat.le_refl _, Nat.le_refl _⟩
  exact K ⟨B.exec, B.bytes, hml, hown, fun w hw => hall w (List.mem_cons_of_mem _ hw), hW, Nat.zero_le _, Nat.zero_le _⟩ s.heap [] lsA hP va_S.rf hlok
theorem Ct.mono {g : GC} {M : MN} {d : Nat} {as : List AV} {V : MM} {Q Q' : Option AV → MM → Prop} (h : Ct g M d as V Q) (hq : ∀ r V', Q r V' → Q' r V') : Ct g M d as V Q' := by
  intro p e h1 h2 h3 s m args below a1 a2 a3 a4
  obtain ⟨n, o, b1, b2, b3, ⟨⟨r, V1, c1, c2, c3⟩, c4⟩, b5⟩ := h p e h1 h2 h3 s m args below a1 a2 a3 a4
  exact ⟨n, o, b1, b2, b3, ⟨⟨r, V1, c1, hq r V1 c2, c3⟩, c4⟩, b5⟩
section RC
variable {g : GC} {X : CX} {own : String} {cc : ByteArray} {pc nx tgt : Nat} {ls : List (Option AV)} {st : List AV} {V : MM} {Q : Option AV → MM → Prop}
theorem SW.weak {ls' : List (Option AV)} (k : SW g X own cc pc ls' st V) (h2 : ∀ (i : Nat) (v : AV), ls'[i]? = some (some v) → ls[i]? = some (some v)) (h3 : ls'.length ≤ ls.length) : SW g X own cc pc ls st V := by
  obtain ⟨⟨p, e, R, s, m⟩, ⟨args, below, meth, c⟩, ⟨nL, cells, slots, Z⟩⟩ := X
  intro hC H locs lsA hP hS hl
  exact k hC H locs lsA hP hS (lok_sub hl h2 h3)
theorem S_iret {x : Int} (hz : Fi g X (some .int) Q) (d : DI cc pc .ireturn 1 nx) (h : Q (some (vi x)) V) : SW g X own cc pc ls [vi x] V := by
  obtain ⟨⟨p, e, R, s, m⟩, ⟨args, below, meth, c⟩, ⟨nL, cells, slots, Z⟩⟩ := X
  obtain ⟨hd, rfl⟩ := d
  obtain ⟨rfl, hr, hk⟩ := hz
  intro hC H locs lsA hP hS hl
  exact W.iret hC.1 hC.2.1 hr (fun t ht hW => ⟨⟨some (vi x), V, rfl, h, by rw [ht]; exact hP⟩, hS.F ht⟩) hS.2.2 hd hk
theorem S_zret {x : Int} (hz : Fi g X (some .boolean) Q) (d : DI cc pc .ireturn 1 nx) (h01 : x = 0 ∨ x = 1) (h : Q (some (vi x)) V) : SW g X own cc pc ls [vi x] V := by
  obtain ⟨⟨p, e, R, s, m⟩, ⟨args, below, meth, c⟩, ⟨nL, cells, slots, Z⟩⟩ := X
  obtain ⟨hd, rfl⟩ := d
  obtain ⟨rfl, hr, hk⟩ := hz
  intro hC H locs lsA hP hS hl
  exact W.zret hC.1 hC.2.1 hr (by rcases h01 with rfl | rfl <;> rfl) (fun t ht hW => ⟨⟨some (vi x), V, rfl, h, by rw [ht]; exact hP⟩, hS.F ht⟩) hS.2.2 hd hk
theorem S_cret {x : Int} (hz : Fi g X (some .char) Q) (d : DI cc pc .ireturn 1 nx) (hx : narrow .char (.int (Int32.ofInt x)) = .int (Int32.ofInt x)) (h : Q (some (vi x)) V) : SW g X own cc pc ls [vi x] V := by
  obtain ⟨⟨p, e, R, s, m⟩, ⟨args, below, meth, c⟩, ⟨nL, cells, slots, Z⟩⟩ := X
  obtain ⟨hd, rfl⟩ := d
  obtain ⟨rfl, hr, hk⟩ := hz
  intro hC H locs lsA hP hS hl
  exact W.zret hC.1 hC.2.1 hr hx (fun t ht hW => ⟨⟨some (vi x), V, rfl, h, by rw [ht]; exact hP⟩, hS.F ht⟩) hS.2.2 hd hk
theorem S_lret {x : Int} (hz : Fi g X (some .long) Q) (d : DI cc pc .lreturn 1 nx) (h : Q (some (vl x)) V) : SW g X own cc pc ls [vl x] V := by
  obtain ⟨⟨p, e, R, s, m⟩, ⟨args, below, meth, c⟩, ⟨nL, cells, slots, Z⟩⟩ := X
  obtain ⟨hd, rfl⟩ := d
  obtain ⟨rfl, hr, hk⟩ := hz
  intro hC H locs lsA hP hS hl
  exact W.lret hC.1 hC.2.1 hr (fun t ht hW => ⟨⟨some (vl x), V, rfl, h, by rw [ht]; exact hP⟩, hS.F ht⟩) hS.2.2 hd hk
theorem S_vret (hz : Fi g X none Q) (d : DI cc pc .return_ 1 nx) (h : Q none V) : SW g X own cc pc ls [] V := by
  obtain ⟨⟨p, e, R, s, m⟩, ⟨args, below, meth, c⟩, ⟨nL, cells, slots, Z⟩⟩ := X
  obtain ⟨hd, rfl⟩ := d
  obtain ⟨rfl, hr, hk⟩ := hz
  intro hC H locs lsA hP hS hl
  exact W.vret hC.1 hC.2.1 hr (fun t ht hW => ⟨⟨none, V, rfl, h, by rw [ht]; exact hP⟩, hS.F ht⟩) hS.2.2 hd hk
theorem S_aret {k : Nat} {C : String} (hz : Fi g X (some (.object C)) Q) (d : DI cc pc .areturn 1 nx) (h : Q (some (vr k)) V) : SW g X own cc pc ls [vr k] V := by
  obtain ⟨⟨p, e, R, s, m⟩, ⟨args, below, meth, c⟩, ⟨nL, cells, slots, Z⟩⟩ := X
  obtain ⟨hd, rfl⟩ := d
  obtain ⟨rfl, hr, hk⟩ := hz
  intro hC H locs lsA hP hS hl
  exact W.aret hC.1 hC.2.1 hr (Or.inl ⟨_, rfl⟩) (Or.inr ⟨_, rfl⟩) (fun t ht hW => ⟨⟨some (vr k), V, rfl, h, by rw [ht]; exact hP⟩, hS.F ht⟩) hS.2.2 hd hk
/-- a method's own words; a call's link -/
def MO (M : MN) (n : Nat) : Prop := Cond.code M.1 M.2.1 M.2.2.1 M.2.2.2 ∈ Gs ∧ Cond.initialized M.1.cls ∈ Gs ∧ (M.1.cls ≠ "java/lang/invoke/MethodHandle" ∧ M.1.cls ≠ "java/lang/invoke/VarHandle" ∧ (parseMethodDescriptor M.1.desc).map (fun d => d.parameters.length) = some n) ∧ M.2.2.1 ≤ 45
def MV (M : MN) (n : Nat) : Prop := MO M n ∧ Cond.instanceMethod M.1 ∈ Gs ∧ Cond.selects M.1.cls M.1 M.1 ∈ Gs
def MS (M : MN) (n : Nat) : Prop := MO M n ∧ Cond.static M.1 ∈ Gs
def ML (own : String) (idx : Nat) (M : MN) : Prop := Cond.methodLink own idx M.1 ∈ Gs ∨ ∃ host, Cond.methodLinkNest own idx M.1 host ∈ Ns
theorem Gs_code {M : MN} {n : Nat} (h : MO M n) : GoodIn Gs (Cond.code M.1 M.2.1 M.2.2.1 M.2.2.2 :: Gs) := fun w hw => by
  rcases List.mem_cons.mp hw with rfl | hw
  · exact Gs_good _ h.1
  · exact Gs_good _ hw
def rcv (k : Nat) (C : String) : Prop := (∃ ci T N, ok k = some ci ∧ qcl[ci]? = some (C, T, N)) ∨ ∃ i : Nat, i < 6 ∧ k = 200 + i ∧ C = "java/lang/String"
theorem rcv_at {g : GC} {s : State} {H : Heap} {locs : List Loc} {k : Nat} {C : String} (h : rcv k C) (hK : va_K g.2.1 qcl (qtys g) s) (hP : va_P g.2.1 qcl (wl g V) H) (hR : Ro g s s.heap) (hS : va_S g.2.2.2.1 s.heap H locs) : ∃ cell : Cell, H[g.2.2.1 k]? = some cell ∧ cell.vm.isStatics = false ∧ s.vm.findClass C = some cell.cls := by
  rcases h with h | ⟨i, hi, rfl, rfl⟩
  rotate_left
  · exact vk_recv (adK := fun i => g.2.2.1 (200 + i)) hR.1.1 hi hS
  obtain ⟨ci, T, N, hk, hq⟩ := h
  have hkl := ok_lt hk
  unfold ok at hk
  split at hk
  · rename_i o ho
    rw [if_pos hkl] at hk
    have he : (wl g V)[k]? = some (g.2.2.1 k, .inr (ci, o.2.mapIdx (fun j q => fval g q (V k (j : Int))))) := by
      rw [wl_at g V hkl, ent_o ho, Option.some.inj hk]
    exact va_recv hK hP hq he
  · cases hk
def wcat : AV → Nat
  | .inr (.inr _) => 2
  | _ => 1
theorem wcat_eq (g : GC) (v : AV) : (cv g v).category = wcat v := by
  match v with
  | .inl z => rfl
  | .inr (.inl k) => rfl
  | .inr (.inr z) => rfl
theorem wcat_sum (g : GC) (l : List AV) : ((l.map (cv g)).map fun v => v.category).sum = (l.map wcat).sum := by
  induction l with
  | nil => rfl
  | cons v l ih => simp only [List.map_cons, List.sum_cons, ih, wcat_eq]
/-- behind a call -/
theorem SW.back {p : Program} {e : Env} {R : Room} {s : State} {m : MethodId} {args : Array Value} {below : List Frame} {meth : Method} {c : Code} {nL cells slots : Nat} {Z : State → Prop} {H : Heap} {locs : List Loc} {lsA : Array Slot} {st0 : List Value} {Qr : Option AV → MM → Prop} {as : List AV} {rest : List AV} {a : Array Value}
    (hr : va_Run p g.1 e R s m args below meth c H locs cells slots 0 0 (F0 m pc lsA st0) (rest.map (cv g)) (Qc g Qr a) g.2.2.2.1) (hC : CxOK g ((p, e, R, s, m), (args, below, meth, c), (nL, cells, slots, Z)) own cc) (hS : va_S g.2.2.2.1 s.heap H locs) (hl : lok g lsA nL ls)
    (kk : ∀ (r : Option AV) (V1 : MM), Qr r V1 → SW g ((p, e, R, s, m), (args, below, meth, c), (nL, cells, slots, Z)) own cc (pc + 3) ls (r.toList ++ rest) V1) : W p g.1 e R s m args below meth c H locs cells slots Z (F0 m pc lsA st0) := by
  intro T hT X0
  obtain ⟨v, st₀, t, T', L, h0, X', hL, e1, e2, ⟨⟨r, V1, hv, hQ, hP1⟩, hz, hk⟩, st⟩ := hr T hT X0
  have hv2 : v = r.map (cv g) := by injection hv
  subst hv2
  rw [h0] at hz hk
  have hS1 : va_S g.2.2.2.1 s.heap T'.heap (locs ++ L) := ⟨Nat.le_trans hS.1 (by rw [e1]; exact hz), fun q h1 h2 => by rw [e1, hk q (Nat.lt_of_lt_of_le h1 hS.1) h2]; exact hS.2.1 q h1 h2, fun q hq => by
      rcases List.mem_append.mp hq with h | h
      · exact hS.2.2 q h
      · exact hL q h⟩
  have hst : (r.map (cv g)).toList ++ rest.map (cv g) = (r.toList ++ rest).map (cv g) := by cases r <;> rfl
  obtain ⟨t2, a1, b1⟩ := kk r V1 hQ hC T'.heap (locs ++ L) lsA (by rw [e1]; exact hP1) hS1 hl T' rfl X'
  rw [hst] at st
  exact ⟨t2, st t2 a1, b1⟩
theorem Wd.at {g : GC} {s U : State} {H : Heap} {locs : List Loc} (h : Wd g s s.heap) (hS : va_S g.2.2.2.1 s.heap H locs) (hU : U.heap = H) (hW : s.WarmedH U.vm) : Wd g U U.heap :=
  ⟨h.1, va_K.moved hW.alike h.2.1, by rw [hU]; exact (h.2.2.1.kept hS.2.1).moved hW.alike, h.2.2.2.warm hW⟩
theorem Pc_blind {g : GC} {as : List AV} {V : MM} : FrameBlind (va_Pc (as.map (cv g)) (fun U => va_P g.2.1 qcl (wl g V) U.heap ∧ Wd g U U.heap)) := fun a U f mk q =>
  ⟨q.1, q.2.1, q.2.2.1, va_K.moved (u := U) (U := U.calling f mk a) (Vm.Alike.refl U.vm) q.2.2.2.1, Ro.moved (u := U) (U := U.calling f mk a) (Vm.Alike.refl U.vm) q.2.2.2.2.1, roRef.same (u := U) (U := U.calling f mk a) rfl q.2.2.2.2.2⟩
/-- a call of an object's method: as is the receiver and the arguments -/
theorem S_callV {idx n d d' b : Nat} {M : MN} {as rest : List AV} {Qr : Option AV → MM → Prop} (hD : Dp X d) (dd : DI cc pc (.invokevirtual idx) 3 nx) (hl0 : ML own idx M) (hm : MV M n) (hr : rcv b M.1.cls) (hc : Ct g M d' (vr b :: as) V Qr) (hd : d' + 1 ≤ d) (hn : as.length = n) (hst : st = as.reverse ++ vr b :: rest) (hw : (rest.map wcat).sum ≤ 8)
    (kk : ∀ (r : Option AV) (V1 : MM), Qr r V1 → SW g X own cc nx ls (r.toList ++ rest) V1) : SW g X own cc pc ls st V := by
  obtain ⟨⟨p, e, R, s, m⟩, ⟨args, below, meth, c⟩, ⟨nL, cells, slots, Z⟩⟩ := X
  obtain ⟨hdg, rfl⟩ := dd
  subst hst
  intro hC H locs lsA hP hS hl
  obtain ⟨hx, hb, hml, hown, hts, hW, hR1, hR2⟩ := id hC
  obtain ⟨⟨hcd, hini, hnm, hmx⟩, hin, hse⟩ := hm
  have hG := Gs_code (M := M) (n := n) ⟨hcd, hini, hnm, hmx⟩
  have hroom : (rmd d').frames + 1 ≤ R.frames ∧ 8 + (M.2.2.1 + 11) + (rmd d').locals ≤ R.locals := by
    obtain ⟨h1, h2⟩ := hD
    show d' + 1 ≤ R.frames ∧ 8 + (M.2.2.1 + 11) + 64 * d' ≤ R.locals
    omega
  have hpv : PreV s H M.1.cls (g.2.2.1 b) (va_Pc ((vr b :: as).map (cv g)) (fun U => va_P g.2.1 qcl (wl g V) U.heap ∧ Wd g U U.heap)) (as.map (cv g)) := ⟨Pc_blind, rcv_at hr hW.2.1 hP hW.2.2.1 hS, fun U hU hWU => ⟨rfl, by rw [hU]; exact hP, hW.at hS hU hWU⟩⟩
  have hwr : 2 * (F0 m pc lsA ((as.reverse ++ vr b :: rest).map (cv g))).monitorRoom + ((rest.map (cv g)).map fun v => v.category).sum ≤ 8 := by
    show 2 * 0 + _ ≤ 8
    rw [wcat_sum]
    omega
  have hstk : (F0 m pc lsA ((as.reverse ++ vr b :: rest).map (cv g))).stack = (as.map (cv g)).reverse ++ .ref (g.2.2.1 b) :: rest.map (cv g) := by
    show (as.reverse ++ vr b :: rest).map (cv g) = _
    rw [List.map_append, List.map_reverse]
    rfl
  rcases hl0 with hl0 | ⟨host, hl0⟩
  · exact SW.back (as := as) (va_runV (As := as.map (cv g)) (rest := rest.map (cv g)) ⟨hx, hb, hml, hown, hts⟩ hc ⟨callB_of n hts hG rfl rfl rfl (hts _ hini) (hts _ hl0) hnm hroom, hts _ hin, hts _ hse⟩ hpv rfl (by rw [List.length_map]; exact hn) hl.1 hstk hwr hdg ⟨hR1, hR2⟩) hC hS hl kk
  · exact SW.back (as := as) (va_runVN (As := as.map (cv g)) (rest := rest.map (cv g)) ⟨hx, hb, hml, hown, hts⟩ hc ⟨va_cnB (ws' := Gs) (rm := rmd d') (mc := 0) (ms := 0) n hts hG rfl rfl rfl (hW.2.2.2.2 _ hl0) (hts _ hini) hnm hroom, hts _ hin, hts _ hse⟩ hpv rfl (by rw [List.length_map]; exact hn) hl.1 hstk hwr hdg ⟨hR1, hR2⟩) hC hS hl kk
theorem S_callS {idx n d d' : Nat} {M : MN} {as rest : List AV} {Qr : Option AV → MM → Prop} (hD : Dp X d) (dd : DI cc pc (.invokestatic idx) 3 nx) (hl0 : ML own idx M) (hm : MS M n) (hc : Ct g M d' as V Qr) (hd : d' + 1 ≤ d) (hn : as.length = n) (hst : st = as.reverse ++ rest) (hw : (rest.map wcat).sum ≤ 8)
    (kk : ∀ (r : Option AV) (V1 : MM), Qr r V1 → SW g X own cc nx ls (r.toList ++ rest) V1) : SW g X own cc pc ls st V := by
  obtain ⟨⟨p, e, R, s, m⟩, ⟨args, below, meth, c⟩, ⟨nL, cells, slots, Z⟩⟩ := X
  obtain ⟨hdg, rfl⟩ := dd
  subst hst
  intro hC H locs lsA hP hS hl
  obtain ⟨hx, hb, hml, hown, hts, hW, hR1, hR2⟩ := id hC
  obtain ⟨⟨hcd, hini, hnm, hmx⟩, hss⟩ := hm
  have hG := Gs_code (M := M) (n := n) ⟨hcd, hini, hnm, hmx⟩
  have hroom : (rmd d').frames + 1 ≤ R.frames ∧ 8 + (M.2.2.1 + 11) + (rmd d').locals ≤ R.locals := by
    obtain ⟨h1, h2⟩ := hD
    show d' + 1 ≤ R.frames ∧ 8 + (M.2.2.1 + 11) + 64 * d' ≤ R.locals
    omega
  have hpv : PreS s H (va_Pc (as.map (cv g)) (fun U => va_P g.2.1 qcl (wl g V) U.heap ∧ Wd g U U.heap)) (as.map (cv g)) := ⟨Pc_blind, fun U hU hWU => ⟨rfl, by rw [hU]; exact hP, hW.at hS hU hWU⟩⟩
  have hwr : 2 * (F0 m pc lsA ((as.reverse ++ rest).map (cv g))).monitorRoom + ((rest.map (cv g)).map fun v => v.category).sum ≤ 8 := by
    show 2 * 0 + _ ≤ 8
    rw [wcat_sum]
    omega
  have hstk : (F0 m pc lsA ((as.reverse ++ rest).map (cv g))).stack = (as.map (cv g)).reverse ++ rest.map (cv g) := by
    show (as.reverse ++ rest).map (cv g) = _
    rw [List.map_append, List.map_reverse]
  rcases hl0 with hl0 | ⟨host, hl0⟩
  · exact SW.back (as := as) (va_runS (As := as.map (cv g)) (rest := rest.map (cv g)) ⟨hx, hb, hml, hown, hts⟩ hc ⟨callB_of n hts hG rfl rfl rfl (hts _ hini) (hts _ hl0) hnm hroom, hts _ hss⟩ hpv rfl (by rw [List.length_map]; exact hn) hl.1 hstk hwr hdg ⟨hR1, hR2⟩) hC hS hl kk
  · exact SW.back (as := as) (va_runSN (As := as.map (cv g)) (rest := rest.map (cv g)) ⟨hx, hb, hml, hown, hts⟩ hc ⟨va_cnB (ws' := Gs) (rm := rmd d') (mc := 0) (ms := 0) n hts hG rfl rfl rfl (hW.2.2.2.2 _ hl0) (hts _ hini) hnm hroom, hts _ hss, trivial⟩ hpv rfl (by rw [List.length_map]; exact hn) hl.1 hstk hwr hdg ⟨hR1, hR2⟩) hC hS hl kk
end RC
section RD
variable {g : GC} {X : CX} {own : String} {cc : ByteArray} {pc : Nat} {ls : List (Option AV)} {st : List AV} {V V' : MM}
theorem SW.cast (h : SW g X own cc pc ls st V') (e : V = V') : SW g X own cc pc ls st V := e ▸ h
theorem SW.forget (i : Nat) (k : SW g X own cc pc (ls.set i none) st V) : SW g X own cc pc ls st V := by
  refine SW.weak k (fun j v h => ?_) (by rw [List.length_set]; exact Nat.le_refl _)
  rw [List.getElem?_set] at h
  split at h
  · split at h <;> cases h
  · exact h
end RD
