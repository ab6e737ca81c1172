/-! constructors: a list of cells that grows; the object in the making lies behind pre -/
def rmi (d mc ms : Nat) : Room := { frames := d, cells := mc, slots := ms, locals := 64 * d }
def WdI (g : GC) (U : State) : Prop := va_K g.2.1 qcl (qtys g) U ∧ (∀ w ∈ Ns, va_Nw w U) ∧ va_AO "TwoBeatsAgo$Hall" U ∧ va_AO "TwoBeatsAgo$Tape" U
def QcI (g : GC) (Q : va_W → Prop) : Array Value → State → Outcome → State → Prop := fun _ st oc t => (oc = .returned none ∧ ∃ ws' : va_W, Q ws' ∧ va_P g.2.1 qcl ws' t.heap ∧ va_D g.2.2.2.1 ws') ∧ va_F g.2.2.2.1 st t
def PcI (g : GC) (av : List Value) (ws : va_W) : Array Value → State → Prop := va_Pc av (fun U => (va_P g.2.1 qcl ws U.heap ∧ va_D g.2.2.2.1 ws ∧ ∀ q : Nat, U.heap.size ≤ q → g.2.2.2.1 q) ∧ WdI g U)
def CI (g : GC) (M : MN) (d mc ms : Nat) (av : List Value) (ws : va_W) (Q : va_W → Prop) : Prop := Met g.1 M.1 (Cond.code M.1 M.2.1 M.2.2.1 M.2.2.2 :: Gs) (rmi d mc ms) (PcI g av ws) (QcI g Q) mc ms g.2.2.2.1
def CxI (g : GC) (X : CX) (own : String) (cc : ByteArray) : Prop := match X with
  | ((p, _, _, s, m), (args, _, _, c), (nL, _, _, _)) => p.tables.exec = Jvm.exec ∧ c.code = cc ∧ c.maxLocals = nL ∧ s.vm.findClass own = some m.cls ∧ (∀ w ∈ Gs, w.before args s = true) ∧ WdI g s ∧ ∀ q : Nat, s.heap.size ≤ q → g.2.2.2.1 q
def IW (g : GC) (X : CX) (own : String) (cc : ByteArray) (pc : Nat) (lv : List (Nat × Value)) (st : List Value) (ws : va_W) (k sl : Nat) : Prop := CxI g X own cc → match X with
  | ((p, e, R, s, m), (args, below, meth, c), (nL, _, _, Z)) => ∀ (H : Heap) (locs : List Loc) (lsA : Array Slot), va_P g.2.1 qcl ws H → va_D g.2.2.2.1 ws → va_S g.2.2.2.1 s.heap H locs → lv_has lsA nL lv → W p g.1 e R s m args below meth c H locs k sl Z (F0 m pc lsA st)
def FiI (g : GC) (X : CX) (mc ms : Nat) (Q : va_W → Prop) : Prop := match X with
  | ((_, _, _, s, _), (args, below, meth, _), (_, _, _, Z)) => Z = MQ below (QcI g Q) args s mc ms g.2.2.2.1 ∧ meth.sig.returnType = none ∧ meth.locks = false ∧ meth.name = "<init>"
def DpI (X : CX) (d mc ms : Nat) : Prop := match X with
  | ((_, _, R, _, _), _, _) => d ≤ R.frames ∧ 64 * d ≤ R.locals ∧ mc ≤ R.cells ∧ ms ≤ R.slots
def nLX (X : CX) : Nat := match X with
  | (_, _, (nL, _, _, _)) => nL
theorem CI.of {g : GC} {M : MN} {d mc ms : Nat} {av : List Value} {ws : va_W} {Q : va_W → Prop} {lv : List (Nat × Value)} (hpl : plainFor M.1 = true) (hret : M.2.2.2 = none) (hnm : M.1.name = "<init>") (hlen : (lg_sl av).length ≤ M.2.2.1) (hlv : lv_args 0 av = lv)
    (k : ∀ X : CX, nLX X = M.2.2.1 → FiI g X mc ms Q → DpI X d mc ms → IW g X M.1.cls M.2.1 0 lv [] ws 0 0) : CI g M d mc ms av ws Q := by
  obtain ⟨y, cc, maxL, ret⟩ := M
  subst hret
  refine Met.ofF (cc := cc) (maxL := maxL) (ret := none) hpl rfl ?_
  intro p e s m args below meth c s₁ B hml hv
  obtain ⟨rfl, ⟨hP, hD, hA⟩, hW⟩ := hv
  have hall : ∀ w ∈ Cond.code y cc maxL none :: Gs, w.before _ s = true := atoms_spec (ws := Cond.code y cc maxL none :: Gs) B.pre
  have hown : s.vm.findClass y.cls = some m.cls := findClass_of_methodNamed B.named
  have hin : meth.name = "<init>" := (name_of_methodNamed B.named B.method).1.trans hnm
  have hl := lv_entry av (n := maxL) hlen
  rw [lg_entry_eq]
  generalize (lg_sl av ++ List.replicate (maxL - (lg_sl av).length) Slot.unset).toArray = lsA at hl ⊢
  rw [hlv] at hl
  have K := k ((p, e, rmi d mc ms, s, m), (av.toArray, below, meth, c), (maxL, 0, 0, MQ below (QcI g Q) av.toArray s mc ms g.2.2.2.1)) rfl ⟨rfl, B.returns, B.notSynchronized, hin⟩ ⟨Nat.le_refl _, Nat.le_refl _, Nat.le_refl _, Nat.le_refl _⟩
  exact K ⟨B.exec, B.bytes, hml, hown, fun w hw => hall w (List.mem_cons_of_mem _ hw), hW, hA⟩ s.heap [] lsA hP hD va_S.rf hl
theorem CI.mono {g : GC} {M : MN} {d mc ms : Nat} {av : List Value} {ws : va_W} {Q Q' : va_W → Prop} (h : CI g M d mc ms av ws Q) (hq : ∀ w, Q w → Q' w) : CI g M d mc ms av ws Q' := by
  intro p e h1 h2 h3 s m args below a1 a2 a3 a4
  obtain ⟨n, o, b1, b2, b3, ⟨⟨c1, w, c2, c3⟩, c4⟩, b5⟩ := h p e h1 h2 h3 s m args below a1 a2 a3 a4
  exact ⟨n, o, b1, b2, b3, ⟨⟨c1, w, hq w c2, c3⟩, c4⟩, b5⟩
theorem at_pre {α : Type} (pre : List α) (x : α) (post : List α) : (pre ++ x :: post)[pre.length]? = some x := by
  rw [List.getElem?_append_right (Nat.le_refl _), Nat.sub_self]
  rfl
theorem at_post {α : Type} (pre : List α) (x : α) (post : List α) (j : Nat) : (pre ++ x :: post)[pre.length + 1 + j]? = post[j]? := by
  rw [List.getElem?_append_right (by omega), show pre.length + 1 + j - pre.length = j + 1 by omega]
  rfl
theorem set_pre {α : Type} (pre : List α) (x y : α) (post : List α) : (pre ++ x :: post).set pre.length y = pre ++ y :: post := by
  rw [List.set_append_right _ _ (Nat.le_refl _), Nat.sub_self]
  rfl
theorem set_post {α : Type} (pre : List α) (x y : α) (post : List α) (j : Nat) : (pre ++ x :: post).set (pre.length + 1 + j) y = pre ++ x :: post.set j y := by
  rw [List.set_append_right _ _ (by omega), show pre.length + 1 + j - pre.length = j + 1 by omega]
  rfl
section RI
variable {g : GC} {X : CX} {own : String} {cc : ByteArray} {pc nx tgt : Nat} {lv : List (Nat × Value)} {st : List Value} {ws pre post : va_W} {k sl : Nat}
theorem I_al {i : Nat} {q : Fin 4} {x : Nat} (d : DI cc pc (.aload_n q) 1 nx) (hq : (q : Nat) = i) (j : Nat) (h : lv[j]? = some (i, .ref x)) (K : IW g X own cc nx lv (.ref x :: st) ws k sl) : IW g X own cc pc lv st ws k sl := by
  obtain ⟨⟨p, e, R, s, m⟩, ⟨args, below, meth, c⟩, ⟨nL, cells, slots, Z⟩⟩ := X
  obtain ⟨hd, rfl⟩ := d
  intro hC H locs lsA hP hD hS hl
  exact lv_aload_n hC.1 hC.2.1 hd hq (lv_at hl j h) (K hC H locs lsA hP hD hS hl)
theorem I_il {i : Nat} {q : Fin 4} {x : Int32} (d : DI cc pc (.iload_n q) 1 nx) (hq : (q : Nat) = i) (j : Nat) (h : lv[j]? = some (i, .int x)) (K : IW g X own cc nx lv (.int x :: st) ws k sl) : IW g X own cc pc lv st ws k sl := by
  obtain ⟨⟨p, e, R, s, m⟩, ⟨args, below, meth, c⟩, ⟨nL, cells, slots, Z⟩⟩ := X
  obtain ⟨hd, rfl⟩ := d
  intro hC H locs lsA hP hD hS hl
  exact lv_iload_n hC.1 hC.2.1 hd hq (lv_at hl j h) (K hC H locs lsA hP hD hS hl)
theorem I_ic {n : Int} {v : Int32} (d : DI cc pc (.iconst n) 1 nx) (hv : Int32.ofInt n = v) (K : IW g X own cc nx lv (.int v :: st) ws k sl) : IW g X own cc pc lv st ws k sl := by
  obtain ⟨⟨p, e, R, s, m⟩, ⟨args, below, meth, c⟩, ⟨nL, cells, slots, Z⟩⟩ := X
  obtain ⟨hd, rfl⟩ := d
  intro hC H locs lsA hP hD hS hl
  exact lv_iconst hC.1 hC.2.1 hd hv (K hC H locs lsA hP hD hS hl)
theorem I_bi {n : Int} {v : Int32} (d : DI cc pc (.bipush n) 2 nx) (hv : (Int8.ofInt n).toInt32 = v) (K : IW g X own cc nx lv (.int v :: st) ws k sl) : IW g X own cc pc lv st ws k sl := by
  obtain ⟨⟨p, e, R, s, m⟩, ⟨args, below, meth, c⟩, ⟨nL, cells, slots, Z⟩⟩ := X
  obtain ⟨hd, rfl⟩ := d
  intro hC H locs lsA hP hD hS hl
  exact lv_bipush hC.1 hC.2.1 hd hv (K hC H locs lsA hP hD hS hl)
theorem I_si {n : Int} {v : Int32} (d : DI cc pc (.sipush n) 3 nx) (hv : (Int16.ofInt n).toInt32 = v) (K : IW g X own cc nx lv (.int v :: st) ws k sl) : IW g X own cc pc lv st ws k sl := by
  obtain ⟨⟨p, e, R, s, m⟩, ⟨args, below, meth, c⟩, ⟨nL, cells, slots, Z⟩⟩ := X
  obtain ⟨hd, rfl⟩ := d
  intro hC H locs lsA hP hD hS hl
  exact lv_sipush hC.1 hC.2.1 hd hv (K hC H locs lsA hP hD hS hl)
theorem I_dup {x : Nat} (d : DI cc pc .dup 1 nx) (K : IW g X own cc nx lv (.ref x :: .ref x :: st) ws k sl) : IW g X own cc pc lv (.ref x :: st) ws k sl := by
  obtain ⟨⟨p, e, R, s, m⟩, ⟨args, below, meth, c⟩, ⟨nL, cells, slots, Z⟩⟩ := X
  obtain ⟨hd, rfl⟩ := d
  intro hC H locs lsA hP hD hS hl
  exact lv_dup hC.1 hC.2.1 hd rfl (K hC H locs lsA hP hD hS hl)
theorem I_as {i x : Nat} {q : Fin 4} {lv' : List (Nat × Value)} (d : DI cc pc (.astore_n q) 1 nx) (hq : (q : Nat) = i) (hn : i < nLX X) (hl2 : (i, Value.ref x) :: lv.filter (fun q => !(q.1 == i) && !(q.1 + 1 == i && q.2.category == 2)) = lv') (K : IW g X own cc nx lv' st ws k sl) : IW g X own cc pc lv (.ref x :: st) ws k sl := by
  obtain ⟨⟨p, e, R, s, m⟩, ⟨args, below, meth, c⟩, ⟨nL, cells, slots, Z⟩⟩ := X
  obtain ⟨hd, rfl⟩ := d
  intro hC H locs lsA hP hD hS hl
  exact lv_astore_n hC.1 hC.2.1 hd hq hl hn hl2 (fun ls2 h2 => K hC H locs ls2 hP hD hS h2)
theorem I_is {i : Nat} {x : Int32} {q : Fin 4} {lv' : List (Nat × Value)} (d : DI cc pc (.istore_n q) 1 nx) (hq : (q : Nat) = i) (hn : i < nLX X) (hl2 : (i, Value.int x) :: lv.filter (fun q => !(q.1 == i) && !(q.1 + 1 == i && q.2.category == 2)) = lv') (K : IW g X own cc nx lv' st ws k sl) : IW g X own cc pc lv (.int x :: st) ws k sl := by
  obtain ⟨⟨p, e, R, s, m⟩, ⟨args, below, meth, c⟩, ⟨nL, cells, slots, Z⟩⟩ := X
  obtain ⟨hd, rfl⟩ := d
  intro hC H locs lsA hP hD hS hl
  exact lv_istore_n hC.1 hC.2.1 hd hq hl hn hl2 (fun ls2 h2 => K hC H locs ls2 hP hD hS h2)
theorem I_inc {i j : Nat} {n : Int} {x v : Int32} {lv' : List (Nat × Value)} (d : DI cc pc (.iinc i n) 3 nx) (h : lv[j]? = some (i, .int x)) (hv : x + Int32.ofInt n = v) (hn : i < nLX X) (hl2 : (i, Value.int v) :: lv.filter (fun q => !(q.1 == i) && !(q.1 + 1 == i && q.2.category == 2)) = lv') (K : IW g X own cc nx lv' st ws k sl) : IW g X own cc pc lv st ws k sl := by
  obtain ⟨⟨p, e, R, s, m⟩, ⟨args, below, meth, c⟩, ⟨nL, cells, slots, Z⟩⟩ := X
  obtain ⟨hd, rfl⟩ := d
  intro hC H locs lsA hP hD hS hl
  exact lv_iinc hC.1 hC.2.1 hd hl h hv hn hl2 (fun ls2 h2 => K hC H locs ls2 hP hD hS h2)
theorem I_goto (d : DJ cc pc .goto tgt nx) (K : IW g X own cc tgt lv st ws k sl) : IW g X own cc pc lv st ws k sl := by
  obtain ⟨⟨p, e, R, s, m⟩, ⟨args, below, meth, c⟩, ⟨nL, cells, slots, Z⟩⟩ := X
  obtain ⟨off, hd, ht, rfl⟩ := d
  intro hC H locs lsA hP hD hS hl
  exact lv_goto hC.1 hC.2.1 hd ht (K hC H locs lsA hP hD hS hl)
theorem I_geT {x y : Int32} (d : DJ cc pc (.if_icmp .ge) tgt nx) (h : y ≤ x) (K : IW g X own cc tgt lv st ws k sl) : IW g X own cc pc lv (.int y :: .int x :: st) ws k sl := by
  obtain ⟨⟨p, e, R, s, m⟩, ⟨args, below, meth, c⟩, ⟨nL, cells, slots, Z⟩⟩ := X
  obtain ⟨off, hd, ht, rfl⟩ := d
  intro hC H locs lsA hP hD hS hl
  exact lv_icmp_ge hC.1 hC.2.1 hd ht (fun _ => K hC H locs lsA hP hD hS hl) (fun q => absurd h q)
theorem I_geF {x y : Int32} (d : DJ cc pc (.if_icmp .ge) tgt nx) (h : ¬ y ≤ x) (K : IW g X own cc nx lv st ws k sl) : IW g X own cc pc lv (.int y :: .int x :: st) ws k sl := by
  obtain ⟨⟨p, e, R, s, m⟩, ⟨args, below, meth, c⟩, ⟨nL, cells, slots, Z⟩⟩ := X
  obtain ⟨off, hd, ht, rfl⟩ := d
  intro hC H locs lsA hP hD hS hl
  exact lv_icmp_ge hC.1 hC.2.1 hd ht (fun q => absurd q h) (fun _ => K hC H locs lsA hP hD hS hl)
theorem I_obj {idx x d0 mc ms : Nat} (hDp : DpI X d0 mc ms) (h1d : 1 ≤ d0) (d : DI cc pc (.invokespecial idx) 3 nx) (w1 : Cond.methodLink own idx objectInit ∈ Gs) (w2 : Cond.instanceMethod objectInit ∈ Gs) (w3 : Cond.code objectInit ⟨#[0xb1]⟩ 1 none ∈ Gs) (hst : (st.map fun v => v.category).sum ≤ 8) (K : IW g X own cc nx lv st ws k sl) : IW g X own cc pc lv (.ref x :: st) ws k sl := by
  obtain ⟨⟨p, e, R, s, m⟩, ⟨args, below, meth, c⟩, ⟨nL, cells, slots, Z⟩⟩ := X
  obtain ⟨hd, rfl⟩ := d
  obtain ⟨g1, g2, -, -⟩ := hDp
  intro hC H locs lsA hP hD hS hl
  obtain ⟨hx, hb, hml, hown, hts, hW, hA⟩ := id hC
  refine W.objInit hx hb hown (hts _ w1) (hts _ w2) (hts _ w3) (g := F0 m pc lsA (.ref x :: st)) rfl (by rw [hml]; exact hl.1) rfl hd (by omega) (by show 2 * 0 + (st.map fun v => v.category).sum + 12 ≤ R.locals; omega) ?_
  exact W.eq (g2 := F0 m (pc + 3) lsA st) rfl (K hC H locs lsA hP hD hS hl)
/-- a word of an array class is one class -/
theorem ty_one {g : GC} {s : State} {t : Nat} {cA : ClassId} {ty : FieldType} (hK : va_K g.2.1 qcl (qtys g) s) (hK2 : va_K g.2.1 qcl (qtys g ++ [(cA, ty)]) s) (ht : (qtys g)[t]? = some (g.2.2.2.2 t, ty)) : cA = g.2.2.2.2 t := by
  have h1 := (hK.2 t _ ht).2
  have h2 := (hK2.2 6 (cA, ty) rfl).2
  cases ty with
  | object C =>
    obtain ⟨k1, c1, -, -, -, e1⟩ := h1
    obtain ⟨k2, c2, -, -, -, e2⟩ := h2
    exact Option.some.inj (e2.symm.trans e1)
  | _ => exact Option.some.inj ((show s.vm.findClass _ = some cA from h2).symm.trans h1)
theorem I_newa {atype : ArrayType} {t N d0 mc ms : Nat} {n : Int32} {ty : FieldType} {a0 : vp_A} (hDp : DpI X d0 mc ms) (d : DI cc pc (.newarray atype) 2 nx) (hty : newarray.typeOf atype = ty) (hw : Cond.arrayClass (newarray.typeOf atype) ∈ Gs) (ht : (qtys g)[t]? = some (g.2.2.2.2 t, ty)) (ha : ∀ cA : ClassId, vp_cell cA a0 = arrV cA N (fun _ => defaultValue ty)) (hn : ¬ n < 0) (hN : n.toNatClampNeg = N) (hby : N * componentBytes ty ≤ 536870912) (hk : k + 1 ≤ mc) (hs : sl + N ≤ ms)
    (K : ∀ q : Nat, IW g X own cc nx lv (.ref q :: st) (ws ++ [(q, .inl (g.2.2.2.2 t, a0))]) (k + 1) (sl + N)) : IW g X own cc pc lv (.int n :: st) ws k sl := by
  obtain ⟨⟨p, e, R, s, m⟩, ⟨args, below, meth, c⟩, ⟨nL, cells, slots, Z⟩⟩ := X
  obtain ⟨hd, rfl⟩ := d
  obtain ⟨-, -, g3, g4⟩ := hDp
  intro hC H locs lsA hP hD hS hl
  obtain ⟨hx, hb, hml, hown, hts, hW, hA⟩ := id hC
  refine va_newa (atype := atype) hx hb (hts _ hw) hty hW.1 hP hD hS hA ha hn hN hby (by omega) (by omega) hd (fun q cA H1 hK1 hP1 hD1 hS1 => ?_)
  have e := ty_one hW.1 hK1 ht
  subst e
  exact K q hC H1 locs lsA hP1 hD1 hS1 hl
theorem I_newq {idx t N d0 mc ms : Nat} {n : Int32} {C : String} (hDp : DpI X d0 mc ms) (d : DI cc pc (.anewarray idx) 3 nx) (hw : Cond.classLink own idx C ∈ Gs) (hC0 : C = "TwoBeatsAgo$Hall" ∨ C = "TwoBeatsAgo$Tape") (ht : (qtys g)[t]? = some (g.2.2.2.2 t, .object C)) (hn : ¬ n < 0) (hN : n.toNatClampNeg = N) (hby : N * 4 ≤ 536870912) (hk : k + 1 ≤ mc) (hs : sl + N ≤ ms)
    (K : ∀ q : Nat, IW g X own cc nx lv (.ref q :: st) (ws ++ [(q, .inl (g.2.2.2.2 t, N, .inr (.inr (.inr (.inr (fun _ => none))))))]) (k + 1) (sl + N)) : IW g X own cc pc lv (.int n :: st) ws k sl := by
  obtain ⟨⟨p, e, R, s, m⟩, ⟨args, below, meth, c⟩, ⟨nL, cells, slots, Z⟩⟩ := X
  obtain ⟨hd, rfl⟩ := d
  obtain ⟨-, -, g3, g4⟩ := hDp
  intro hC H locs lsA hP hD hS hl
  obtain ⟨hx, hb, hml, hown, hts, hW, hA⟩ := id hC
  have hAO : va_AO C s := by rcases hC0 with rfl | rfl; exact hW.2.2.1; exact hW.2.2.2
  refine va_newq hx hb hown (hts _ hw) hAO hW.1 hP hD hS hA hn hN hby (by omega) (by omega) hd (fun q cA H1 hK1 hP1 hD1 hS1 => ?_)
  have e := ty_one hW.1 hK1 ht
  subst e
  exact K q hC H1 locs lsA hP1 hD1 hS1 hl
theorem I_new {idx ci N d0 mc ms : Nat} {C : String} {T : u_T} {ty : Nat → FieldType} {fs : List Value} (hDp : DpI X d0 mc ms) (d : DI cc pc (.new idx) 3 nx) (hq : qcl[ci]? = some (C, T, N)) (hty : ∀ k, k < N → parseFieldDescriptor (T k).2.2.1 = some (ty k)) (w1 : Cond.classLink own idx C ∈ Gs) (w2 : Cond.instantiable C N ∈ Gs) (w3 : Cond.initialized C ∈ Gs) (hfs : ∀ j, j < N → defaultValue (ty j) = vp_V fs j) (hk : k + 1 ≤ mc) (hs : sl + N ≤ ms)
    (K : ∀ q : Nat, IW g X own cc nx lv (.ref q :: st) (ws ++ [(q, .inr (ci, fs))]) (k + 1) (sl + N)) : IW g X own cc pc lv st ws k sl := by
  obtain ⟨⟨p, e, R, s, m⟩, ⟨args, below, meth, c⟩, ⟨nL, cells, slots, Z⟩⟩ := X
  obtain ⟨hd, rfl⟩ := d
  obtain ⟨-, -, g3, g4⟩ := hDp
  intro hC H locs lsA hP hD hS hl
  obtain ⟨hx, hb, hml, hown, hts, hW, hA⟩ := id hC
  exact va_new hx hb hts (ly_all hq).1 ty hty hown (hts _ w1) (hts _ w2) (hts _ w3) hW.1 hP hD hS hA hq hfs (by omega) (by show sl + N ≤ _; omega) hd (fun q H1 hP1 hD1 hS1 => K q hC H1 locs lsA hP1 hD1 hS1 hl)
theorem I_putF {idx ci j a mc ms : Nat} {z : Int} {Q : va_W → Prop} {fs : List Value} {v : Value} {ty : FieldType} {C : String} {T : u_T} {N : Nat} (hz : FiI g X mc ms Q) (d : DI cc pc (.putfield idx) 3 nx) (hf : FL own idx ci j z) (hq : qcl[ci]? = some (C, T, N)) (hfin : (T j).2.2.2 = true) (hdecl : (T j).1 = own) (hd0 : parseFieldDescriptor (T j).2.2.1 = some ty) (hn : narrow ty v = v) (hfit : fits ty v = true) (hl0 : j < fs.length) (hg : (Cond.fieldLink own idx (T j).1 (T j).2.1 (T j).2.2.1) ∈ Gs)
    (K : IW g X own cc nx lv st (pre ++ (a, .inr (ci, fs.set j v)) :: post) k sl) : IW g X own cc pc lv (v :: .ref a :: st) (pre ++ (a, .inr (ci, fs)) :: post) k sl := by
  obtain ⟨⟨p, e, R, s, m⟩, ⟨args, below, meth, c⟩, ⟨nL, cells, slots, Z⟩⟩ := X
  obtain ⟨hd, rfl⟩ := d
  obtain ⟨-, -, -, hin2⟩ := hz
  intro hC H locs lsA hP hD hS hl
  obtain ⟨hx, hb, hml, hown, hts, hW, hA⟩ := id hC
  obtain ⟨-, q2, hq2, hj, -⟩ := hf
  cases hq.symm.trans hq2
  obtain ⟨hin, hnm, ty0, hty0⟩ := ly_all hq
  refine va_putF hx hb hts hin ty0 hty0 hnm hown hW.1 hP hD hS pre.length (at_pre _ _ _) hq j hj (hts _ hg) (fun _ h => h) hfin hin2 hdecl hd0 hn hfit hl0 hd (fun H1 locs1 hP1 hD1 hS1 => ?_)
  rw [set_pre] at hP1 hD1
  exact K hC H1 locs1 lsA hP1 hD1 hS1 hl
theorem I_put {idx ci j a : Nat} {z : Int} {fs : List Value} {v : Value} {ty : FieldType} {C : String} {T : u_T} {N : Nat} (d : DI cc pc (.putfield idx) 3 nx) (hf : FL own idx ci j z) (hq : qcl[ci]? = some (C, T, N)) (hfin : (T j).2.2.2 = false) (hd0 : parseFieldDescriptor (T j).2.2.1 = some ty) (hn : narrow ty v = v) (hfit : fits ty v = true) (hl0 : j < fs.length) (hg : (Cond.fieldLink own idx (T j).1 (T j).2.1 (T j).2.2.1) ∈ Gs)
    (K : IW g X own cc nx lv st (pre ++ (a, .inr (ci, fs.set j v)) :: post) k sl) : IW g X own cc pc lv (v :: .ref a :: st) (pre ++ (a, .inr (ci, fs)) :: post) k sl := by
  obtain ⟨⟨p, e, R, s, m⟩, ⟨args, below, meth, c⟩, ⟨nL, cells, slots, Z⟩⟩ := X
  obtain ⟨hd, rfl⟩ := d
  intro hC H locs lsA hP hD hS hl
  obtain ⟨hx, hb, hml, hown, hts, hW, hA⟩ := id hC
  obtain ⟨-, q2, hq2, hj, -⟩ := hf
  cases hq.symm.trans hq2
  obtain ⟨hin, hnm, ty0, hty0⟩ := ly_all hq
  refine va_put hx hb hts hin ty0 hty0 hnm hown hW.1 hP hD hS pre.length (at_pre _ _ _) hq j hj (hts _ hg) (fun _ h => h) hfin hd0 hn hfit hl0 hd (fun H1 locs1 hP1 hD1 hS1 => ?_)
  rw [set_pre] at hP1 hD1
  exact K hC H1 locs1 lsA hP1 hD1 hS1 hl
theorem I_get {idx ci j a : Nat} {z : Int} {fs : List Value} {v : Value} {C : String} {T : u_T} {N : Nat} (d : DI cc pc (.getfield idx) 3 nx) (hf : FL own idx ci j z) (hq : qcl[ci]? = some (C, T, N)) (hv : fs[j]? = some v) (hg : (Cond.fieldLink own idx (T j).1 (T j).2.1 (T j).2.2.1) ∈ Gs)
    (K : IW g X own cc nx lv (v :: st) (pre ++ (a, .inr (ci, fs)) :: post) k sl) : IW g X own cc pc lv (.ref a :: st) (pre ++ (a, .inr (ci, fs)) :: post) k sl := by
  obtain ⟨⟨p, e, R, s, m⟩, ⟨args, below, meth, c⟩, ⟨nL, cells, slots, Z⟩⟩ := X
  obtain ⟨hd, rfl⟩ := d
  intro hC H locs lsA hP hD hS hl
  obtain ⟨hx, hb, hml, hown, hts, hW, hA⟩ := id hC
  obtain ⟨-, q2, hq2, hj, -⟩ := hf
  cases hq.symm.trans hq2
  obtain ⟨hin, -, -⟩ := ly_all hq
  exact va_get hx hb hts hin hown hW.1 hP pre.length (at_pre _ _ _) hq j hj (hts _ hg) (fun _ h => h) hv hd (K hC H locs lsA hP hD hS hl)
theorem I_iast {j a n : Nat} {f : Nat → Int32} {i v : Int32} {x : Nat × va_E} (d : DI cc pc .iastore 1 nx) (hp : post[j]? = some (a, .inl (g.2.2.2.2 0, n, .inl f))) (hin : vp_in i n)
    (K : IW g X own cc nx lv st (pre ++ x :: post.set j (a, .inl (g.2.2.2.2 0, n, .inl (upd f i.toNatClampNeg v)))) k sl) : IW g X own cc pc lv (.int v :: .int i :: .ref a :: st) (pre ++ x :: post) k sl := by
  obtain ⟨⟨p, e, R, s, m⟩, ⟨args, below, meth, c⟩, ⟨nL, cells, slots, Z⟩⟩ := X
  obtain ⟨hd, rfl⟩ := d
  intro hC H locs lsA hP hD hS hl
  obtain ⟨hx, hb, hml, hown, hts, hW, hA⟩ := id hC
  refine va_iast hx hb hW.1 hP hD hS (pre.length + 1 + j) 0 (by rw [at_post]; exact hp) rfl hin hd (fun H1 locs1 hP1 hD1 hS1 => ?_)
  rw [set_post] at hP1 hD1
  exact K hC H1 locs1 lsA hP1 hD1 hS1 hl
theorem I_aast {j jv a b n t ci : Nat} {f : Nat → Option Nat} {i : Int32} {x : Nat × va_E} {fs : List Value} {r : vw_C} (d : DI cc pc .aastore 1 nx) (hp : post[j]? = some (a, .inl (g.2.2.2.2 t, n, .inr (.inr (.inr (.inr f)))))) (ht : (qtys g)[t]? = some (g.2.2.2.2 t, .object r.1)) (hv : post[jv]? = some (b, .inr (ci, fs))) (hc : qcl[ci]? = some r) (hin : vp_in i n)
    (K : IW g X own cc nx lv st (pre ++ x :: post.set j (a, .inl (g.2.2.2.2 t, n, .inr (.inr (.inr (.inr (va_up f i.toNatClampNeg (some b)))))))) k sl) : IW g X own cc pc lv (.ref b :: .int i :: .ref a :: st) (pre ++ x :: post) k sl := by
  obtain ⟨⟨p, e, R, s, m⟩, ⟨args, below, meth, c⟩, ⟨nL, cells, slots, Z⟩⟩ := X
  obtain ⟨hd, rfl⟩ := d
  intro hC H locs lsA hP hD hS hl
  obtain ⟨hx, hb, hml, hown, hts, hW, hA⟩ := id hC
  refine va_astq hx hb hW.1 hP hD hS (pre.length + 1 + j) t (pre.length + 1 + jv) ci (by rw [at_post]; exact hp) ht (by rw [at_post]; exact hv) hc hin hd (fun H1 locs1 hP1 hD1 hS1 => ?_)
  rw [set_post] at hP1 hD1
  exact K hC H1 locs1 lsA hP1 hD1 hS1 hl
theorem I_ret {Q : va_W → Prop} (hz : FiI g X k sl Q) (d : DI cc pc .return_ 1 nx) (h : Q ws) : IW g X own cc pc lv [] ws k sl := by
  obtain ⟨⟨p, e, R, s, m⟩, ⟨args, below, meth, c⟩, ⟨nL, cells, slots, Z⟩⟩ := X
  obtain ⟨hd, rfl⟩ := d
  obtain ⟨rfl, hr, hk, -⟩ := hz
  intro hC H locs lsA hP hD hS hl
  exact W.vret hC.1 hC.2.1 hr (fun t ht hW => ⟨⟨rfl, ws, h, by rw [ht]; exact hP, hD⟩, hS.F ht⟩) hS.2.2 hd hk
theorem WdI.warm {g : GC} {s U : State} (h : WdI g s) (hW : s.WarmedH U.vm) : WdI g U := ⟨va_K.moved hW.alike h.1, fun w hw => Nw_warm (List.mem_filter.mp hw).2 hW (h.2.1 w hw), va_AO.moved hW.alike h.2.2.1, va_AO.moved hW.alike h.2.2.2⟩
theorem PcI_blind {g : GC} {av : List Value} {ws : va_W} : FrameBlind (PcI g av ws) := fun a U f mk q =>
  ⟨q.1, q.2.1, va_K.moved (u := U) (U := U.calling f mk a) (Vm.Alike.refl U.vm) q.2.2.1, fun w hw => Nw_same (List.mem_filter.mp hw).2 (u := U) (U := U.calling f mk a) rfl (q.2.2.2.1 w hw), va_AO.moved (u := U) (U := U.calling f mk a) (Vm.Alike.refl U.vm) q.2.2.2.2.1, va_AO.moved (u := U) (U := U.calling f mk a) (Vm.Alike.refl U.vm) q.2.2.2.2.2⟩
theorem I_call {idx n d d' mc ms mc0 ms0 h : Nat} {M : MN} {As rest : List Value} {Q : va_W → Prop} (hDp : DpI X d mc0 ms0) (dd : DI cc pc (.invokespecial idx) 3 nx) (hl0 : ML own idx M) (hm : MO M n) (hin : Cond.instanceMethod M.1 ∈ Gs) (hnm : M.1.name = "<init>") (hret : M.2.2.2 = none) (hc : CI g M d' mc ms (.ref h :: As) ws Q) (hd : d' + 1 ≤ d) (hk : k + mc ≤ mc0) (hs : sl + ms ≤ ms0) (hn : As.length = n) (hst : st = As.reverse ++ .ref h :: rest) (hw : (rest.map fun v => v.category).sum ≤ 8)
    (K : ∀ ws' : va_W, Q ws' → IW g X own cc nx lv rest ws' (k + mc) (sl + ms)) : IW g X own cc pc lv st ws k sl := by
  obtain ⟨⟨p, e, R, s, m⟩, ⟨args, below, meth, c⟩, ⟨nL, cells, slots, Z⟩⟩ := X
  obtain ⟨y, bytes, maxL, ret⟩ := M
  subst hret
  obtain ⟨hdg, rfl⟩ := dd
  subst hst
  obtain ⟨g1, g2, g3, g4⟩ := hDp
  intro hC H locs lsA hP hD hS hl
  obtain ⟨hx, hb, hml, hown, hts, hW, hA⟩ := id hC
  obtain ⟨hcd, hini, hnm2, hmx⟩ := hm
  have hG := Gs_code (M := (y, bytes, maxL, none)) (n := n) ⟨hcd, hini, hnm2, hmx⟩
  have hroom : (rmi d' mc ms).frames + 1 ≤ R.frames ∧ 8 + (maxL + 11) + (rmi d' mc ms).locals ≤ R.locals := by
    show d' + 1 ≤ R.frames ∧ 8 + (maxL + 11) + 64 * d' ≤ R.locals
    have : maxL ≤ 45 := hmx
    omega
  have hpv : PreS s H (PcI g (.ref h :: As) ws) (.ref h :: As) := ⟨PcI_blind, fun U hU hWU => ⟨rfl, ⟨by rw [hU]; exact hP, hD, by rw [hU]; exact fun q hq => hA q (Nat.le_trans hS.1 hq)⟩, hW.warm hWU⟩⟩
  have hwr : 2 * (F0 m pc lsA (As.reverse ++ .ref h :: rest)).monitorRoom + (rest.map fun v => v.category).sum ≤ 8 := by
    show 2 * 0 + _ ≤ 8
    omega
  have hr : va_Run p g.1 e R s m args below meth c H locs k sl mc ms (F0 m pc lsA (As.reverse ++ .ref h :: rest)) rest (QcI g Q (Value.ref h :: As).toArray) g.2.2.2.1 := by
    rcases hl0 with hl0 | ⟨host, hl0⟩
    · exact va_runI (As := As) (rest := rest) ⟨hx, hb, hml, hown, hts⟩ hc ⟨callB_of n hts hG rfl rfl rfl (hts _ hini) (hts _ hl0) hnm2 hroom, hnm, hts _ hin⟩ hpv rfl hn hl.1 rfl hwr hdg ⟨by omega, by omega⟩
    · exact va_runIN (As := As) (rest := rest) ⟨hx, hb, hml, hown, hts⟩ hc ⟨va_cnB (ws' := Gs) (rm := rmi d' mc ms) (mc := mc) (ms := ms) n hts hG rfl rfl rfl (hW.2.1 _ hl0) (hts _ hini) hnm2 hroom, hnm, hts _ hin⟩ hpv rfl hn hl.1 rfl hwr hdg ⟨by omega, by omega⟩
  intro T hT X0
  obtain ⟨v, st₀, t, T', L, h0, X', hL, e1, e2, ⟨⟨hv, ws', hQ, hP1, hD1⟩, hz, hk1⟩, st1⟩ := hr T hT X0
  cases hv
  rw [h0] at hz hk1
  have hS1 : va_S g.2.2.2.1 s.heap T'.heap (locs ++ L) := ⟨Nat.le_trans hS.1 (by rw [e1]; exact hz), fun q h1 h2 => by rw [e1, hk1 q (Nat.lt_of_lt_of_le h1 hS.1) h2]; exact hS.2.1 q h1 h2, fun q hq => by
      rcases List.mem_append.mp hq with h | h
      · exact hS.2.2 q h
      · exact hL q h⟩
  obtain ⟨t2, a1, b1⟩ := K ws' hQ hC T'.heap (locs ++ L) lsA (by rw [e1]; exact hP1) hD1 hS1 hl T' rfl X'
  exact ⟨t2, st1 t2 a1, b1⟩
end RI
