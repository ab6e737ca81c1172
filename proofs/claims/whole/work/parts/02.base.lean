/-! abstract values (an int, a place, a long), memory: a row of whole numbers a place; the shape of each place is fixed -/
abbrev AV : Type := Int ⊕ (Nat ⊕ Int)
abbrev vi (z : Int) : AV := .inl z
abbrev vr (k : Nat) : AV := .inr (.inl k)
abbrev vl (z : Int) : AV := .inr (.inr z)
abbrev MM : Type := Nat → Int → Int
abbrev GC : Type := Launch × va_G × (Nat → Nat) × (Nat → Prop) × (Nat → ClassId)
def cv (g : GC) : AV → Value
  | .inl z => .int (Int32.ofInt z)
  | .inr (.inl k) => .ref (g.2.2.1 k)
  | .inr (.inr z) => .long (Int64.ofInt z)
abbrev Sh : Type := (Nat × List (Nat × Nat)) ⊕ (Nat × Nat)
def shT : List Sh := [
  .inl (6, [(1, 8), (1, 15), (1, 22), (1, 29), (1, 36), (0, 0), (1, 1), (0, 0), (1, 4), (1, 6), (1, 2), (1, 3)]),
  .inr (4, 6),
  .inr (5, 6),
  .inr (0, 99),
  .inl (4, [(1, 5), (0, 0), (0, 0)]),
  .inr (3, 100),
  .inl (0, [(0, 0), (1, 7), (0, 0), (0, 0), (0, 0)]),
  .inr (0, 20),
  .inl (2, [(0, 0), (0, 0), (2, 0), (1, 9), (1, 10), (1, 11), (1, 12), (1, 13), (1, 14)]),
  .inr (0, 6),
  .inr (0, 6),
  .inr (0, 6),
  .inr (0, 48),
  .inr (0, 24),
  .inr (0, 6),
  .inl (2, [(0, 0), (0, 0), (2, 0), (1, 16), (1, 17), (1, 18), (1, 19), (1, 20), (1, 21)]),
  .inr (0, 6),
  .inr (0, 6),
  .inr (0, 6),
  .inr (0, 48),
  .inr (0, 24),
  .inr (0, 6),
  .inl (2, [(0, 0), (0, 0), (2, 0), (1, 23), (1, 24), (1, 25), (1, 26), (1, 27), (1, 28)]),
  .inr (0, 6),
  .inr (0, 6),
  .inr (0, 6),
  .inr (0, 48),
  .inr (0, 24),
  .inr (0, 6),
  .inl (1, [(0, 0), (1, 30), (1, 31), (1, 32), (0, 0), (1, 33), (0, 0), (1, 34), (1, 35)]),
  .inr (0, 5),
  .inr (0, 5),
  .inr (0, 5),
  .inr (0, 10),
  .inr (0, 8),
  .inr (0, 8),
  .inl (1, [(0, 0), (1, 37), (1, 38), (1, 39), (0, 0), (1, 40), (0, 0), (1, 41), (1, 42)]),
  .inr (0, 5),
  .inr (0, 5),
  .inr (0, 5),
  .inr (0, 10),
  .inr (0, 8),
  .inr (0, 8),
  .inl (3, [(0, 0), (0, 0), (0, 0), (0, 0), (1, 44), (1, 45), (1, 46)]),
  .inr (0, 10),
  .inr (0, 10),
  .inr (0, 100),
  .inl (3, [(0, 0), (0, 0), (0, 0), (0, 0), (1, 48), (1, 49), (1, 50)]),
  .inr (0, 10),
  .inr (0, 10),
  .inr (0, 100),
  .inl (3, [(0, 0), (0, 0), (0, 0), (0, 0), (1, 52), (1, 53), (1, 54)]),
  .inr (0, 10),
  .inr (0, 10),
  .inr (0, 100),
  .inl (3, [(0, 0), (0, 0), (0, 0), (0, 0), (1, 56), (1, 57), (1, 58)]),
  .inr (0, 10),
  .inr (0, 10),
  .inr (0, 100),
  .inl (3, [(0, 0), (0, 0), (0, 0), (0, 0), (1, 60), (1, 61), (1, 62)]),
  .inr (0, 10),
  .inr (0, 10),
  .inr (0, 100),
  .inl (3, [(0, 0), (0, 0), (0, 0), (0, 0), (1, 64), (1, 65), (1, 66)]),
  .inr (0, 10),
  .inr (0, 10),
  .inr (0, 100),
  .inl (3, [(0, 0), (0, 0), (0, 0), (0, 0), (1, 68), (1, 69), (1, 70)]),
  .inr (0, 10),
  .inr (0, 10),
  .inr (0, 100),
  .inl (5, [(0, 0), (0, 0), (1, 72)]),
  .inr (1, 60),
  .inl (5, [(0, 0), (0, 0), (1, 74)]),
  .inr (1, 60),
  .inl (5, [(0, 0), (0, 0), (1, 76)]),
  .inr (1, 60),
  .inl (5, [(0, 0), (0, 0), (1, 78)]),
  .inr (1, 60),
  .inl (5, [(0, 0), (0, 0), (1, 80)]),
  .inr (1, 60),
  .inl (5, [(0, 0), (0, 0), (1, 82)]),
  .inr (1, 60),
  .inl (7, [(0, 0), (0, 0), (1, 84), (1, 85), (1, 86), (1, 87), (1, 88), (0, 0), (0, 0), (0, 0), (0, 0), (0, 0), (1, 89), (1, 90), (1, 91), (1, 92), (1, 93), (1, 94), (1, 95), (1, 96), (0, 0), (0, 0), (0, 0), (1, 97), (1, 98), (1, 99), (1, 100), (0, 0), (1, 101), (1, 102), (1, 103), (0, 0), (1, 104), (1, 105), (1, 106), (0, 0), (0, 0), (1, 107), (1, 108), (1, 109), (0, 0), (0, 0), (0, 0), (0, 0), (0, 0), (0, 0), (0, 0), (1, 110), (1, 111), (1, 112), (1, 113), (1, 114), (1, 115), (1, 116), (1, 117), (1, 118), (1, 119), (1, 120), (0, 0), (1, 121), (1, 122), (1, 123), (1, 124), (1, 125)]),
  .inr (0, 6),
  .inr (0, 6),
  .inr (0, 6),
  .inr (0, 24),
  .inr (0, 48),
  .inr (0, 100),
  .inr (0, 6),
  .inr (0, 60),
  .inr (0, 60),
  .inr (0, 60),
  .inr (0, 60),
  .inr (0, 600),
  .inr (0, 101),
  .inr (0, 17),
  .inr (2, 100),
  .inr (2, 99),
  .inr (0, 6),
  .inr (0, 48),
  .inr (0, 6),
  .inr (0, 99),
  .inr (0, 5),
  .inr (0, 5),
  .inr (0, 5),
  .inr (0, 10),
  .inr (0, 8),
  .inr (0, 8),
  .inr (0, 6),
  .inr (0, 6),
  .inr (0, 6),
  .inr (0, 24),
  .inr (0, 48),
  .inr (0, 5),
  .inr (0, 5),
  .inr (0, 5),
  .inr (0, 10),
  .inr (0, 8),
  .inr (0, 8),
  .inr (0, 20),
  .inr (0, 6),
  .inr (0, 6),
  .inr (1, 360),
  .inr (1, 60)]
def qN : Nat := 126
def sh (k : Nat) : Sh := shT.getD k (.inl (0, []))
def fval (g : GC) (q : Nat × Nat) (x : Int) : Value := match q.1 with
  | 0 => .int (Int32.ofInt x)
  | 1 => .ref (g.2.2.1 q.2)
  | _ => .ref (g.2.2.1 x.toNat)
def cont (g : GC) (tag : Nat) (row : Int → Int) : (Nat → Int32) ⊕ (Nat → Int64) ⊕ (Nat → UInt32) ⊕ (Nat → UInt64) ⊕ (Nat → Option Nat) := match tag with
  | 1 => .inr (.inl (fun j => Int64.ofInt (row j)))
  | 4 => .inr (.inr (.inr (.inr (fun j => some (g.2.2.1 (47 + 4 * j))))))
  | 5 => .inr (.inr (.inr (.inr (fun j => some (g.2.2.1 (71 + 2 * j))))))
  | _ => .inl (fun j => Int32.ofInt (row j))
def entS (g : GC) (x : Sh) (row : Int → Int) : va_E := match x with
  | .inl o => .inr (o.1, o.2.mapIdx (fun j q => fval g q (row (j : Int))))
  | .inr a => .inl (g.2.2.2.2 a.1, a.2, cont g a.1 row)
def ent (g : GC) (V : MM) (k : Nat) : va_E := entS g (sh k) (V k)
def wl (g : GC) (V : MM) : va_W := (List.range qN).map (fun k => (g.2.2.1 k, ent g V k))
def upR (V : MM) (a : Nat) (f : Int → Int) : MM := fun k => if k = a then f else V k
def ur (f : Int → Int) (i x : Int) : Int → Int := fun j => if j = i then x else f j
theorem upR_s (V : MM) (a : Nat) (f : Int → Int) : upR V a f a = f := by simp [upR]
theorem upR_n {V : MM} {a k : Nat} (f : Int → Int) (h : k ≠ a) : upR V a f k = V k := by simp [upR, h]
theorem upR_u (V : MM) (a : Nat) (f h : Int → Int) : upR (upR V a f) a h = upR V a h := by
  funext k; by_cases e : k = a <;> simp [upR, e]
theorem upR_id (V : MM) (a : Nat) : upR V a (V a) = V := by
  funext k; by_cases e : k = a <;> simp [upR, e]
theorem upR_c {V : MM} {a b : Nat} (f h : Int → Int) (e : a ≠ b) : upR (upR V a f) b h = upR (upR V b h) a f := by
  funext k
  by_cases e1 : k = a <;> by_cases e2 : k = b <;> simp [upR, e1, e2]
  · exact absurd (e1.symm.trans e2) e
  · intro h3; exact absurd h3 e
  · intro h3; exact absurd h3.symm e
theorem ur_s (f : Int → Int) (i x : Int) : ur f i x i = x := by simp [ur]
theorem ur_n {f : Int → Int} {i j : Int} (x : Int) (h : j ≠ i) : ur f i x j = f j := by simp [ur, h]
theorem ur_u (f : Int → Int) (i x y : Int) : ur (ur f i x) i y = ur f i y := by
  funext j; by_cases e : j = i <;> simp [ur, e]
theorem ur_id (f : Int → Int) (i : Int) : ur f i (f i) = f := by
  funext j; by_cases e : j = i <;> simp [ur, e]
def GOK (g : GC) : Prop := (∀ i j : Nat, i < qN → j < qN → g.2.2.1 i = g.2.2.1 j → i = j) ∧ ∀ i : Nat, i < qN → g.2.2.2.1 (g.2.2.1 i)
theorem wl_at (g : GC) (V : MM) {k : Nat} (h : k < qN) : (wl g V)[k]? = some (g.2.2.1 k, ent g V k) := by simp [wl, h]
theorem wl_in {g : GC} {V : MM} {k : Nat} {q : Nat × va_E} (h : (wl g V)[k]? = some q) : k < qN ∧ q = (g.2.2.1 k, ent g V k) := by
  have hk : k < qN := by
    have := (List.getElem?_eq_some_iff.mp h).1
    simpa [wl] using this
  rw [wl_at g V hk] at h
  exact ⟨hk, (Option.some.inj h).symm⟩
theorem wl_set (g : GC) (V : MM) {k : Nat} (h : k < qN) (f : Int → Int) : (wl g V).set k (g.2.2.1 k, entS g (sh k) f) = wl g (upR V k f) := by
  apply List.ext_getElem?
  intro i
  by_cases hi : i < qN
  · rw [List.getElem?_set, wl_at g _ hi]
    by_cases e : k = i
    · subst e
      simp [wl, h, ent, upR]
    · rw [if_neg e, wl_at g (upR V k f) hi]
      simp [ent, upR, Ne.symm e]
  · have h1 : (wl g V).length = qN := by simp [wl]
    have h2 : (wl g (upR V k f)).length = qN := by simp [wl]
    rw [List.getElem?_eq_none (by rw [List.length_set, h1]; omega), List.getElem?_eq_none (by rw [h2]; omega)]
theorem wl_D {g : GC} (hg : GOK g) (V : MM) : va_D g.2.2.2.1 (wl g V) := by
  refine ⟨fun i j p q hp hq e => ?_, fun k q hk => ?_⟩
  · obtain ⟨h1, rfl⟩ := wl_in hp
    obtain ⟨h2, rfl⟩ := wl_in hq
    exact hg.1 i j h1 h2 e
  · obtain ⟨h1, rfl⟩ := wl_in hk
    exact hg.2 k h1
/-- the tables' words that every method takes along -/
def Gs : List Cond := lw_tbl.filter goodWord
theorem Gs_of {w : Cond} (h : w ∈ tables_1) (h2 : goodWord w = true) : w ∈ Gs := List.mem_filter.mpr ⟨List.mem_append_right _ h, h2⟩
theorem Gs_in {i : Nat} {w : Cond} (h : tables_1[i]? = some w) (h2 : goodWord w = true) : w ∈ Gs := Gs_of (List.mem_of_getElem? h) h2
def isNest : Cond → Bool
  | .methodLinkNest .. => true
  | .fieldLinkNest .. => true
  | _ => false
/-- links between nest mates -/
def Ns : List Cond := tables_1.filter isNest
theorem Ns_of {w : Cond} (h : w ∈ tables_1) (h2 : isNest w = true) : w ∈ Ns := List.mem_filter.mpr ⟨h, h2⟩
theorem tb_1 {i : Nat} {w : Cond} (h : tables_1_1[i]? = some w) : w ∈ tables_1 := List.mem_append_left _ (List.mem_of_getElem? h)
theorem tb_2 {i : Nat} {w : Cond} (h : tables_1_2[i]? = some w) : w ∈ tables_1 := List.mem_append_right _ (List.mem_append_left _ (List.mem_of_getElem? h))
theorem tb_3 {i : Nat} {w : Cond} (h : tables_1_3[i]? = some w) : w ∈ tables_1 := List.mem_append_right _ (List.mem_append_right _ (List.mem_append_left _ (List.mem_of_getElem? h)))
theorem tb_4 {i : Nat} {w : Cond} (h : tables_1_4[i]? = some w) : w ∈ tables_1 := List.mem_append_right _ (List.mem_append_right _ (List.mem_append_right _ (List.mem_append_left _ (List.mem_of_getElem? h))))
theorem tb_5 {i : Nat} {w : Cond} (h : tables_1_5[i]? = some w) : w ∈ tables_1 := List.mem_append_right _ (List.mem_append_right _ (List.mem_append_right _ (List.mem_append_right _ (List.mem_append_left _ (List.mem_of_getElem? h)))))
theorem tb_6 {i : Nat} {w : Cond} (h : tables_1_6[i]? = some w) : w ∈ tables_1 := List.mem_append_right _ (List.mem_append_right _ (List.mem_append_right _ (List.mem_append_right _ (List.mem_append_right _ (List.mem_of_getElem? h)))))
theorem Gs_sel {i : Nat} {q : MethodName × Nat} (h : lw_privs[i]? = some q) (h2 : goodWord (Cond.selects q.1.cls q.1 q.1) = true) : Cond.selects q.1.cls q.1 q.1 ∈ Gs := List.mem_filter.mpr ⟨List.mem_append_left _ (List.mem_map.mpr ⟨q, List.mem_of_getElem? h, rfl⟩), h2⟩
theorem Gs_good : GoodIn Gs Gs := fun w h => ⟨h, good_of_word (List.mem_filter.mp h).2⟩
abbrev qtys (g : GC) : List (ClassId × FieldType) := [(g.2.2.2.2 0, .int), (g.2.2.2.2 1, .long), (g.2.2.2.2 2, .boolean), (g.2.2.2.2 3, .char), (g.2.2.2.2 4, .object "TwoBeatsAgo$Hall"), (g.2.2.2.2 5, .object "TwoBeatsAgo$Tape")]
/-- what nobody writes: the literals (places 200.., their bytes 210..), two tables (220, 221), statics of the JDK -/
def roLen : List Nat := [5, 6, 5, 5, 6, 3]
def roByt : List (List Int32) := [[108, 101, 102, 116, 32], [114, 105, 103, 104, 116, 32], [119, 105, 100, 101, 32], [115, 107, 105, 112, 32], [100, 107, 118, 112, 97, 98], [60, 61, 62]]
def roAbove : List Int32 := [-1, 0, 0, 0, 1, 2, 3]
def roBodies : List Int32 := [10, 11, 12, 0, 20, 0, 30, 0, 0, 0, 0, 40, 50, 51, 0, 0, 0, 60, 71, 70, 0]
def Ro (g : GC) (U : State) (H : Heap) : Prop :=
  (vk_S 6 roLen roByt (fun i => g.2.2.1 (200 + i)) (fun i => g.2.2.1 (210 + i)) g.2.2.2.1 U H ∧ va_Z "java/lang/String" "COMPACT_STRINGS" "Z" (.int 1) g.2.2.2.1 U H ∧ va_Zq "jdk/internal/util/Preconditions" "SIOOBE_FORMATTER" "Ljava/util/function/BiFunction;" g.2.2.2.1 U H) ∧
  (va_Z "TwoBeatsAgo" "KIND_ABOVE" "[I" (.ref (g.2.2.1 220)) g.2.2.2.1 U H ∧ va_T .int (g.2.2.1 220) 7 (fun j => .int (roAbove.getD j 0)) g.2.2.2.1 U H) ∧
  (va_Z "TwoBeatsAgo$Acts" "BODIES" "[I" (.ref (g.2.2.1 221)) g.2.2.2.1 U H ∧ va_T .int (g.2.2.1 221) 21 (fun j => .int (roBodies.getD j 0)) g.2.2.2.1 U H)
def roStr (g : GC) (U : State) : Prop := vk_R "TwoBeatsAgo$HallText" 65 "left " (g.2.2.1 200) U ∧ vk_R "TwoBeatsAgo$HallText" 67 "right " (g.2.2.1 201) U ∧ vk_R "TwoBeatsAgo$HallText" 69 "wide " (g.2.2.1 202) U ∧ vk_R "TwoBeatsAgo$HallText" 71 "skip " (g.2.2.1 203) U ∧ vk_R "TwoBeatsAgo$HallText" 85 "dkvpab" (g.2.2.1 204) U ∧ vk_R "TwoBeatsAgo$HallText" 93 "<=>" (g.2.2.1 205) U
theorem Ro.moved {g : GC} {u U : State} {H : Heap} (hvm : u.vm.Alike U.vm) (h : Ro g u H) : Ro g U H :=
  ⟨⟨vk_S.moved hvm h.1.1, va_Z.moved hvm h.1.2.1, va_Zq.moved hvm h.1.2.2⟩, ⟨va_Z.moved hvm h.2.1.1, va_T.moved hvm h.2.1.2⟩, ⟨va_Z.moved hvm h.2.2.1, va_T.moved hvm h.2.2.2⟩⟩
theorem Ro.kept {g : GC} {U : State} {H H1 : Heap} (h : Ro g U H) (hq : ∀ a : Nat, a < H.size → ¬ g.2.2.2.1 a → H1[a]? = H[a]?) : Ro g U H1 :=
  ⟨⟨h.1.1.kept hq, h.1.2.1.kept hq, h.1.2.2.kept hq⟩, ⟨h.2.1.1.kept hq, h.2.1.2.kept hq⟩, ⟨h.2.2.1.kept hq, h.2.2.2.kept hq⟩⟩
def roRef (g : GC) (U : State) : Prop := roStr g U ∧ ∀ w ∈ Ns, va_Nw w U
theorem Nw_warm {w : Cond} (hw : isNest w = true) {s U : State} (hW : s.WarmedH U.vm) (h : va_Nw w s) : va_Nw w U := by
  cases w <;> first | (cases hw; done) | exact va_Nw.warmF hW h | exact va_Nw.warmM hW h
theorem Nw_same {w : Cond} (hw : isNest w = true) {u U : State} (hv : U.vm = u.vm) (h : va_Nw w u) : va_Nw w U := by
  cases w <;> first | (cases hw; done) | exact va_Nw.same rfl hv.symm h
theorem roStr.warm {g : GC} {s U : State} (hW : s.WarmedH U.vm) (h : roStr g s) : roStr g U :=
  ⟨h.1.warm hW, h.2.1.warm hW, h.2.2.1.warm hW, h.2.2.2.1.warm hW, h.2.2.2.2.1.warm hW, h.2.2.2.2.2.warm hW⟩
theorem roRef.warm {g : GC} {s U : State} (hW : s.WarmedH U.vm) (h : roRef g s) : roRef g U := ⟨h.1.warm hW, fun w hw => Nw_warm (List.mem_filter.mp hw).2 hW (h.2 w hw)⟩
theorem roStr.same {g : GC} {u U : State} (hv : U.vm = u.vm) (h : roStr g u) : roStr g U :=
  ⟨h.1.same hv, h.2.1.same hv, h.2.2.1.same hv, h.2.2.2.1.same hv, h.2.2.2.2.1.same hv, h.2.2.2.2.2.same hv⟩
theorem roRef.same {g : GC} {u U : State} (hv : U.vm = u.vm) (h : roRef g u) : roRef g U := ⟨h.1.same hv, fun w hw => Nw_same (List.mem_filter.mp hw).2 hv (h.2 w hw)⟩
/-- all that is known of a state beside the memory -/
def Wd (g : GC) (U : State) (H : Heap) : Prop := GOK g ∧ va_K g.2.1 qcl (qtys g) U ∧ Ro g U H ∧ roRef g U
/-- one activation: program, environment, room, start; its arguments, frames below, code; locals' words, room used, what is to be reached -/
abbrev CX : Type := (Program × Env × Room × State × MethodId) × (Array Value × List Frame × Method × Code) × (Nat × Nat × Nat × (State → Prop))
def CxOK (g : GC) (X : CX) (own : String) (cc : ByteArray) : Prop := match X with
  | ((p, _, R, s, m), (args, _, _, c), (nL, cells, slots, _)) => p.tables.exec = Jvm.exec ∧ c.code = cc ∧ c.maxLocals = nL ∧ s.vm.findClass own = some m.cls ∧ (∀ w ∈ Gs, w.before args s = true) ∧ Wd g s s.heap ∧ cells ≤ R.cells ∧ slots ≤ R.slots
def lok (g : GC) (lsA : Array Slot) (nL : Nat) (ls : List (Option AV)) : Prop := lsA.size = nL ∧ lv_wf lsA ∧ (∀ (i : Nat) (v : AV), ls[i]? = some (some v) → lsA[i]? = some (.val (cv g v))) ∧ ls.length ≤ nL
def SW (g : GC) (X : CX) (own : String) (cc : ByteArray) (pc : Nat) (ls : List (Option AV)) (st : List AV) (V : MM) : Prop := CxOK g X own cc → match X with
  | ((p, e, R, s, m), (args, below, meth, c), (nL, cells, slots, Z)) => ∀ (H : Heap) (locs : List Loc) (lsA : Array Slot), va_P g.2.1 qcl (wl g V) H → va_S g.2.2.2.1 s.heap H locs → lok g lsA nL ls → W p g.1 e R s m args below meth c H locs cells slots Z (F0 m pc lsA (st.map (cv g)))
/-- an instruction at a place, and the place behind it -/
def DI (cc : ByteArray) (pc : Nat) (i : Instr) (n nx : Nat) : Prop := decode cc pc = .ok (i, n) ∧ nx = pc + n
def DJ (cc : ByteArray) (pc : Nat) (f : Int → Instr) (tgt nx : Nat) : Prop := ∃ off, decode cc pc = .ok (f off, 3) ∧ (pc : Int) + off = (tgt : Int) ∧ nx = pc + 3
theorem lok_sub {g : GC} {lsA : Array Slot} {nL : Nat} {ls ls' : List (Option AV)} (h : lok g lsA nL ls) (h2 : ∀ (i : Nat) (v : AV), ls'[i]? = some (some v) → ls[i]? = some (some v)) (h3 : ls'.length ≤ ls.length) : lok g lsA nL ls' := ⟨h.1, h.2.1, fun i v q => h.2.2.1 i v (h2 i v q), Nat.le_trans h3 h.2.2.2⟩
/-- not a long -/
def nl : Option (Option AV) → Prop
  | some (some (.inr (.inr _))) => False
  | _ => True
theorem cv_cat1 {g : GC} {v : AV} (h : nl (some (some v))) : (cv g v).category = 1 := by
  match v, h with
  | .inl z, _ => rfl
  | .inr (.inl k), _ => rfl
