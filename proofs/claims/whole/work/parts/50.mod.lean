abbrev fsM (V : MM) : FS := (V 83 0, V 83 1, V 84, V 85, V 86, V 88, V 87)
def fstM (t : Int) : Int := if t < 0 then 0 else 10 * t
def nclM (V : MM) (t : Int) : Int := if t < 0 then 0 else V 90 t
def lasM (V : MM) (w : Int) : Nat → Int → Int → Int
  | 0, _, n => n
  | k + 1, c, n => lasM V w k (c + 1) (if V 91 c = w then V 92 c else n)
def lasT (V : MM) (t w n : Int) : Int := lasM V w (nclM V t).toNat (fstM t) n
def widT (V : MM) (t : Int) : Int := if lasT V t 2 24 < 1 then 1 else lasT V t 2 24
/-- a test of the reference's signs -/
def tstM (c : Int) (s : FS) (d : Int) : Bool := cmpB (c / 100 % 10) (envS s d (c / 1000)) (c % 100)
def st1M (c : Int) (s : FS) (d : Int) (st : List Bool) : Option (List Bool) :=
  if c = -33 then (match st with
    | a :: r => some ((!a) :: r)
    | [] => none)
  else if c < 0 then (match st with
    | b :: a :: r => some ((if c = -38 then a && b else a || b) :: r)
    | _ => none)
  else if st.length < 60 then some (tstM c s d :: st) else none
def evM (sg : Int → Int) (s : FS) (d : Int) : Nat → Int → List Bool → Option (List Bool)
  | 0, _, st => some st
  | n + 1, i, st => match st1M (sg i) s d st with
    | some st' => evM sg s d n (i + 1) st'
    | none => none
def topB : Option (List Bool) → Bool
  | some (v :: _) => v
  | _ => false
def hldM (V : MM) (c : Int) (s : FS) (d : Int) : Bool := topB (evM (V 95) s d (V 94 c - V 93 c).toNat (V 93 c) [])
def sumM (V : MM) (s : FS) (d : Int) : Nat → Int → Int → Int
  | 0, _, a => a
  | k + 1, c, a => sumM V s d k (c + 1) (if V 91 c ≤ 1 ∧ hldM V c s d = true then (if V 91 c = 0 then a + V 92 c else a + -(V 92 c)) else a)
def stepT (V : MM) (t : Int) (s : FS) (d : Int) : Int := sumM V s d (nclM V t).toNat (fstM t) 0
def hsT (V : MM) (t : Int) : HS := (widT V t, lasT V t 3 0, stepT V t)
/-- a condition's signs are as they must be -/
def SgOK (sg : Int → Int) (fr to : Int) : Prop := (0 ≤ fr ∧ fr ≤ to ∧ to ≤ 600) ∧ (∀ k, fr ≤ k ∧ k < to → sg k = -33 ∨ sg k = -38 ∨ sg k = -124 ∨ (0 ≤ sg k ∧ sg k ≤ 5999)) ∧ ∀ s d, ∃ v, evM sg s d (to - fr).toNat fr [] = some [v]
def ClOK (V : MM) (c : Int) : Prop := (0 ≤ V 91 c ∧ V 91 c ≤ 3) ∧ (0 ≤ V 92 c ∧ V 92 c ≤ 99) ∧ (V 91 c ≤ 1 → SgOK (V 95) (V 93 c) (V 94 c)) ∧ (V 91 c ≤ 1 → 100 * (c / 10) ≤ V 93 c ∧ V 94 c ≤ 100 * (c / 10) + 100)
/-- the reference's hall t is as it must be -/
def MHi (V : MM) (t : Int) : Prop := (-1 ≤ t ∧ t ≤ 5) ∧ (0 ≤ nclM V t ∧ nclM V t ≤ 10) ∧ ∀ c, fstM t ≤ c ∧ c < fstM t + nclM V t → ClOK V c
def FM (V : MM) (hs : HS) (s : FS) : Prop := s = fsM V ∧ hs = hsT V (V 83 8) ∧ MHi V (V 83 8) ∧ FInv hs.1 s
section FMs
variable {V : MM} {hs : HS} {s : FS}
theorem FM.n (M : FM V hs s) : V 83 0 = s.1 := by rw [M.1]
theorem FM.b (M : FM V hs s) : V 83 1 = s.2.1 := by rw [M.1]
theorem FM.w84 (M : FM V hs s) : V 84 = s.2.2.1 := by rw [M.1]
theorem FM.w85 (M : FM V hs s) : V 85 = s.2.2.2.1 := by rw [M.1]
theorem FM.w86 (M : FM V hs s) : V 86 = s.2.2.2.2.1 := by rw [M.1]
theorem FM.w88 (M : FM V hs s) : V 88 = s.2.2.2.2.2.1 := by rw [M.1]
theorem FM.w87 (M : FM V hs s) : V 87 = s.2.2.2.2.2.2 := by rw [M.1]
end FMs
theorem hsT_c {V V' : MM} {t : Int} (h : ∀ k : Nat, 90 ≤ k → k ≤ 95 → V' k = V k) : hsT V' t = hsT V t ∧ (MHi V t → MHi V' t) := by
  have e0 := h 90 (by omega) (by omega)
  have e1 := h 91 (by omega) (by omega)
  have e2 := h 92 (by omega) (by omega)
  have e3 := h 93 (by omega) (by omega)
  have e4 := h 94 (by omega) (by omega)
  have e5 := h 95 (by omega) (by omega)
  have en : nclM V' t = nclM V t := by unfold nclM; rw [e0]
  have el : ∀ (w : Int) (k : Nat) (c n : Int), lasM V' w k c n = lasM V w k c n := by
    intro w k
    induction k with
    | zero => intro c n; rfl
    | succ k ih => intro c n; unfold lasM; rw [e1, e2, ih]
  have eh : ∀ c s d, hldM V' c s d = hldM V c s d := fun c s d => by unfold hldM; rw [e3, e4, e5]
  have es : ∀ (s : FS) (d : Int) (k : Nat) (c a : Int), sumM V' s d k c a = sumM V s d k c a := by
    intro s d k
    induction k with
    | zero => intro c a; rfl
    | succ k ih => intro c a; unfold sumM; rw [e1, e2, eh, ih]
  refine ⟨?_, fun hM => ?_⟩
  · have est : stepT V' t = stepT V t := by
      funext s d
      unfold stepT
      rw [en, es]
    unfold hsT widT lasT
    rw [en, el, el, est]
  · unfold MHi ClOK at hM ⊢
    rw [en, e1, e2, e3, e4, e5]
    exact hM
/-- scratch: the pile, who has been taken; where one goes -/
def Om (V V' : MM) : Prop := ∀ k : Nat, k ≠ 98 → k ≠ 99 → k ≠ 99 → V' k = V k
def Og (V V' : MM) : Prop := ∀ k : Nat, k ≠ 98 → k ≠ 99 → k ≠ 100 → V' k = V k
theorem Om.og {V V' : MM} (h : Om V V') : Og V V' := fun k a b _ => h k a b b
theorem Og.rf (V : MM) : Og V V := fun _ _ _ _ => rfl
theorem Og.tr {V V1 V2 : MM} (h : Og V V1) (h2 : Og V1 V2) : Og V V2 := fun k a b c => (h2 k a b c).trans (h k a b c)
theorem Om.rf (V : MM) : Om V V := fun _ _ _ _ => rfl
theorem Om.tr {V V1 V2 : MM} (h : Om V V1) (h2 : Om V1 V2) : Om V V2 := fun k a b c => (h2 k a b c).trans (h k a b c)
theorem FM.og {V V' : MM} {hs : HS} {s : FS} (M : FM V hs s) (h : Og V V') : FM V' hs s := by
  have e := h 83 (by omega) (by omega) (by omega)
  obtain ⟨m1, m2, m3, m4⟩ := M
  have hc := hsT_c (V := V) (V' := V') (t := V 83 8) (fun k a b => h k (by omega) (by omega) (by omega))
  refine ⟨?_, by rw [e, hc.1]; exact m2, by rw [e]; exact hc.2 m3, m4⟩
  rw [m1]
  show _ = (V' 83 0, V' 83 1, V' 84, V' 85, V' 86, V' 88, V' 87)
  rw [e, h 84 (by omega) (by omega) (by omega), h 85 (by omega) (by omega) (by omega), h 86 (by omega) (by omega) (by omega), h 87 (by omega) (by omega) (by omega), h 88 (by omega) (by omega) (by omega)]
theorem FM.om {V V' : MM} {hs : HS} {s : FS} (M : FM V hs s) (h : Om V V') : FM V' hs s := M.og h.og
/-- a number, but for scratch the same memory -/
def RO (V : MM) (x : Int) : Option AV → MM → Prop := RI (fun z V' => z = x ∧ Om V V')
theorem RO.mk {V V' : MM} {x y : Int} (h : Om V V') (e : x = y) : RO V y (some (vi x)) V' := ⟨x, rfl, e, h⟩
theorem las_rg {V : MM} {w : Int} {e : Int} : ∀ (k : Nat) (c n : Int), c + k = e → (∀ j, c ≤ j ∧ j < e → 0 ≤ V 92 j ∧ V 92 j ≤ 99) → (0 ≤ n ∧ n ≤ 99) → 0 ≤ lasM V w k c n ∧ lasM V w k c n ≤ 99 := by
  intro k
  induction k with
  | zero => intro c n h0 h1 h2; exact h2
  | succ k ih =>
    intro c n h0 h1 h2
    unfold lasM
    have := h1 c (by omega)
    refine ih (c + 1) _ (by omega) (fun j hj => h1 j (by omega)) ?_
    split <;> omega
theorem hsT_rg {V : MM} {t : Int} (h : MHi V t) : (1 ≤ (hsT V t).1 ∧ (hsT V t).1 ≤ 99) ∧ (0 ≤ (hsT V t).2.1 ∧ (hsT V t).2.1 ≤ 99) := by
  obtain ⟨h1, h2, h3⟩ := h
  have a1 := las_rg (V := V) (w := 2) (e := fstM t + nclM V t) (nclM V t).toNat (fstM t) 24 (by omega) (fun j hj => (h3 j hj).2.1) (by omega)
  have a2 := las_rg (V := V) (w := 3) (e := fstM t + nclM V t) (nclM V t).toNat (fstM t) 0 (by omega) (fun j hj => (h3 j hj).2.1) (by omega)
  refine ⟨?_, a2⟩
  show 1 ≤ widT V t ∧ widT V t ≤ 99
  unfold widT
  replace a1 : 0 ≤ lasT V t 2 24 ∧ lasT V t 2 24 ≤ 99 := a1
  split <;> omega
theorem FM.hw {V : MM} {hs : HS} {s : FS} (M : FM V hs s) : (1 ≤ hs.1 ∧ hs.1 ≤ 99) ∧ (0 ≤ hs.2.1 ∧ hs.2.1 ≤ 99) := by
  have := hsT_rg M.2.2.1
  rw [← M.2.1] at this
  exact this

theorem m_in {g : GC} {V : MM} {x a b : Int} (hx : -2147483648 ≤ x ∧ x ≤ 2147483647) (ha : -2147483648 ≤ a ∧ a ≤ 2147483647) (hb : -2147483648 ≤ b ∧ b ≤ 2147483647) : Ct g mX7_in 1 [vr 83, vi x, vi a, vi b] V (RB V (a ≤ x ∧ x ≤ b)) := by
  refine Ct.of (ls := [some (vr 83), some (vi x), some (vi a), some (vi b)]) (plainFor_of_name (by decide +kernel)) rfl (by exact Nat.le_of_ble_eq_true rfl) (fun X hz hD => ?_)
  refine S_il1 qX7_in_0 ?_
  refine S_il2 qX7_in_1 ?_
  refine S_icmp_lt (d := qX7_in_2) (kt := fun c2 => ?_) (kf := fun c2 => ?_)
  · refine S_iconst qX7_in_14 ?_
    refine S_zret hz qX7_in_15 (by omega) ?_
    exact RB.mk (by omega)
  · refine S_il1 qX7_in_5 ?_
    refine S_il3 qX7_in_6 ?_
    refine S_icmp_gt (d := qX7_in_7) (kt := fun c7 => ?_) (kf := fun c7 => ?_)
    · refine S_iconst qX7_in_14 ?_
      refine S_zret hz qX7_in_15 (by omega) ?_
      exact RB.mk (by omega)
    · refine S_iconst qX7_in_10 ?_
      refine S_goto qX7_in_11 ?_
      refine S_zret hz qX7_in_15 (by omega) ?_
      exact RB.mk (by omega)

theorem m_isDancer {g : GC} {V : MM} {hs : HS} {s : FS} {d : Int} (M : FM V hs s) (rd : -2147483648 ≤ d ∧ d ≤ 2147483647) : Ct g mX7_isDancer 2 [vr 83, vi d] V (RB V (0 ≤ d ∧ d < s.1)) := by
  refine Ct.of (ls := [some (vr 83), some (vi d)]) (plainFor_of_name (by decide +kernel)) rfl (by exact Nat.le_of_ble_eq_true rfl) (fun X hz hD => ?_)
  have hI := M.2.2.2.1
  refine S_al0 qX7_isDancer_0 ?_
  refine S_il1 qX7_isDancer_1 ?_
  refine S_iconst qX7_isDancer_2 ?_
  refine S_al0 qX7_isDancer_3 ?_
  refine S_getI qX7_isDancer_4 fX7_7 e83_0 ?_
  rw [M.n]
  refine S_iconst qX7_isDancer_7 ?_
  refine S_isub qX7_isDancer_8 ?_
  refine S_V3B hD qX7_isDancer_9 lX7_206 vX7_in r83 (m_in (by omega) (by omega) (by omega)) (kt := fun j9 => ?_) (kf := fun j9 => ?_)
  · refine S_zret hz qX7_isDancer_12 (by omega) ?_
    exact RB.mk (by omega)
  · refine S_zret hz qX7_isDancer_12 (by omega) ?_
    exact RB.mk (by omega)

theorem m_isPlace {g : GC} {V : MM} {d : Int} (rd : -2147483648 ≤ d ∧ d ≤ 2147483647) : Ct g mX7_isPlace 2 [vr 83, vi d] V (RB V (0 ≤ d ∧ d ≤ 98)) := by
  refine Ct.of (ls := [some (vr 83), some (vi d)]) (plainFor_of_name (by decide +kernel)) rfl (by exact Nat.le_of_ble_eq_true rfl) (fun X hz hD => ?_)
  refine S_al0 qX7_isPlace_0 ?_
  refine S_il1 qX7_isPlace_1 ?_
  refine S_iconst qX7_isPlace_2 ?_
  refine S_bipush (d := qX7_isPlace_3) (k := ?_)
  refine S_V3B hD qX7_isPlace_5 lX7_206 vX7_in r83 (m_in (by omega) (by omega) (by omega)) (kt := fun j5 => ?_) (kf := fun j5 => ?_)
  · refine S_zret hz qX7_isPlace_8 (by omega) ?_
    exact RB.mk (by omega)
  · refine S_zret hz qX7_isPlace_8 (by omega) ?_
    exact RB.mk (by omega)

theorem m_isBeats {g : GC} {V : MM} {d : Int} (rd : -2147483648 ≤ d ∧ d ≤ 2147483647) : Ct g mX7_isBeats 2 [vr 83, vi d] V (RB V (0 ≤ d ∧ d ≤ 60)) := by
  refine Ct.of (ls := [some (vr 83), some (vi d)]) (plainFor_of_name (by decide +kernel)) rfl (by exact Nat.le_of_ble_eq_true rfl) (fun X hz hD => ?_)
  refine S_al0 qX7_isBeats_0 ?_
  refine S_il1 qX7_isBeats_1 ?_
  refine S_iconst qX7_isBeats_2 ?_
  refine S_bipush (d := qX7_isBeats_3) (k := ?_)
  refine S_V3B hD qX7_isBeats_5 lX7_206 vX7_in r83 (m_in (by omega) (by omega) (by omega)) (kt := fun j5 => ?_) (kf := fun j5 => ?_)
  · refine S_zret hz qX7_isBeats_8 (by omega) ?_
    exact RB.mk (by omega)
  · refine S_zret hz qX7_isBeats_8 (by omega) ?_
    exact RB.mk (by omega)

theorem m_first {g : GC} {V : MM} (ht : -1 ≤ V 83 8 ∧ V 83 8 ≤ 5) : Ct g mX7_firstClause 1 [vr 83] V (RE V (fstM (V 83 8))) := by
  refine Ct.of (ls := [some (vr 83)]) (plainFor_of_name (by decide +kernel)) rfl (by exact Nat.le_of_ble_eq_true rfl) (fun X hz hD => ?_)
  refine S_al0 qX7_firstClause_0 ?_
  refine S_getI qX7_firstClause_1 fX7_35 e83_8 ?_
  refine S_if_ge (d := qX7_firstClause_4) (kt := fun c4 => ?_) (kf := fun c4 => ?_)
  · refine S_bipush (d := qX7_firstClause_11) (k := ?_)
    refine S_al0 qX7_firstClause_13 ?_
    refine S_getI qX7_firstClause_14 fX7_35 e83_8 ?_
    refine S_imul qX7_firstClause_17 ?_
    refine S_iret hz qX7_firstClause_18 ?_
    refine RE.mk ?_
    unfold fstM
    split <;> omega
  · refine S_iconst qX7_firstClause_7 ?_
    refine S_goto qX7_firstClause_8 ?_
    refine S_iret hz qX7_firstClause_18 ?_
    refine RE.mk ?_
    unfold fstM
    split <;> omega

theorem m_behind {g : GC} {V : MM} (ht : -1 ≤ V 83 8 ∧ V 83 8 ≤ 5) : Ct g mX7_behindClauses 1 [vr 83] V (RE V (fstM (V 83 8) + nclM V (V 83 8))) := by
  refine Ct.of (ls := [some (vr 83)]) (plainFor_of_name (by decide +kernel)) rfl (by exact Nat.le_of_ble_eq_true rfl) (fun X hz hD => ?_)
  refine S_al0 qX7_behindClauses_0 ?_
  refine S_getI qX7_behindClauses_1 fX7_35 e83_8 ?_
  refine S_if_ge (d := qX7_behindClauses_4) (kt := fun c4 => ?_) (kf := fun c4 => ?_)
  · refine S_bipush (d := qX7_behindClauses_11) (k := ?_)
    refine S_al0 qX7_behindClauses_13 ?_
    refine S_getI qX7_behindClauses_14 fX7_35 e83_8 ?_
    refine S_imul qX7_behindClauses_17 ?_
    refine S_al0 qX7_behindClauses_18 ?_
    refine S_getR qX7_behindClauses_19 fX7_50 e83_13 ?_
    refine S_al0 qX7_behindClauses_22 ?_
    refine S_getI qX7_behindClauses_23 fX7_35 e83_8 ?_
    refine S_iald qX7_behindClauses_26 a90 (K := ?_)
    refine S_iadd qX7_behindClauses_27 ?_
    refine S_iret hz qX7_behindClauses_28 ?_
    refine RE.mk ?_
    unfold fstM nclM
    split <;> omega
  · refine S_iconst qX7_behindClauses_7 ?_
    refine S_goto qX7_behindClauses_8 ?_
    refine S_iret hz qX7_behindClauses_28 ?_
    refine RE.mk ?_
    unfold fstM nclM
    split <;> omega

theorem last_loop {g : GC} {X : CX} {Q : Option AV → MM → Prop} {V : MM} {w n0 xf : Int} (hM : MHi V (V 83 8)) (hw : 0 ≤ w ∧ w ≤ 3) (hz : Fi g X (some .int) Q) (hD : Dp X 2) (hQ : Q (some (vi xf)) V) : ∀ (k : Nat) (c n : Int), fstM (V 83 8) ≤ c → c + k = fstM (V 83 8) + nclM V (V 83 8) → lasM V w k c n = xf → SW g X RX7 cX7_lastOf 8 [some (vr 83), some (vi w), some (vi n0), some (vi n), some (vi c)] [] V := by
  obtain ⟨ht, hn, hcl⟩ := hM
  have hf0 : 0 ≤ fstM (V 83 8) ∧ fstM (V 83 8) ≤ 50 := by unfold fstM; split <;> omega
  intro k
  induction k with
  | zero =>
    intro c n h0 h1 hx
    unfold lasM at hx
    subst hx
    refine S_il4 qX7_lastOf_8 ?_
    refine S_al0 qX7_lastOf_10 ?_
    refine S_V0E hD qX7_lastOf_11 lX7_271 vX7_behindClauses r83 (m_behind ht) (K := ?_)
    refine S_icmp_ge (d := qX7_lastOf_14) (kt := fun c14 => ?_) (kf := fun c14 => ?_)
    rotate_left
    · omega
    refine S_il3 qX7_lastOf_46 ?_
    refine S_iret hz qX7_lastOf_47 ?_
    exact hQ
  | succ k ih =>
    intro c n h0 h1 hx
    unfold lasM at hx
    obtain ⟨hc1, hc2, -⟩ := hcl c (by omega)
    refine S_il4 qX7_lastOf_8 ?_
    refine S_al0 qX7_lastOf_10 ?_
    refine S_V0E hD qX7_lastOf_11 lX7_271 vX7_behindClauses r83 (m_behind ht) (K := ?_)
    refine S_icmp_ge (d := qX7_lastOf_14) (kt := fun c14 => ?_) (kf := fun c14 => ?_)
    · omega
    refine S_al0 qX7_lastOf_17 ?_
    refine S_getR qX7_lastOf_18 fX7_53 e83_14 ?_
    refine S_il4 qX7_lastOf_21 ?_
    refine S_iald qX7_lastOf_23 a91 (K := ?_)
    refine S_il1 qX7_lastOf_24 ?_
    refine S_icmp_ne (d := qX7_lastOf_25) (kt := fun c25 => ?_) (kf := fun c25 => ?_)
    · refine S_il3 qX7_lastOf_38 ?_
      refine S_is3 qX7_lastOf_39 (K := ?_)
      refine S_inc4 qX7_lastOf_40 (K := ?_)
      refine S_goto qX7_lastOf_43 ?_
      first | (rw [if_pos (by omega)] at hx; exact ih (c + 1) _ (by omega) (by omega) hx) | (rw [if_neg (by omega)] at hx; exact ih (c + 1) _ (by omega) (by omega) hx)
    · refine S_al0 qX7_lastOf_28 ?_
      refine S_getR qX7_lastOf_29 fX7_56 e83_15 ?_
      refine S_il4 qX7_lastOf_32 ?_
      refine S_iald qX7_lastOf_34 a92 (K := ?_)
      refine S_goto qX7_lastOf_35 ?_
      refine S_is3 qX7_lastOf_39 (K := ?_)
      refine S_inc4 qX7_lastOf_40 (K := ?_)
      refine S_goto qX7_lastOf_43 ?_
      first | (rw [if_pos (by omega)] at hx; exact ih (c + 1) _ (by omega) (by omega) hx) | (rw [if_neg (by omega)] at hx; exact ih (c + 1) _ (by omega) (by omega) hx)
theorem m_last {g : GC} {V : MM} {w n : Int} (hM : MHi V (V 83 8)) (hw : 0 ≤ w ∧ w ≤ 3) : Ct g mX7_lastOf 2 [vr 83, vi w, vi n] V (RE V (lasT V (V 83 8) w n)) := by
  refine Ct.of (ls := [some (vr 83), some (vi w), some (vi n), none, none]) (plainFor_of_name (by decide +kernel)) rfl (by exact Nat.le_of_ble_eq_true rfl) (fun X hz hD => ?_)
  have ht := hM.1
  have hn := hM.2.1
  refine S_il2 qX7_lastOf_0 ?_
  refine S_is3 qX7_lastOf_1 (K := ?_)
  refine S_al0 qX7_lastOf_2 ?_
  refine S_V0E hD qX7_lastOf_3 lX7_268 vX7_firstClause r83 (m_first ht) (K := ?_)
  refine S_is4 qX7_lastOf_6 (K := ?_)
  exact last_loop hM hw hz hD ⟨rfl, rfl⟩ (nclM V (V 83 8)).toNat (fstM (V 83 8)) n (by omega) (by omega) rfl

theorem m_wide {g : GC} {V : MM} {hs : HS} {s : FS} (M : FM V hs s) : Ct g mX7_wide 3 [vr 83] V (RE V (hs.1)) := by
  refine Ct.of (ls := [some (vr 83), none]) (plainFor_of_name (by decide +kernel)) rfl (by exact Nat.le_of_ble_eq_true rfl) (fun X hz hD => ?_)
  have hM := M.2.2.1
  have hr := las_rg (V := V) (w := 2) (e := fstM (V 83 8) + nclM V (V 83 8)) (nclM V (V 83 8)).toNat (fstM (V 83 8)) 24 (by have := hM.2.1; omega) (fun j hj => (hM.2.2 j hj).2.1) (by omega)
  replace hr : 0 ≤ lasT V (V 83 8) 2 24 ∧ lasT V (V 83 8) 2 24 ≤ 99 := hr
  have e : hs.1 = widT V (V 83 8) := by rw [M.2.1]; rfl
  refine S_al0 qX7_wide_0 ?_
  refine S_iconst qX7_wide_1 ?_
  refine S_bipush (d := qX7_wide_2) (k := ?_)
  refine S_V2E hD qX7_wide_4 lX7_274 vX7_lastOf r83 (m_last hM (by omega)) (K := ?_)
  refine S_is1 qX7_wide_7 (K := ?_)
  refine S_il1 qX7_wide_8 ?_
  refine S_iconst qX7_wide_9 ?_
  refine S_icmp_ge (d := qX7_wide_10) (kt := fun c10 => ?_) (kf := fun c10 => ?_)
  · refine S_il1 qX7_wide_17 ?_
    refine S_iret hz qX7_wide_18 ?_
    refine RE.mk ?_
    rw [e]
    unfold widT
    first | (rw [if_pos (by omega)]; done) | (rw [if_neg (by omega)]; done)
  · refine S_iconst qX7_wide_13 ?_
    refine S_goto qX7_wide_14 ?_
    refine S_iret hz qX7_wide_18 ?_
    refine RE.mk ?_
    rw [e]
    unfold widT
    first | (rw [if_pos (by omega)]; done) | (rw [if_neg (by omega)]; done)

theorem m_skip {g : GC} {V : MM} {hs : HS} {s : FS} (M : FM V hs s) : Ct g mX7_skip 3 [vr 83] V (RE V (hs.2.1)) := by
  refine Ct.of (ls := [some (vr 83)]) (plainFor_of_name (by decide +kernel)) rfl (by exact Nat.le_of_ble_eq_true rfl) (fun X hz hD => ?_)
  have hM := M.2.2.1
  refine S_al0 qX7_skip_0 ?_
  refine S_iconst qX7_skip_1 ?_
  refine S_iconst qX7_skip_2 ?_
  refine S_V2E hD qX7_skip_3 lX7_274 vX7_lastOf r83 (m_last hM (by omega)) (K := ?_)
  refine S_iret hz qX7_skip_6 ?_
  refine RE.mk ?_
  rw [M.2.1]
  rfl

theorem m_fact {g : GC} {V : MM} {hs : HS} {s : FS} {l d : Int} (M : FM V hs s) (hl : 0 ≤ l ∧ l ≤ 9) (hd : 0 ≤ d ∧ d < s.1) : Ct g mX7_factOf 1 [vr 83, vi l, vi d] V (RE V (envS s d l)) := by
  refine Ct.of (ls := [some (vr 83), some (vi l), some (vi d)]) (plainFor_of_name (by decide +kernel)) rfl (by exact Nat.le_of_ble_eq_true rfl) (fun X hz hD => ?_)
  have hI := M.2.2.2
  have hn6 := hI.1
  have hb := hI.2.1
  have hwb := M.b
  refine S_il1 qX7_factOf_0 ?_
  by_cases s1_0 : l = 0
  · refine S_tabIn (tgt := 36) (off := 35) qX7_factOf_1 (by omega) (by omega) (by rw [s1_0]; rfl) (by decide) ?_
    refine S_il2 qX7_factOf_36 ?_
    refine S_iret hz qX7_factOf_37 ?_
    refine RE.mk ?_
    unfold envS
    first
      | (rw [if_pos (by omega)]; done)
      | (rw [if_neg (by omega), if_pos (by omega), M.w84]; done)
      | (rw [if_neg (by omega), if_neg (by omega), if_pos (by omega), M.w85]; done)
      | (rw [if_neg (by omega), if_neg (by omega), if_neg (by omega), if_pos (by omega), M.w88]; done)
      | (rw [if_neg (by omega), if_neg (by omega), if_neg (by omega), if_neg (by omega), if_pos (by omega), M.w86]; done)
      | (rw [if_neg (by omega), if_neg (by omega), if_neg (by omega), if_neg (by omega), if_neg (by omega), M.b]; done)
  by_cases s1_1 : l = 1
  · refine S_tabIn (tgt := 38) (off := 37) qX7_factOf_1 (by omega) (by omega) (by rw [s1_1]; rfl) (by decide) ?_
    refine S_al0 qX7_factOf_38 ?_
    refine S_getR qX7_factOf_39 fX7_16 e83_2 ?_
    refine S_il2 qX7_factOf_42 ?_
    refine S_iald qX7_factOf_43 a84 (K := ?_)
    refine S_iret hz qX7_factOf_44 ?_
    refine RE.mk ?_
    unfold envS
    first
      | (rw [if_pos (by omega)]; done)
      | (rw [if_neg (by omega), if_pos (by omega), M.w84]; done)
      | (rw [if_neg (by omega), if_neg (by omega), if_pos (by omega), M.w85]; done)
      | (rw [if_neg (by omega), if_neg (by omega), if_neg (by omega), if_pos (by omega), M.w88]; done)
      | (rw [if_neg (by omega), if_neg (by omega), if_neg (by omega), if_neg (by omega), if_pos (by omega), M.w86]; done)
      | (rw [if_neg (by omega), if_neg (by omega), if_neg (by omega), if_neg (by omega), if_neg (by omega), M.b]; done)
  by_cases s1_2 : l = 2
  · refine S_tabIn (tgt := 45) (off := 44) qX7_factOf_1 (by omega) (by omega) (by rw [s1_2]; rfl) (by decide) ?_
    refine S_al0 qX7_factOf_45 ?_
    refine S_getR qX7_factOf_46 fX7_20 e83_3 ?_
    refine S_il2 qX7_factOf_49 ?_
    refine S_iald qX7_factOf_50 a85 (K := ?_)
    refine S_iret hz qX7_factOf_51 ?_
    refine RE.mk ?_
    unfold envS
    first
      | (rw [if_pos (by omega)]; done)
      | (rw [if_neg (by omega), if_pos (by omega), M.w84]; done)
      | (rw [if_neg (by omega), if_neg (by omega), if_pos (by omega), M.w85]; done)
      | (rw [if_neg (by omega), if_neg (by omega), if_neg (by omega), if_pos (by omega), M.w88]; done)
      | (rw [if_neg (by omega), if_neg (by omega), if_neg (by omega), if_neg (by omega), if_pos (by omega), M.w86]; done)
      | (rw [if_neg (by omega), if_neg (by omega), if_neg (by omega), if_neg (by omega), if_neg (by omega), M.b]; done)
  by_cases s1_3 : l = 3
  · refine S_tabIn (tgt := 52) (off := 51) qX7_factOf_1 (by omega) (by omega) (by rw [s1_3]; rfl) (by decide) ?_
    refine S_al0 qX7_factOf_52 ?_
    refine S_getR qX7_factOf_53 fX7_29 e83_6 ?_
    refine S_bipush (d := qX7_factOf_56) (k := ?_)
    refine S_il2 qX7_factOf_58 ?_
    refine S_imul qX7_factOf_59 ?_
    refine S_iald qX7_factOf_60 a88 (K := ?_)
    refine S_iret hz qX7_factOf_61 ?_
    refine RE.mk ?_
    unfold envS
    first
      | (rw [if_pos (by omega)]; done)
      | (rw [if_neg (by omega), if_pos (by omega), M.w84]; done)
      | (rw [if_neg (by omega), if_neg (by omega), if_pos (by omega), M.w85]; done)
      | (rw [if_neg (by omega), if_neg (by omega), if_neg (by omega), if_pos (by omega), M.w88]; done)
      | (rw [if_neg (by omega), if_neg (by omega), if_neg (by omega), if_neg (by omega), if_pos (by omega), M.w86]; done)
      | (rw [if_neg (by omega), if_neg (by omega), if_neg (by omega), if_neg (by omega), if_neg (by omega), M.b]; done)
  by_cases s1_4 : l = 4
  · refine S_tabIn (tgt := 62) (off := 61) qX7_factOf_1 (by omega) (by omega) (by rw [s1_4]; rfl) (by decide) ?_
    refine S_al0 qX7_factOf_62 ?_
    refine S_getR qX7_factOf_63 fX7_23 e83_4 ?_
    refine S_il2 qX7_factOf_66 ?_
    refine S_iald qX7_factOf_67 a86 (K := ?_)
    refine S_iret hz qX7_factOf_68 ?_
    refine RE.mk ?_
    unfold envS
    first
      | (rw [if_pos (by omega)]; done)
      | (rw [if_neg (by omega), if_pos (by omega), M.w84]; done)
      | (rw [if_neg (by omega), if_neg (by omega), if_pos (by omega), M.w85]; done)
      | (rw [if_neg (by omega), if_neg (by omega), if_neg (by omega), if_pos (by omega), M.w88]; done)
      | (rw [if_neg (by omega), if_neg (by omega), if_neg (by omega), if_neg (by omega), if_pos (by omega), M.w86]; done)
      | (rw [if_neg (by omega), if_neg (by omega), if_neg (by omega), if_neg (by omega), if_neg (by omega), M.b]; done)
  refine S_tabOut (tgt := 69) qX7_factOf_1 (by omega) (by omega) (by decide) ?_
  refine S_al0 qX7_factOf_69 ?_
  have hb := hI.2.1
  have hwb := M.b
  refine S_getI qX7_factOf_70 fX7_13 e83_1 ?_
  refine S_bipush (d := qX7_factOf_73) (k := ?_)
  refine S_irem (d := qX7_factOf_75) (k := ?_)
  refine S_iret hz qX7_factOf_76 ?_
  refine RE.mk ?_
  unfold envS
  first
    | (rw [if_pos (by omega)]; done)
    | (rw [if_neg (by omega), if_pos (by omega), M.w84]; done)
    | (rw [if_neg (by omega), if_neg (by omega), if_pos (by omega), M.w85]; done)
    | (rw [if_neg (by omega), if_neg (by omega), if_neg (by omega), if_pos (by omega), M.w88]; done)
    | (rw [if_neg (by omega), if_neg (by omega), if_neg (by omega), if_neg (by omega), if_pos (by omega), M.w86]; done)
    | (rw [if_neg (by omega), if_neg (by omega), if_neg (by omega), if_neg (by omega), if_neg (by omega), M.b]; done)
