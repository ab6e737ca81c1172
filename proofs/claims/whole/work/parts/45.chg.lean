theorem CAh_c {V V' : MM} {Z Z' : ZT} (h : CAh V Z) (e0 : V' 0 7 = V 0 7) (eh : ∀ k : Nat, 43 ≤ k → k < 71 → V' k = V k) (ez : Z'.2.2.1 = Z.2.2.1) : CAh V' Z' := by
  obtain ⟨a1, a2, a3⟩ := h
  refine ⟨by rw [e0, ez]; exact a1, by rw [ez]; exact a2, fun k hk i hi => ?_⟩
  have hb := isH_b hk
  rw [eh (k + 3) (by omega) (by omega)]
  exact a3 k hk i hi
theorem CAt_c {V V' : MM} {Z Z' : ZT} (h : CAt V Z) (e4 : V' 4 = V 4) (e5 : V' 5 = V 5) (ez : Z'.2.2.2.1 = Z.2.2.2.1) : CAt V' Z' := by
  obtain ⟨t1, t2, t3⟩ := h
  refine ⟨by rw [e4, ez]; exact t1, by rw [e5, ez]; exact t2, ?_⟩
  unfold BInv
  rw [e4, e5]
  exact t3
theorem sn_c {V V' : MM} {b : Nat} (e : ∀ k : Nat, b ≤ k → k < b + 7 → V' k = V k) : snC V' b = snC V b := by
  unfold snC
  rw [e b (by omega) (by omega), e (b + 1) (by omega) (by omega), e (b + 2) (by omega) (by omega), e (b + 3) (by omega) (by omega), e (b + 4) (by omega) (by omega), e (b + 5) (by omega) (by omega), e (b + 6) (by omega) (by omega)]
theorem NInv.mono {n m : Int} {N : SN} (h : NInv n N) (hn : n ≤ m) : NInv m N := by
  obtain ⟨h1, h2, h3, h4, h5, h6⟩ := h
  refine ⟨h1, fun i hi => ?_, h3, h4, h5, fun i hi => ?_⟩
  · have := h2 i hi; omega
  · have := h6 i hi; omega
theorem CAn_c {V V' : MM} {Z Z' : ZT} (h : CAn V Z) (e : ∀ k : Nat, 29 ≤ k → k < 36 → V' k = V k) (hn : Z.1.1 ≤ Z'.1.1) (ez : Z'.2.2.2.2.1 = Z.2.2.2.2.1) : CAn V' Z' := by
  obtain ⟨n1, n2⟩ := h
  exact ⟨by rw [sn_c e, ez]; exact n1, by rw [ez]; exact n2.mono hn⟩
theorem CAi_c {V V' : MM} {Z Z' : ZT} (h : CAi V Z) (e0 : V' 0 5 = V 0 5) (e : ∀ k : Nat, 22 ≤ k ∧ k < 29 ∨ 36 ≤ k ∧ k < 71 → V' k = V k) (ez : Z'.2.2.2.2.2.1 = Z.2.2.2.2.2.1) (ec : Z'.2.2.1 = Z.2.2.1) : CAi V' Z' := by
  unfold CAi
  rw [ez, ec, e0]
  rcases h with ⟨i1, i2⟩ | ⟨I, i1, i2, i3, i4, i5, i6, i7⟩
  · exact Or.inl ⟨i1, i2⟩
  · exact Or.inr ⟨I, i1, i2, i3.cong (fun k h3 h4 => e k (by omega)) (fun k h3 h4 => e k (by omega)), i4, by rw [e 22 (by omega)]; exact i5, by rw [sn_c (b := 36) (fun k h1 h2 => e k (by omega))]; exact i6, i7⟩
theorem CAr_c {V V' : MM} {Z Z' : ZT} (h : CAr V Z) (e6 : V' 6 0 = V 6 0) (e7 : V' 7 = V 7) (ez : Z'.2.2.2.2.2.2.1 = Z.2.2.2.2.2.2.1) : CAr V' Z' := by
  obtain ⟨r1, r2, r3⟩ := h
  exact ⟨by rw [e6, ez]; exact r1, by rw [e7, ez]; exact r2, by rw [e6]; exact r3⟩
theorem CAg_c {V V' : MM} {Z Z' : ZT} (h : CAg V Z) (e : ∀ k : Nat, 71 ≤ k → k < 83 → V' k = V k) (ez : Z'.2.2.2.2.2.2.2 = Z.2.2.2.2.2.2.2) : CAg V' Z' := by
  intro i hi
  rw [ez, e (71 + 2 * i) (by omega) (by omega), e (71 + 2 * i + 1) (by omega) (by omega)]
  exact h i hi
/-- the floor that stands has become another -/
theorem CA.fs {V V' : MM} {Z : ZT} {s' : FS} (hZ : CA V Z) (hF : FlC V' 8 Z.2.1 s') (hS : Sm V V' 8 7) (h2 : V' 8 2 = V 8 2) (hb : s'.2.1 ≤ 9999) (hn : Z.1.1 ≤ s'.1) : CA V' (s', Z.2) :=
  ⟨⟨hF, hb, by rw [h2]; exact hZ.1.2.2⟩, CAh_c hZ.2.1 (by rw [hS 0 (by omega)]) (fun k a b => hS k (by omega)) rfl, CAt_c hZ.2.2.1 (hS 4 (by omega)) (hS 5 (by omega)) rfl, CAn_c hZ.2.2.2.1 (fun k a b => hS k (by omega)) hn rfl, CAi_c hZ.2.2.2.2.1 (by rw [hS 0 (by omega)]) (fun k a => hS k (by omega)) rfl rfl, CAr_c hZ.2.2.2.2.2.1 (by rw [hS 6 (by omega)]) (hS 7 (by omega)) rfl, CAg_c hZ.2.2.2.2.2.2 (fun k a b => hS k (by omega)) rfl⟩
/-- the hand has become another -/
theorem CA.nn {V V' : MM} {Z : ZT} {N' : SN} (hZ : CA V Z) (hN : snC V' 29 = N') (hI : NInv Z.1.1 N') (hS : ∀ k : Nat, k < 29 ∨ 36 ≤ k → V' k = V k) : CA V' (Z.1, Z.2.1, Z.2.2.1, Z.2.2.2.1, N', Z.2.2.2.2.2) :=
  ⟨⟨hZ.1.1.cong (fun k a b => hS k (by omega)) (fun k a b => hS k (by omega)), hZ.1.2.1, by rw [hS 8 (by omega)]; exact hZ.1.2.2⟩, CAh_c hZ.2.1 (by rw [hS 0 (by omega)]) (fun k a b => hS k (by omega)) rfl, CAt_c hZ.2.2.1 (hS 4 (by omega)) (hS 5 (by omega)) rfl, ⟨hN, hI⟩, CAi_c hZ.2.2.2.2.1 (by rw [hS 0 (by omega)]) (fun k a => hS k (by omega)) rfl rfl, CAr_c hZ.2.2.2.2.2.1 (by rw [hS 6 (by omega)]) (hS 7 (by omega)) rfl, CAg_c hZ.2.2.2.2.2.2 (fun k a b => hS k (by omega)) rfl⟩
def rowF (s : FS) (a n : Int) : FS := (s.1, s.2.1, s.2.2.1, s.2.2.2.1, s.2.2.2.2.1, s.2.2.2.2.2.1, ur s.2.2.2.2.2.2 a n)
theorem row_fl {V : MM} {f : Nat} {hs : HS} {s : FS} {a n : Int} (hF : FlC V f hs s) (rn : 0 ≤ n ∧ n ≤ 9) : FlC (upR V (f + 5) (ur (V (f + 5)) a n)) f hs (rowF s a n) := by
  obtain ⟨hf, rfl, hH, h0, hI⟩ := hF
  have hfb := isF_b hf
  obtain ⟨h1, h2, h3, h4, h5, h6⟩ := hI
  have e : upR V (f + 5) (ur (V (f + 5)) a n) f = V f := upR_n _ (by omega)
  refine ⟨hf, ?_, ?_, by rw [e]; exact h0, ⟨h1, h2, h3, h4, h5, fun i hi => ?_⟩⟩
  · show _ = (upR V (f + 5) (ur (V (f + 5)) a n) f 0, upR V (f + 5) (ur (V (f + 5)) a n) f 1, upR V (f + 5) (ur (V (f + 5)) a n) (f + 1), upR V (f + 5) (ur (V (f + 5)) a n) (f + 2), upR V (f + 5) (ur (V (f + 5)) a n) (f + 3), upR V (f + 5) (ur (V (f + 5)) a n) (f + 4), upR V (f + 5) (ur (V (f + 5)) a n) (f + 5))
    rw [e, upR_n _ (by omega), upR_n _ (by omega), upR_n _ (by omega), upR_n _ (by omega), upR_s]
    rfl
  · rw [e]
    exact HlC_cong hH (fun k h1 h2 => upR_n _ (by omega))
  · have := h6 i hi
    show 0 ≤ ur (V (f + 5)) a n i ∧ ur (V (f + 5)) a n i ≤ 9
    replace this : 0 ≤ V (f + 5) i ∧ V (f + 5) i ≤ 9 := this
    unfold ur
    split <;> omega
def nDancer (Z : ZT) (k v p : Int) : Int × ZT := if k < 0 ∨ 6 < k then (-1, Z) else if v < 0 ∨ 9 < v ∨ p < 0 ∨ Z.2.1.1 ≤ p then (-2, Z) else if 6 ≤ Z.1.1 then (-4, Z) else (Z.1.1, (joiS Z.1 k v p, Z.2))
def nAfter (Z : ZT) (d o : Int) : Int × ZT := if d < 0 ∨ Z.1.1 ≤ d ∨ o < 0 ∨ Z.1.1 ≤ o then (-1, Z) else (Z.1.2.2.2.2.1 d, (folS Z.1 d o, Z.2))
def nBegin (Z : ZT) (d p : Int) : Int × ZT := if d < 0 ∨ Z.1.1 ≤ d then (-1, Z) else if p < 0 ∨ Z.2.1.1 ≤ p then (-2, Z) else (Z.1.2.2.2.2.2.1 (8 * d), (layF Z.1 d p, Z.2))
def nRow (Z : ZT) (d part n : Int) : Int × ZT := if d < 0 ∨ Z.1.1 ≤ d ∨ part < 0 ∨ 3 < part then (-1, Z) else if n < 0 ∨ 9 < n then (-2, Z) else if Z.1.2.2.1 d ≠ 6 then (-3, Z) else (Z.1.2.2.2.2.2.2 (4 * d + part), (rowF Z.1 (4 * d + part) n, Z.2))
def txZ (Z : ZT) (t : Int × (Int → Int)) : ZT := (Z.1, Z.2.1, Z.2.2.1, t, Z.2.2.2.2)
def nFeed (Z : ZT) (c : Int) : Int × ZT := if c < 0 ∨ 127 < c then (-2, Z) else if 100 ≤ Z.2.2.2.1.1 then (-4, Z) else (Z.2.2.2.1.1 + 1, txZ Z (Z.2.2.2.1.1 + 1, ur Z.2.2.2.1.2 Z.2.2.2.1.1 c))
def nPass (Z : ZT) (n : Int) : Int × ZT := if n < 0 ∨ 60 < n then (-2, Z) else if 9999 < Z.1.2.1 + n then (-3, Z) else (Z.1.2.1 + n, (goN Z.2.1 n.toNat Z.1, Z.2))
def snZ (Z : ZT) (N : SN) : ZT := (Z.1, Z.2.1, Z.2.2.1, Z.2.2.2.1, N, Z.2.2.2.2.2)
def nSee (Z : ZT) (d p n : Int) : Int × ZT := if d = -1 then (0, snZ Z (0, Z.2.2.2.2.1.2)) else if d < 0 ∨ Z.1.1 ≤ d then (-1, Z) else if p < 0 ∨ 98 < p ∨ n < 0 ∨ 12 < n then (-2, Z) else if 5 ≤ Z.2.2.2.2.1.1 then (-4, Z) else (Z.2.2.2.2.1.1 + 1, snZ Z (Z.2.2.2.2.1.1 + 1, ur Z.2.2.2.2.1.2.1 Z.2.2.2.2.1.1 d, ur Z.2.2.2.2.1.2.2.1 Z.2.2.2.2.1.1 p, ur Z.2.2.2.2.1.2.2.2.1 Z.2.2.2.2.1.1 n, Z.2.2.2.2.1.2.2.2.2))
def nDance (Z : ZT) (w : Int) : Int × ZT := if w = -1 then (0, snZ Z (Z.2.2.2.2.1.1, Z.2.2.2.2.1.2.1, Z.2.2.2.2.1.2.2.1, Z.2.2.2.2.1.2.2.2.1, 0, Z.2.2.2.2.1.2.2.2.2.2)) else if w < 0 ∨ 2 < w then (-1, Z) else if 10 ≤ Z.2.2.2.2.1.2.2.2.2.1 then (-4, Z) else (Z.2.2.2.2.1.2.2.2.2.1 + 1, snZ Z (Z.2.2.2.2.1.1, Z.2.2.2.2.1.2.1, Z.2.2.2.2.1.2.2.1, Z.2.2.2.2.1.2.2.2.1, Z.2.2.2.2.1.2.2.2.2.1 + 1, ur Z.2.2.2.2.1.2.2.2.2.2.1 Z.2.2.2.2.1.2.2.2.2.1 w, Z.2.2.2.2.1.2.2.2.2.2.2))
def nBook (Z : ZT) (d p : Int) : Int × ZT := if d = -1 then (0, snZ Z (Z.2.2.2.2.1.1, Z.2.2.2.2.1.2.1, Z.2.2.2.2.1.2.2.1, Z.2.2.2.2.1.2.2.2.1, Z.2.2.2.2.1.2.2.2.2.1, Z.2.2.2.2.1.2.2.2.2.2.1, 0, Z.2.2.2.2.1.2.2.2.2.2.2.2)) else if d < 0 ∨ Z.1.1 ≤ d then (-1, Z) else if p < 0 ∨ 98 < p then (-2, Z) else if 8 ≤ Z.2.2.2.2.1.2.2.2.2.2.2.1 then (-4, Z) else (Z.2.2.2.2.1.2.2.2.2.2.2.1 + 1, snZ Z (Z.2.2.2.2.1.1, Z.2.2.2.2.1.2.1, Z.2.2.2.2.1.2.2.1, Z.2.2.2.2.1.2.2.2.1, Z.2.2.2.2.1.2.2.2.2.1, Z.2.2.2.2.1.2.2.2.2.2.1, Z.2.2.2.2.1.2.2.2.2.2.2.1 + 1, ur Z.2.2.2.2.1.2.2.2.2.2.2.2.1 Z.2.2.2.2.1.2.2.2.2.2.2.1 d, ur Z.2.2.2.2.1.2.2.2.2.2.2.2.2 Z.2.2.2.2.1.2.2.2.2.2.2.1 p))
def nImage (Z : ZT) : Int × ZT := (Z.1.1, (Z.1, Z.2.1, Z.2.2.1, Z.2.2.2.1, Z.2.2.2.2.1, some (Z.1, Z.2.1, Z.2.2.2.2.1), Z.2.2.2.2.2.2))
def nUndo (Z : ZT) : Int × ZT := match Z.2.2.2.2.2.1 with
  | none => (-3, Z)
  | some I => (I.1.1, (I.1, I.2.1, Z.2.2.1, Z.2.2.2.1, I.2.2, Z.2.2.2.2.2))
theorem RZ.eq {V : MM} {Z : ZT} {x : Int} {y : Int × ZT} (hZ : CA V Z) (e : (x, Z) = y) : RZ V y.1 y.2 (some (vi x)) V := by
  subst e
  exact ⟨rfl, hZ, fun _ _ => rfl⟩
theorem RZ.to {V V' : MM} {Z' : ZT} {x : Int} {y : Int × ZT} (hZ : CA V' Z') (hH : Hi V V') (e : (x, Z') = y) : RZ V y.1 y.2 (some (vi x)) V' := by
  subst e
  exact ⟨rfl, hZ, hH⟩

/-! acts, kind by kind -/
def mSt (k v i x : Int) (tr : TR) : Int × TR := if k = 2 ∨ k = 5 then (x * 3 + i, trP 10 (trP 30 tr)) else if k = 4 then (-(x + i), trP 10 (trP 50 tr)) else if k = 6 then ((Int32.ofInt (x + i) ^^^ Int32.ofInt v).toInt, trP 10 (trP 71 tr)) else (x + i, trP 10 tr)
def mDT (k v i x : Int) (tr : TR) : Int × TR := ((mSt k v i x (trP 11 tr)).1 - v, (mSt k v i x (trP 11 tr)).2)
def mLT (k v i x : Int) (tr : TR) : Int × TR := ((Int32.ofInt (mDT k v i x (trP 20 tr)).1 ^^^ Int32.ofInt 6).toInt, (mDT k v i x (trP 20 tr)).2)
def mTu (k v i x : Int) (tr : TR) : Int × TR := if k = 1 then mLT k v i x tr else if k = 4 then mLT k v i (x + 1) (trP 51 tr) else if k = 6 then ((mDT k v i x (trP 70 tr)).1 + (2 + i), trP 10 (mDT k v i x (trP 70 tr)).2) else mDT k v i x tr
def mDE (k v i x : Int) (tr : TR) : Int × TR := ((mTu k v i x (trP 12 tr)).1 * 2, (mTu k v i x (trP 12 tr)).2)
def mTe (k v i x : Int) (tr : TR) : Int × TR := if k = 3 ∨ k = 6 then ((mDE k v i x (trP 40 tr)).1 + (mTu k v i 1 (mDE k v i x (trP 40 tr)).2).1, (mTu k v i 1 (mDE k v i x (trP 40 tr)).2).2) else if k = 5 then mDE k v i (x - i) (trP 60 tr) else mDE k v i x tr
def actZ (k v i s x : Int) (tr : TR) : Int × TR := if s = 0 then mSt k v i x tr else if s = 1 then mTu k v i x tr else mTe k v i x tr
theorem trP_1 (b : Int) (tr : TR) : (trP b tr).1 = tr.1 + 1 := rfl
theorem mSt_1 (k v i x : Int) (tr : TR) : tr.1 ≤ (mSt k v i x tr).2.1 ∧ (mSt k v i x tr).2.1 ≤ tr.1 + 2 := by
  unfold mSt
  (repeat' split) <;> (try simp only [trP_1]) <;> omega
theorem mDT_1 (k v i x : Int) (tr : TR) : tr.1 ≤ (mDT k v i x tr).2.1 ∧ (mDT k v i x tr).2.1 ≤ tr.1 + 3 := by
  have := mSt_1 k v i x (trP 11 tr)
  rw [trP_1] at this
  unfold mDT
  simp only []
  omega
theorem mLT_1 (k v i x : Int) (tr : TR) : tr.1 ≤ (mLT k v i x tr).2.1 ∧ (mLT k v i x tr).2.1 ≤ tr.1 + 4 := by
  have := mDT_1 k v i x (trP 20 tr)
  rw [trP_1] at this
  unfold mLT
  simp only []
  omega
theorem mTu_1 (k v i x : Int) (tr : TR) : tr.1 ≤ (mTu k v i x tr).2.1 ∧ (mTu k v i x tr).2.1 ≤ tr.1 + 5 := by
  have h1 := mDT_1 k v i x (trP 70 tr)
  have h2 := mLT_1 k v i (x + 1) (trP 51 tr)
  have h3 := mLT_1 k v i x tr
  have h4 := mDT_1 k v i x tr
  rw [trP_1] at h1 h2
  unfold mTu
  (repeat' split) <;> (try simp only [trP_1]) <;> omega
theorem mDE_1 (k v i x : Int) (tr : TR) : tr.1 ≤ (mDE k v i x tr).2.1 ∧ (mDE k v i x tr).2.1 ≤ tr.1 + 6 := by
  have := mTu_1 k v i x (trP 12 tr)
  rw [trP_1] at this
  unfold mDE
  simp only []
  omega
theorem mTe_1 (k v i x : Int) (tr : TR) : tr.1 ≤ (mTe k v i x tr).2.1 ∧ (mTe k v i x tr).2.1 ≤ tr.1 + 12 := by
  have h1 := mDE_1 k v i x (trP 40 tr)
  have h2 := mDE_1 k v i (x - i) (trP 60 tr)
  have h3 := mDE_1 k v i x tr
  have h4 := mTu_1 k v i 1 (mDE k v i x (trP 40 tr)).2
  rw [trP_1] at h1 h2
  unfold mTe
  (repeat' split) <;> (try simp only [trP_1]) <;> omega
theorem actZ_1 (k v i s x : Int) (tr : TR) : tr.1 ≤ (actZ k v i s x tr).2.1 ∧ (actZ k v i s x tr).2.1 ≤ tr.1 + 12 := by
  have h1 := mSt_1 k v i x tr
  have h2 := mTu_1 k v i x tr
  have h3 := mTe_1 k v i x tr
  unfold actZ
  (repeat' split) <;> omega
theorem aR (k v i : Int) (n : Nat) (s fr x : Int) (tr : TR) (h : 0 ≤ s ∧ s ≤ 2 ∧ 0 ≤ fr ∧ fr ≤ 6 ∧ 0 ≤ tr.1 ∧ tr.1 ≤ 1000) : actR k v i (n + 1) s fr x tr = actB (actR k v i n) k v i (bodS fr s) x (trP (bodS fr s) tr) := by
  show (if _ then _ else _) = _
  rw [if_pos h]
theorem aB10 (rec : Int → Int → Int → TR → Option (Int × TR)) (k v i x : Int) (tr : TR) : actB rec k v i 10 x tr = some (x + i, tr) := rfl
theorem aB11 (rec : Int → Int → Int → TR → Option (Int × TR)) (k v i x : Int) (tr : TR) : actB rec k v i 11 x tr = (rec 0 k x tr).map (fun r => (r.1 - v, r.2)) := rfl
theorem aB12 (rec : Int → Int → Int → TR → Option (Int × TR)) (k v i x : Int) (tr : TR) : actB rec k v i 12 x tr = (rec 1 k x tr).map (fun r => (r.1 * 2, r.2)) := rfl
theorem aB20 (rec : Int → Int → Int → TR → Option (Int × TR)) (k v i x : Int) (tr : TR) : actB rec k v i 20 x tr = (rec 1 0 x tr).map (fun r => ((Int32.ofInt r.1 ^^^ Int32.ofInt 6).toInt, r.2)) := rfl
theorem aB30 (rec : Int → Int → Int → TR → Option (Int × TR)) (k v i x : Int) (tr : TR) : actB rec k v i 30 x tr = rec 0 0 (x * 3) tr := rfl
theorem aB40 (rec : Int → Int → Int → TR → Option (Int × TR)) (k v i x : Int) (tr : TR) : actB rec k v i 40 x tr = (rec 2 0 x tr).bind (fun r => (rec 1 k 1 r.2).map (fun q => (r.1 + q.1, q.2))) := rfl
theorem aB50 (rec : Int → Int → Int → TR → Option (Int × TR)) (k v i x : Int) (tr : TR) : actB rec k v i 50 x tr = (rec 0 1 x tr).map (fun r => (-r.1, r.2)) := rfl
theorem aB51 (rec : Int → Int → Int → TR → Option (Int × TR)) (k v i x : Int) (tr : TR) : actB rec k v i 51 x tr = rec 1 1 (x + 1) tr := rfl
theorem aB60 (rec : Int → Int → Int → TR → Option (Int × TR)) (k v i x : Int) (tr : TR) : actB rec k v i 60 x tr = rec 2 2 (x - i) tr := rfl
theorem aB70 (rec : Int → Int → Int → TR → Option (Int × TR)) (k v i x : Int) (tr : TR) : actB rec k v i 70 x tr = (rec 1 3 x tr).bind (fun r => (rec 0 3 2 r.2).map (fun q => (r.1 + q.1, q.2))) := rfl
theorem aB71 (rec : Int → Int → Int → TR → Option (Int × TR)) (k v i x : Int) (tr : TR) : actB rec k v i 71 x tr = (rec 0 3 x tr).map (fun r => ((Int32.ofInt r.1 ^^^ Int32.ofInt v).toInt, r.2)) := rfl
theorem aS0 {k v i : Int} (n : Nat) (fr x : Int) (tr : TR) (hf : fr = 0 ∨ fr = 1 ∨ fr = 3) (ht : 0 ≤ tr.1 ∧ tr.1 ≤ 1000) : actR k v i (n + 1) 0 fr x tr = some (x + i, trP 10 tr) := by
  rw [aR _ _ _ _ _ _ _ _ (by omega)]
  rcases hf with rfl | rfl | rfl <;> exact aB10 ..
theorem aSt {k v i : Int} (n : Nat) (x : Int) (tr : TR) (hk : 0 ≤ k ∧ k ≤ 6) (ht : 0 ≤ tr.1 ∧ tr.1 ≤ 990) : actR k v i (n + 2) 0 k x tr = some (mSt k v i x tr) := by
  have hk2 : k = 0 ∨ k = 1 ∨ k = 2 ∨ k = 3 ∨ k = 4 ∨ k = 5 ∨ k = 6 := by omega
  have t1 := trP_1 30 tr
  have t2 := trP_1 50 tr
  have t3 := trP_1 71 tr
  rw [aR _ _ _ _ _ _ _ _ (by omega)]
  rcases hk2 with rfl | rfl | rfl | rfl | rfl | rfl | rfl
  · exact aB10 ..
  · exact aB10 ..
  · show actB _ _ _ _ 30 _ (trP 30 tr) = _
    rw [aB30, aS0 _ _ _ _ (by omega) (by omega)]
    rfl
  · exact aB10 ..
  · show actB _ _ _ _ 50 _ (trP 50 tr) = _
    rw [aB50, aS0 _ _ _ _ (by omega) (by omega)]
    rfl
  · show actB _ _ _ _ 30 _ (trP 30 tr) = _
    rw [aB30, aS0 _ _ _ _ (by omega) (by omega)]
    rfl
  · show actB _ _ _ _ 71 _ (trP 71 tr) = _
    rw [aB71, aS0 _ _ _ _ (by omega) (by omega)]
    rfl
theorem aDT {k v i : Int} (n : Nat) (fr x : Int) (tr : TR) (hf : fr = 0 ∨ fr = 2 ∨ fr = 3 ∨ fr = 5) (hk : 0 ≤ k ∧ k ≤ 6) (ht : 0 ≤ tr.1 ∧ tr.1 ≤ 980) : actR k v i (n + 3) 1 fr x tr = some (mDT k v i x tr) := by
  have t1 := trP_1 11 tr
  have e : actR k v i (n + 2) 0 k x (trP 11 tr) = _ := aSt n x (trP 11 tr) hk (by omega)
  rw [aR _ _ _ _ _ _ _ _ (by omega)]
  rcases hf with rfl | rfl | rfl | rfl <;> (show actB _ _ _ _ 11 _ (trP 11 tr) = _; rw [aB11, e]; rfl)
theorem aLT {k v i : Int} (n : Nat) (x : Int) (tr : TR) (hk : 0 ≤ k ∧ k ≤ 6) (ht : 0 ≤ tr.1 ∧ tr.1 ≤ 970) : actR k v i (n + 4) 1 1 x tr = some (mLT k v i x tr) := by
  have t1 := trP_1 20 tr
  rw [aR _ _ _ _ _ _ _ _ (by omega)]
  show actB _ _ _ _ 20 _ (trP 20 tr) = _
  rw [aB20, aDT _ _ _ _ (by omega) hk (by omega)]
  rfl
theorem aTu {k v i : Int} (n : Nat) (x : Int) (tr : TR) (hk : 0 ≤ k ∧ k ≤ 6) (ht : 0 ≤ tr.1 ∧ tr.1 ≤ 960) : actR k v i (n + 5) 1 k x tr = some (mTu k v i x tr) := by
  have hk2 : k = 0 ∨ k = 1 ∨ k = 2 ∨ k = 3 ∨ k = 4 ∨ k = 5 ∨ k = 6 := by omega
  have t1 := trP_1 51 tr
  have t2 := trP_1 70 tr
  rcases hk2 with rfl | rfl | rfl | rfl | rfl | rfl | rfl
  · exact aDT _ _ _ _ (by omega) hk (by omega)
  · exact aLT _ _ _ hk (by omega)
  · exact aDT _ _ _ _ (by omega) hk (by omega)
  · exact aDT _ _ _ _ (by omega) hk (by omega)
  · rw [aR _ _ _ _ _ _ _ _ (by omega)]
    show actB _ _ _ _ 51 _ (trP 51 tr) = _
    rw [aB51, aLT _ _ _ hk (by omega)]
    rfl
  · exact aDT _ _ _ _ (by omega) hk (by omega)
  · rw [aR _ _ _ _ _ _ _ _ (by omega)]
    show actB _ _ _ _ 70 _ (trP 70 tr) = _
    have h1 := mDT_1 6 v i x (trP 70 tr)
    rw [aB70, aDT _ _ _ _ (by omega) hk (by omega)]
    show (actR 6 v i (n + 4) 0 3 2 (mDT 6 v i x (trP 70 tr)).2).map _ = _
    rw [aS0 _ _ _ _ (by omega) (by omega)]
    rfl
theorem aDE {k v i : Int} (n : Nat) (fr x : Int) (tr : TR) (hf : fr = 0 ∨ fr = 1 ∨ fr = 2 ∨ fr = 4) (hk : 0 ≤ k ∧ k ≤ 6) (ht : 0 ≤ tr.1 ∧ tr.1 ≤ 950) : actR k v i (n + 6) 2 fr x tr = some (mDE k v i x tr) := by
  have t1 := trP_1 12 tr
  have e : actR k v i (n + 5) 1 k x (trP 12 tr) = _ := aTu n x (trP 12 tr) hk (by omega)
  rw [aR _ _ _ _ _ _ _ _ (by omega)]
  rcases hf with rfl | rfl | rfl | rfl <;> (show actB _ _ _ _ 12 _ (trP 12 tr) = _; rw [aB12, e]; rfl)
theorem aTe {k v i : Int} (n : Nat) (x : Int) (tr : TR) (hk : 0 ≤ k ∧ k ≤ 6) (ht : 0 ≤ tr.1 ∧ tr.1 ≤ 900) : actR k v i (n + 7) 2 k x tr = some (mTe k v i x tr) := by
  have hk2 : k = 0 ∨ k = 1 ∨ k = 2 ∨ k = 3 ∨ k = 4 ∨ k = 5 ∨ k = 6 := by omega
  have t1 := trP_1 40 tr
  have t2 := trP_1 60 tr
  have h1 := mDE_1 k v i x (trP 40 tr)
  rcases hk2 with rfl | rfl | rfl | rfl | rfl | rfl | rfl
  · exact aDE _ _ _ _ (by omega) hk (by omega)
  · exact aDE _ _ _ _ (by omega) hk (by omega)
  · exact aDE _ _ _ _ (by omega) hk (by omega)
  · rw [aR _ _ _ _ _ _ _ _ (by omega)]
    show actB _ _ _ _ 40 _ (trP 40 tr) = _
    rw [aB40, aDE _ _ _ _ (by omega) hk (by omega)]
    show (actR 3 v i (n + 6) 1 3 1 (mDE 3 v i x (trP 40 tr)).2).map _ = _
    rw [aTu _ _ _ hk (by omega)]
    rfl
  · exact aDE _ _ _ _ (by omega) hk (by omega)
  · rw [aR _ _ _ _ _ _ _ _ (by omega)]
    show actB _ _ _ _ 60 _ (trP 60 tr) = _
    rw [aB60, aDE _ _ _ _ (by omega) hk (by omega)]
    rfl
  · rw [aR _ _ _ _ _ _ _ _ (by omega)]
    show actB _ _ _ _ 40 _ (trP 40 tr) = _
    rw [aB40, aDE _ _ _ _ (by omega) hk (by omega)]
    show (actR 6 v i (n + 6) 1 6 1 (mDE 6 v i x (trP 40 tr)).2).map _ = _
    rw [aTu _ _ _ hk (by omega)]
    rfl
theorem actZ_eq {k v i s x : Int} {tr : TR} (hk : 0 ≤ k ∧ k ≤ 6) (hs : 0 ≤ s ∧ s ≤ 2) (ht : 0 ≤ tr.1 ∧ tr.1 ≤ 900) : actR k v i 12 s k x tr = some (actZ k v i s x tr) := by
  have h : s = 0 ∨ s = 1 ∨ s = 2 := by omega
  rcases h with rfl | rfl | rfl
  · exact aSt 10 x tr hk (by omega)
  · exact aTu 7 x tr hk (by omega)
  · exact aTe 5 x tr hk (by omega)
def trZ (Z : ZT) (tr : TR) : ZT := (Z.1, Z.2.1, Z.2.2.1, Z.2.2.2.1, Z.2.2.2.2.1, Z.2.2.2.2.2.1, tr, Z.2.2.2.2.2.2.2)
def nAct (Z : ZT) (d a x : Int) : Int × ZT := if d < 0 ∨ Z.1.1 ≤ d ∨ a < 0 ∨ 2 < a then (0, trZ Z (0, Z.2.2.2.2.2.2.1.2)) else ((actZ (Z.1.2.2.1 d) (Z.1.2.2.2.1 d) d a x (0, Z.2.2.2.2.2.2.1.2)).1, trZ Z (actZ (Z.1.2.2.1 d) (Z.1.2.2.2.1 d) d a x (0, Z.2.2.2.2.2.2.1.2)).2)
