/-! what the floor does, in whole numbers -/
abbrev FS : Type := Int × Int × (Int → Int) × (Int → Int) × (Int → Int) × (Int → Int) × (Int → Int)
abbrev HS : Type := Int × Int × (FS → Int → Int)
def envS (s : FS) (d l : Int) : Int := if l = 0 then d else if l = 1 then s.2.2.1 d else if l = 2 then s.2.2.2.1 d else if l = 3 then s.2.2.2.2.2.1 (8 * d) else if l = 4 then s.2.2.2.2.1 d else s.2.1 % 10
/-- a comparison: 0 below, 1 same, else above -/
def cmpB (m : Int) (x y : Int) : Bool := if m = 0 then decide (x < y) else if m = 1 then decide (x = y) else decide (y < x)
/-- a test of the class's codes -/
def tstC (c : Int) (s : FS) (d : Int) : Bool := cmpB (c / 100 % 3) (envS s d (c / 100 / 3)) (c % 100)
def b2i (b : Bool) : Int := if b then 1 else 0
def shr1 (h : Int64) : Int64 := (h.toUInt64 >>> ((Int32.ofInt 1).toInt64.toUInt64 &&& Int64.toUInt64 63)).toInt64
def hldC (c : Int) (s : FS) (d : Int) (h : Int64) : Int64 :=
  if c = -1 then h ^^^ Int64.ofInt 1 else if c = -2 then shr1 h &&& (h ||| Int64.ofInt (-2))
  else if c = -3 then shr1 h ||| (h &&& Int64.ofInt 1)
  else (h <<< ((Int32.ofInt 1).toInt64 &&& 63)) ||| Int64.ofInt (b2i (tstC c s d))
def evC (co : Int → Int) (s : FS) (d : Int) : Nat → Int → Int64 → Int64
  | 0, _, h => h
  | n + 1, i, h => evC co s d n (i + 1) (hldC (co i) s d h)
def holC (co : Int → Int) (s : FS) (d fr to : Int) : Bool := decide (evC co s d (to - fr).toNat fr (Int64.ofInt 0) &&& Int64.ofInt 1 = Int64.ofInt 1)
def stC (am en co : Int → Int) (s : FS) (d : Int) : Nat → Int → Int → Int → Int
  | 0, _, _, sum => sum
  | n + 1, i, fr, sum => stC am en co s d n (i + 1) (en i) (if holC co s d fr (en i) then sum + am i else sum)
/-- the class's STEP at the hall that lies at place h -/
def stepC (V : MM) (h : Nat) (s : FS) (d : Int) : Int := stC (V (h + 1)) (V (h + 2)) (V (h + 3)) s d (V h 2).toNat 0 0 0
/-- the class's hall as a memory holds it -/
def HInv (V : MM) (h : Nat) : Prop := isH h ∧ (1 ≤ V h 0 ∧ V h 0 ≤ 99) ∧ (0 ≤ V h 1 ∧ V h 1 ≤ 99) ∧ (0 ≤ V h 2 ∧ V h 2 ≤ 10) ∧ (∀ i, 0 ≤ i ∧ i < V h 2 → (-99 ≤ V (h + 1) i ∧ V (h + 1) i ≤ 99) ∧ (0 ≤ V (h + 2) i ∧ V (h + 2) i ≤ 100)) ∧ (∀ i, 0 ≤ i ∧ i < 100 → -3 ≤ V (h + 3) i ∧ V (h + 3) i ≤ 1799)
/-- the hall at h means hs -/
def HlC (V : MM) (h : Nat) (hs : HS) : Prop := HInv V h ∧ hs = (V h 0, V h 1, stepC V h)
abbrev fsC (V : MM) (f : Nat) : FS := (V f 0, V f 1, V (f + 1), V (f + 2), V (f + 3), V (f + 4), V (f + 5))
theorem fsC_1 (V : MM) (f : Nat) : (fsC V f).1 = V f 0 := rfl
theorem fsC_2 (V : MM) (f : Nat) : (fsC V f).2.1 = V f 1 := rfl
theorem fsC_3 (V : MM) (f : Nat) : (fsC V f).2.2.1 = V (f + 1) := rfl
theorem fsC_4 (V : MM) (f : Nat) : (fsC V f).2.2.2.1 = V (f + 2) := rfl
theorem fsC_5 (V : MM) (f : Nat) : (fsC V f).2.2.2.2.1 = V (f + 3) := rfl
theorem fsC_6 (V : MM) (f : Nat) : (fsC V f).2.2.2.2.2.1 = V (f + 4) := rfl
theorem fsC_7 (V : MM) (f : Nat) : (fsC V f).2.2.2.2.2.2 = V (f + 5) := rfl
/-- a floor that is as it must be, for places below w -/
def FInv (w : Int) (s : FS) : Prop := (0 ≤ s.1 ∧ s.1 ≤ 6) ∧ (0 ≤ s.2.1 ∧ s.2.1 ≤ 20000) ∧ (∀ d, 0 ≤ d ∧ d < 6 → (0 ≤ s.2.2.1 d ∧ s.2.2.1 d ≤ 6) ∧ (0 ≤ s.2.2.2.1 d ∧ s.2.2.2.1 d ≤ 9)) ∧ (∀ d, 0 ≤ d ∧ d < s.1 → 0 ≤ s.2.2.2.2.1 d ∧ s.2.2.2.2.1 d < s.1) ∧ (∀ i, 0 ≤ i ∧ i < 48 → 0 ≤ s.2.2.2.2.2.1 i ∧ s.2.2.2.2.2.1 i < w) ∧ (∀ i, 0 ≤ i ∧ i < 24 → 0 ≤ s.2.2.2.2.2.2 i ∧ s.2.2.2.2.2.2 i ≤ 9)
/-- the floor at f of the memory V is s; its hall means hs -/
def FlC (V : MM) (f : Nat) (hs : HS) (s : FS) : Prop := isF f ∧ s = fsC V f ∧ HlC V (V f 2).toNat hs ∧ 0 ≤ V f 2 ∧ FInv hs.1 s
/-- where one would go that is lazy; that mirrors -/
def lzS (hs : HS) (s : FS) (d : Int) : Int := if s.2.1 % (s.2.2.2.1 d + 2) = 0 then s.2.2.2.2.2.1 (8 * d) else s.2.2.2.2.2.1 (8 * s.2.2.2.2.1 d + 2) + hs.2.2 s d
def miS (hs : HS) (s : FS) (d : Int) : Int := hs.1 - 1 - s.2.2.2.2.2.1 (8 * s.2.2.2.2.1 d + 2) + hs.2.2 s d
def goesS (hs : HS) (s : FS) (d : Int) : Int :=
  if s.2.2.1 d = 1 then (s.2.2.2.2.2.1 (8 * s.2.2.2.2.1 d + 3) + hs.2.2 s d) % hs.1
  else if s.2.2.1 d = 2 then miS hs s d % hs.1
  else if s.2.2.1 d = 3 then lzS hs s d % hs.1
  else if s.2.2.1 d = 4 then (s.2.2.2.2.2.1 (8 * d) + (s.2.2.2.2.2.1 (8 * s.2.2.2.2.1 d + 3) + hs.2.2 s d - s.2.2.2.2.2.1 (8 * d)) % hs.1 / 2) % hs.1
  else if s.2.2.1 d = 5 then (miS hs s d + s.2.1 % 3) % hs.1
  else if s.2.2.1 d = 6 then (lzS hs s d + s.2.2.2.2.2.2 (4 * d + s.2.1 % 4)) % hs.1
  else (s.2.2.2.2.2.1 (8 * s.2.2.2.2.1 d + 2) + hs.2.2 s d) % hs.1
/-- does the band stop behind this beat -/
def stopS (hs : HS) (s : FS) : Bool := decide (0 < hs.2.1) && decide ((s.2.1 + 1) % hs.2.1 = 0)
/-- where each is behind the next beat -/
def wasS (hs : HS) (stop : Bool) (s : FS) : Int → Int := fun i => if 0 ≤ i ∧ i < 8 * s.1 then (if i % 8 = 0 then (if stop || stopS hs s then s.2.2.2.2.2.1 i else goesS hs s (i / 8)) else s.2.2.2.2.2.1 (i - 1)) else s.2.2.2.2.2.1 i
def goS (hs : HS) (stop : Bool) (s : FS) : FS := (s.1, s.2.1 + 1, s.2.2.1, s.2.2.2.1, s.2.2.2.2.1, wasS hs stop s, s.2.2.2.2.2.2)
/-- all is as it was but from f on w places -/
def Sm (V V' : MM) (f w : Nat) : Prop := ∀ k : Nat, k < f ∨ f + w ≤ k → V' k = V k
/-- all of a row from 8d on, b places, are p -/
def layS (wa : Int → Int) (d p b : Int) : Int → Int := fun i => if 8 * d ≤ i ∧ i < 8 * d + b then p else wa i
theorem layS_0 (wa : Int → Int) (d p : Int) : layS wa d p 0 = wa := by
  funext i
  unfold layS
  rw [if_neg (by omega)]
theorem layS_1 (wa : Int → Int) {d p b j : Int} (hb : 0 ≤ b) (hj : j = 8 * d + b) : ur (layS wa d p b) j p = layS wa d p (b + 1) := by
  funext i
  subst hj
  unfold ur layS
  by_cases h1 : i = 8 * d + b
  · rw [if_pos h1, if_pos (by omega)]
  · rw [if_neg h1]
    by_cases h2 : 8 * d ≤ i ∧ i < 8 * d + b
    · rw [if_pos h2, if_pos (by omega)]
    · rw [if_neg h2, if_neg (by omega)]
theorem FlC.facts {V : MM} {f : Nat} {hs : HS} {s : FS} (h : FlC V f hs s) : isF f ∧ s = fsC V f ∧ (0 ≤ V f 0 ∧ V f 0 ≤ 6) ∧ (0 ≤ V f 1 ∧ V f 1 ≤ 20000) ∧ (∀ d, 0 ≤ d ∧ d < 6 → (0 ≤ V (f + 1) d ∧ V (f + 1) d ≤ 6) ∧ (0 ≤ V (f + 2) d ∧ V (f + 2) d ≤ 9)) ∧ (∀ d, 0 ≤ d ∧ d < V f 0 → 0 ≤ V (f + 3) d ∧ V (f + 3) d < V f 0) ∧ (∀ i, 0 ≤ i ∧ i < 48 → 0 ≤ V (f + 4) i ∧ V (f + 4) i < V (V f 2).toNat 0) ∧ (∀ i, 0 ≤ i ∧ i < 24 → 0 ≤ V (f + 5) i ∧ V (f + 5) i ≤ 9) ∧ HInv V (V f 2).toNat ∧ 0 ≤ V f 2 ∧ hs = (V (V f 2).toNat 0, V (V f 2).toNat 1, stepC V (V f 2).toNat) := by
  obtain ⟨h1, rfl, ⟨h3, rfl⟩, h4, h5, h6, h7, h8, h9, h10⟩ := h
  exact ⟨h1, rfl, h5, h6, h7, h8, h9, h10, h3, h4, rfl⟩
theorem env_rg {w : Int} {s : FS} {d : Int} (l : Int) (h : FInv w s) (hw : w ≤ 99) (hd : 0 ≤ d ∧ d < s.1) : 0 ≤ envS s d l ∧ envS s d l ≤ 99 := by
  obtain ⟨h1, h2, h3, h4, h5, h6⟩ := h
  have a1 := h3 d (by omega)
  have a2 := h4 d hd
  have a3 := h5 (8 * d) (by omega)
  have a4 := Int.emod_nonneg s.2.1 (show (10 : Int) ≠ 0 by omega)
  have a5 := Int.emod_lt_of_pos s.2.1 (show (0 : Int) < 10 by omega)
  unfold envS
  repeat' split
  all_goals omega
theorem st_rg (am en co : Int → Int) (s : FS) (d : Int) (N : Int) (h : ∀ i, 0 ≤ i ∧ i < N → -99 ≤ am i ∧ am i ≤ 99) : ∀ (n : Nat) (i fr sum : Int), 0 ≤ i → i + n = N → (-99 * i ≤ sum ∧ sum ≤ 99 * i) → -99 * N ≤ stC am en co s d n i fr sum ∧ stC am en co s d n i fr sum ≤ 99 * N := by
  intro n
  induction n with
  | zero => intro i fr sum h0 h1 h2; unfold stC; simp at h1; subst h1; exact h2
  | succ n ih =>
    intro i fr sum h0 h1 h2
    unfold stC
    have h3 := h i (by omega)
    refine ih (i + 1) (en i) _ (by omega) (by omega) ?_
    split <;> omega
theorem step_rg {V : MM} {h : Nat} (hH : HInv V h) (s : FS) (d : Int) : -990 ≤ stepC V h s d ∧ stepC V h s d ≤ 990 := by
  obtain ⟨-, -, -, hn, ha, -⟩ := hH
  have := st_rg (V (h + 1)) (V (h + 2)) (V (h + 3)) s d (V h 2) (fun i hi => (ha i hi).1) (V h 2).toNat 0 0 0 (by omega) (by omega) (by omega)
  unfold stepC
  omega
theorem stepC_cong {V V' : MM} {h : Nat} (hh : isH h) (h2 : ∀ k : Nat, 43 ≤ k → k < 71 → V' k = V k) : stepC V' h = stepC V h := by
  have hb : 43 ≤ h ∧ h ≤ 67 := by unfold isH at hh; omega
  funext s d
  unfold stepC
  rw [h2 h (by omega) (by omega), h2 (h + 1) (by omega) (by omega), h2 (h + 2) (by omega) (by omega), h2 (h + 3) (by omega) (by omega)]
theorem HInv_cong {V V' : MM} {h : Nat} (hH : HInv V h) (h2 : ∀ k : Nat, 43 ≤ k → k < 71 → V' k = V k) : HInv V' h := by
  have hh := hH.1
  have hb : 43 ≤ h ∧ h ≤ 67 := by unfold isH at hh; omega
  unfold HInv
  rw [h2 h (by omega) (by omega), h2 (h + 1) (by omega) (by omega), h2 (h + 2) (by omega) (by omega), h2 (h + 3) (by omega) (by omega)]
  exact hH
theorem HlC_cong {V V' : MM} {h : Nat} {hs : HS} (hH : HlC V h hs) (h2 : ∀ k : Nat, 43 ≤ k → k < 71 → V' k = V k) : HlC V' h hs := by
  have hh := hH.1.1
  have hb : 43 ≤ h ∧ h ≤ 67 := by unfold isH at hh; omega
  refine ⟨HInv_cong hH.1 h2, ?_⟩
  rw [stepC_cong hh h2, h2 h (by omega) (by omega)]
  exact hH.2
theorem isF_b {f : Nat} (h : isF f) : 8 ≤ f ∧ f + 7 ≤ 29 := by unfold isF at h; omega
theorem FlC.cong {V V' : MM} {f : Nat} {hs : HS} {s : FS} (h : FlC V f hs s) (h1 : ∀ k : Nat, f ≤ k → k < f + 6 → V' k = V k) (h2 : ∀ k : Nat, 43 ≤ k → k < 71 → V' k = V k) : FlC V' f hs s := by
  obtain ⟨hf, rfl, hH, h0, hI⟩ := h
  have e0 := h1 f (by omega) (by omega)
  have e : fsC V' f = fsC V f := by
    show (V' f 0, V' f 1, V' (f + 1), V' (f + 2), V' (f + 3), V' (f + 4), V' (f + 5)) = _
    rw [e0, h1 (f + 1) (by omega) (by omega), h1 (f + 2) (by omega) (by omega), h1 (f + 3) (by omega) (by omega), h1 (f + 4) (by omega) (by omega), h1 (f + 5) (by omega) (by omega)]
  refine ⟨hf, e.symm, ?_, by rw [e0]; exact h0, hI⟩
  rw [e0]
  exact HlC_cong hH h2
theorem goes_rg {hs : HS} (s : FS) (d : Int) (hw : 1 ≤ hs.1) : 0 ≤ goesS hs s d ∧ goesS hs s d < hs.1 := by
  unfold goesS
  repeat' split
  all_goals exact ⟨Int.emod_nonneg _ (by omega), Int.emod_lt_of_pos _ (by omega)⟩
def nxS (hs : HS) (stop : Bool) (s : FS) (d : Int) : Int := if stop || stopS hs s then s.2.2.2.2.2.1 (8 * d) else goesS hs s d
theorem nx_rg {hs : HS} {s : FS} (stop : Bool) (hI : FInv hs.1 s) (hw : 1 ≤ hs.1) {d : Int} (hd : 0 ≤ d ∧ d < s.1) : 0 ≤ nxS hs stop s d ∧ nxS hs stop s d < hs.1 := by
  unfold nxS
  split
  · exact hI.2.2.2.2.1 (8 * d) (by have := hI.1; omega)
  · exact goes_rg s d hw
theorem was_in {hs : HS} {s : FS} (stop : Bool) (i : Int) : wasS hs stop s i = if 0 ≤ i ∧ i < 8 * s.1 then (if i % 8 = 0 then nxS hs stop s (i / 8) else s.2.2.2.2.2.1 (i - 1)) else s.2.2.2.2.2.1 i := by
  unfold wasS nxS
  by_cases h : 0 ≤ i ∧ i < 8 * s.1
  · rw [if_pos h, if_pos h]
    by_cases h2 : i % 8 = 0
    · rw [if_pos h2, if_pos h2]
      have e : 8 * (i / 8) = i := by omega
      rw [e]
    · rw [if_neg h2, if_neg h2]
  · rw [if_neg h, if_neg h]
theorem go_inv {hs : HS} {s : FS} (stop : Bool) (hI : FInv hs.1 s) (hw : 1 ≤ hs.1) (hb : s.2.1 < 20000) : FInv hs.1 (goS hs stop s) := by
  obtain ⟨h1, h2, h3, h4, h5, h6⟩ := id hI
  refine ⟨h1, ?_, h3, h4, fun i hi => ?_, h6⟩
  · show 0 ≤ s.2.1 + 1 ∧ s.2.1 + 1 ≤ 20000
    omega
  · show 0 ≤ wasS hs stop s i ∧ wasS hs stop s i < hs.1
    rw [was_in]
    split
    · split
      · exact nx_rg stop hI hw (by omega)
      · exact h5 (i - 1) (by omega)
    · exact h5 i hi
theorem stop_j {hs : HS} {s : FS} : stopS hs s = true ↔ (0 < hs.2.1 ∧ (s.2.1 + 1) % hs.2.1 = 0) := by simp [stopS]
