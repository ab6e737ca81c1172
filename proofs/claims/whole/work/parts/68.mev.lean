def mapc (c : Int) : Int := if c = -1 then -33 else if c = -2 then -38 else if c = -3 then -124 else 1000 * (c / 300) + 100 * (c / 100 % 3) + c % 100
def st1L (c : Int) (s : FS) (d : Int) (st : List Bool) : Option (List Bool) := st1M (mapc c) s d st
def evL (co : Int → Int) (s : FS) (d : Int) (n : Nat) (i : Int) (st : List Bool) : Option (List Bool) := evM (fun j => mapc (co j)) s d n i st
theorem mapc_n {c : Int} (h : 0 ≤ c ∧ c ≤ 1799) : mapc c = 1000 * (c / 300) + 100 * (c / 100 % 3) + c % 100 := by
  unfold mapc
  rw [if_neg (by omega), if_neg (by omega), if_neg (by omega)]
theorem mapc_rg {c : Int} (h : -3 ≤ c ∧ c ≤ 1799) : mapc c = -33 ∨ mapc c = -38 ∨ mapc c = -124 ∨ (0 ≤ mapc c ∧ mapc c ≤ 5999) := by
  unfold mapc
  (repeat' split) <;> omega
theorem tst_map {c : Int} (h : 0 ≤ c ∧ c ≤ 1799) (s : FS) (d : Int) : tstM (mapc c) s d = tstC c s d := by
  rw [mapc_n h]
  unfold tstM tstC
  rw [show (1000 * (c / 300) + 100 * (c / 100 % 3) + c % 100) / 100 % 10 = c / 100 % 3 by omega, show (1000 * (c / 300) + 100 * (c / 100 % 3) + c % 100) / 1000 = c / 100 / 3 by omega, show (1000 * (c / 300) + 100 * (c / 100 % 3) + c % 100) % 100 = c % 100 by omega]
theorem evM_shift {sg co : Int → Int} {b : Int} (s : FS) (d : Int) : ∀ (n : Nat) (i : Int) (st : List Bool), (∀ j, i ≤ j ∧ j < i + n → sg (b + j) = mapc (co j)) → evM sg s d n (b + i) st = evL co s d n i st := by
  intro n
  induction n with
  | zero => intro i st h; rfl
  | succ n ih =>
    intro i st h
    unfold evL evM
    rw [h i (by omega)]
    cases st1M (mapc (co i)) s d st with
    | none => rfl
    | some st' =>
      show evM sg s d n (b + i + 1) st' = _
      rw [Int.add_assoc, ih (i + 1) st' (fun j hj => h j (by omega))]
      rfl
theorem evL_cong {co co' : Int → Int} (s : FS) (d : Int) : ∀ (n : Nat) (i : Int) (st : List Bool), (∀ j, i ≤ j ∧ j < i + n → co j = co' j) → evL co s d n i st = evL co' s d n i st := by
  intro n
  induction n with
  | zero => intro i st h; rfl
  | succ n ih =>
    intro i st h
    unfold evL evM
    show (match st1M (mapc (co i)) s d st with | some st' => evM _ s d n (i + 1) st' | none => none) = (match st1M (mapc (co' i)) s d st with | some st' => evM _ s d n (i + 1) st' | none => none)
    rw [h i (by omega)]
    cases st1M (mapc (co' i)) s d st with
    | none => rfl
    | some st' => exact ih (i + 1) st' (fun j hj => h j (by omega))
theorem evM_app (sg : Int → Int) (s : FS) (d : Int) : ∀ (n m : Nat) (i : Int) (st st' : List Bool), evM sg s d n i st = some st' → evM sg s d (n + m) i st = evM sg s d m (i + n) st' := by
  intro n
  induction n with
  | zero =>
    intro m i st st' h
    have e := Option.some.inj h
    subst e
    rw [show (0 + m : Nat) = m by omega, show i + ((0 : Nat) : Int) = i by omega]
  | succ n ih =>
    intro m i st st' h
    obtain ⟨q, h1, h2⟩ := ev_s h
    rw [show n + 1 + m = (n + m) + 1 by omega]
    show (match st1M (sg i) s d st with | some st' => evM sg s d (n + m) (i + 1) st' | none => none) = _
    rw [h1]
    show evM sg s d (n + m) (i + 1) q = _
    rw [ih m (i + 1) q st' h2, show i + 1 + (n : Int) = i + ((n + 1 : Nat) : Int) by omega]
/-! bits -/
def BR (h : Int64) : Nat → List Bool → Prop
  | _, [] => True
  | j, v :: r => h.toBitVec.getLsbD j = v ∧ BR h (j + 1) r
theorem BR_at {h : Int64} : ∀ (st : List Bool) (j k : Nat), BR h j st → k < st.length → h.toBitVec.getLsbD (j + k) = st.getD k false := by
  intro st
  induction st with
  | nil => intro j k _ hk; simp at hk
  | cons v r ih =>
    intro j k hb hk
    match k, hk with
    | 0, _ => exact hb.1
    | k + 1, hk =>
      have := ih (j + 1) k hb.2 (by simpa using hk)
      rw [show j + (k + 1) = j + 1 + k by omega, this]
      rfl
theorem BR_of {h : Int64} : ∀ (st : List Bool) (j : Nat), (∀ k, k < st.length → h.toBitVec.getLsbD (j + k) = st.getD k false) → BR h j st := by
  intro st
  induction st with
  | nil => intro j _; trivial
  | cons v r ih =>
    intro j hk
    refine ⟨hk 0 (by simp), ih (j + 1) (fun k h1 => ?_)⟩
    have := hk (k + 1) (by simpa using h1)
    rw [show j + 1 + k = j + (k + 1) by omega, this]
    rfl
theorem b_xor (h : Int64) (j : Nat) : (h ^^^ Int64.ofInt 1).toBitVec.getLsbD j = (h.toBitVec.getLsbD j ^^ decide (j = 0)) := by
  rw [Int64.toBitVec_xor, BitVec.getLsbD_xor]
  congr 1
  show (1#64).getLsbD j = _
  rw [BitVec.getLsbD_one]
  simp
theorem shr1_bv (h : Int64) : (shr1 h).toBitVec = h.toBitVec >>> 1 := rfl
theorem b_shr (h : Int64) (j : Nat) : (shr1 h).toBitVec.getLsbD j = h.toBitVec.getLsbD (j + 1) := by
  rw [shr1_bv, BitVec.getLsbD_ushiftRight, Nat.add_comm]
theorem b_and (h : Int64) (j : Nat) (hj : j < 64) : (shr1 h &&& (h ||| Int64.ofInt (-2))).toBitVec.getLsbD j = (h.toBitVec.getLsbD (j + 1) && (h.toBitVec.getLsbD j || decide (j ≠ 0))) := by
  rw [Int64.toBitVec_and, BitVec.getLsbD_and, b_shr, Int64.toBitVec_or, BitVec.getLsbD_or]
  congr 2
  have e : ∀ n : Fin 64, (Int64.ofInt (-2)).toBitVec.getLsbD n.1 = decide (n.1 ≠ 0) := by decide +kernel
  exact e ⟨j, hj⟩
theorem b_or (h : Int64) (j : Nat) : (shr1 h ||| (h &&& Int64.ofInt 1)).toBitVec.getLsbD j = (h.toBitVec.getLsbD (j + 1) || (h.toBitVec.getLsbD j && decide (j = 0))) := by
  rw [Int64.toBitVec_or, BitVec.getLsbD_or, b_shr, Int64.toBitVec_and, BitVec.getLsbD_and]
  congr 2
  show (1#64).getLsbD j = _
  rw [BitVec.getLsbD_one]
  simp
theorem shl1_bv (h : Int64) (b : Int64) : ((h <<< ((Int32.ofInt 1).toInt64 &&& 63)) ||| b).toBitVec = (h.toBitVec <<< 1) ||| b.toBitVec := rfl
theorem b_push (h : Int64) (v : Bool) (j : Nat) (hj : j < 64) : ((h <<< ((Int32.ofInt 1).toInt64 &&& 63)) ||| Int64.ofInt (b2i v)).toBitVec.getLsbD j = if j = 0 then v else h.toBitVec.getLsbD (j - 1) := by
  rw [shl1_bv, BitVec.getLsbD_or, BitVec.getLsbD_shiftLeft]
  have e : (Int64.ofInt (b2i v)).toBitVec.getLsbD j = (v && decide (j = 0)) := by
    cases v
    · show (0#64).getLsbD j = _
      simp
    · show (1#64).getLsbD j = _
      rw [BitVec.getLsbD_one]
      simp
  rw [e]
  by_cases h0 : j = 0
  · subst h0
    simp
  · rw [if_neg h0]
    simp [h0, hj]
theorem hld_st {c : Int} {s : FS} {d : Int} {h : Int64} {st st' : List Bool} (hc : -3 ≤ c ∧ c ≤ 1799) (hb : BR h 0 st) (hl : st.length ≤ 60) (he : st1L c s d st = some st') : BR (hldC c s d h) 0 st' ∧ st'.length ≤ 60 := by
  unfold st1L at he
  have hbk := fun k hk => BR_at st 0 k hb hk
  unfold hldC
  by_cases c1 : c = -1
  · rw [if_pos c1]
    have em : mapc c = -33 := by unfold mapc; rw [if_pos c1]
    obtain ⟨a, q, rfl, rfl⟩ := st1_n em he
    refine ⟨BR_of _ 0 (fun k hk => ?_), by simpa using hl⟩
    rw [Nat.zero_add, b_xor]
    have h5 := hbk k (by simpa using hk)
    rw [Nat.zero_add] at h5
    rw [h5]
    match k with
    | 0 => simp
    | k + 1 => simp
  · rw [if_neg c1]
    by_cases c2 : c = -2
    · rw [if_pos c2]
      have em : mapc c = -38 := by unfold mapc; rw [if_neg c1, if_pos c2]
      obtain ⟨b, a, q, rfl, rfl⟩ := st1_b (Or.inl em) he
      rw [if_pos em]
      have hl2 : (b :: a :: q).length = q.length + 2 := rfl
      refine ⟨BR_of _ 0 (fun k hk => ?_), by simp at hl ⊢; omega⟩
      have hk2 : k < q.length + 1 := by simpa using hk
      rw [Nat.zero_add, b_and _ _ (by omega)]
      have h5 := hbk k (by omega)
      have h6 := hbk (k + 1) (by omega)
      rw [Nat.zero_add] at h5 h6
      rw [h5, h6]
      match k with
      | 0 => simp
      | k + 1 => simp
    · rw [if_neg c2]
      by_cases c3 : c = -3
      · rw [if_pos c3]
        have em : mapc c = -124 := by unfold mapc; rw [if_neg c1, if_neg c2, if_pos c3]
        obtain ⟨b, a, q, rfl, rfl⟩ := st1_b (Or.inr em) he
        rw [if_neg (by omega)]
        have hl2 : (b :: a :: q).length = q.length + 2 := rfl
        refine ⟨BR_of _ 0 (fun k hk => ?_), by simp at hl ⊢; omega⟩
        have hk2 : k < q.length + 1 := by simpa using hk
        rw [Nat.zero_add, b_or]
        have h5 := hbk k (by omega)
        have h6 := hbk (k + 1) (by omega)
        rw [Nat.zero_add] at h5 h6
        rw [h5, h6]
        match k with
        | 0 => simp
        | k + 1 => simp
      · rw [if_neg c3]
        have hm := mapc_n (c := c) (by omega)
        obtain ⟨hl6, rfl⟩ := st1_p (by omega) he
        rw [tst_map (by omega)]
        refine ⟨BR_of _ 0 (fun k hk => ?_), by simp; omega⟩
        have hk2 : k < st.length + 1 := by simpa using hk
        rw [Nat.zero_add, b_push _ _ _ (by omega)]
        match k with
        | 0 => simp
        | k + 1 =>
          rw [if_neg (by omega)]
          have h5 := hbk k (by omega)
          rw [Nat.zero_add] at h5
          rw [Nat.add_sub_cancel, h5]
          simp
theorem ev_bits {co : Int → Int} {s : FS} {d : Int} : ∀ (n : Nat) (i : Int) (h : Int64) (st st' : List Bool), (∀ j, i ≤ j ∧ j < i + n → -3 ≤ co j ∧ co j ≤ 1799) → BR h 0 st → st.length ≤ 60 → evL co s d n i st = some st' → BR (evC co s d n i h) 0 st' := by
  intro n
  induction n with
  | zero =>
    intro i h st st' hc hb hl he
    have e := Option.some.inj he
    subst e
    exact hb
  | succ n ih =>
    intro i h st st' hc hb hl he
    obtain ⟨q, h1, h2⟩ := ev_s he
    obtain ⟨h3, h4⟩ := hld_st (hc i (by omega)) hb hl h1
    unfold evC
    exact ih (i + 1) _ q st' (fun j hj => hc j (by omega)) h3 h4 h2
theorem bit0 {h : Int64} {v : Bool} (hb : h.toBitVec.getLsbD 0 = v) : decide (h &&& Int64.ofInt 1 = Int64.ofInt 1) = v := by
  have e : (h &&& Int64.ofInt 1 = Int64.ofInt 1) ↔ h.toBitVec.getLsbD 0 = true := by
    rw [← Int64.toBitVec_inj]
    rw [Int64.toBitVec_and]
    show h.toBitVec &&& 1#64 = 1#64 ↔ _
    constructor
    · intro h5
      have h6 := congrArg (fun b : BitVec 64 => b.getLsbD 0) h5
      simpa using h6
    · intro h5
      apply BitVec.eq_of_getLsbD_eq
      intro i hi
      rw [BitVec.getLsbD_and, BitVec.getLsbD_one]
      by_cases h0 : i = 0
      · subst h0; simp [h5]
      · simp [h0]
  cases v
  · rw [decide_eq_false_iff_not, e, hb]; decide
  · rw [decide_eq_true_eq, e, hb]
theorem hol_ev {co : Int → Int} {s : FS} {d fr to : Int} {v : Bool} (hc : ∀ j, fr ≤ j ∧ j < to → -3 ≤ co j ∧ co j ≤ 1799) (h : evL co s d (to - fr).toNat fr [] = some [v]) : holC co s d fr to = v := by
  unfold holC
  have hb := ev_bits (to - fr).toNat fr (Int64.ofInt 0) [] [v] (fun j hj => hc j (by omega)) trivial (by simp) h
  exact bit0 hb.1
