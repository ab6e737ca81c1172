theorem c_coder {g : GC} {V : MM} {i : Nat} (hi : i < 6) : Ct g mJ0_coder_7d493 1 [vr (200 + i)] V (RE V (0)) := by
  refine Ct.of (ls := [some (vr (200 + i))]) (plainFor_of_name (by decide +kernel)) rfl (by exact Nat.le_of_ble_eq_true rfl) (fun X hz hD => ?_)
  refine S_gets (v := vi 1) qJ0_coder_7d493_0 sJ0_38 (fun g2 U H h => h.1.2.1) ?_
  refine S_if_eq (d := qJ0_coder_7d493_3) (kt := fun c => absurd c (by decide)) (kf := fun _ => ?_)
  refine S_al0 qJ0_coder_7d493_6 ?_
  refine S_strC qJ0_coder_7d493_7 fJ0_15 hi ?_
  refine S_goto qJ0_coder_7d493_10 ?_
  refine S_bret hz qJ0_coder_7d493_14 (by rfl) ?_
  exact ⟨rfl, rfl⟩

theorem c_latin {g : GC} {V : MM} {i : Nat} (hi : i < 6) : Ct g mJ0_isLatin1_aae02 1 [vr (200 + i)] V (RE V (1)) := by
  refine Ct.of (ls := [some (vr (200 + i))]) (plainFor_of_name (by decide +kernel)) rfl (by exact Nat.le_of_ble_eq_true rfl) (fun X hz hD => ?_)
  refine S_gets (v := vi 1) qJ0_isLatin1_aae02_0 sJ0_38 (fun g2 U H h => h.1.2.1) ?_
  refine S_if_eq (d := qJ0_isLatin1_aae02_3) (kt := fun c => absurd c (by decide)) (kf := fun _ => ?_)
  refine S_al0 qJ0_isLatin1_aae02_6 ?_
  refine S_strC qJ0_isLatin1_aae02_7 fJ0_15 hi ?_
  refine S_if_ne (d := qJ0_isLatin1_aae02_10) (kt := fun c => absurd c (by decide)) (kf := fun _ => ?_)
  refine S_iconst qJ0_isLatin1_aae02_13 ?_
  refine S_goto qJ0_isLatin1_aae02_14 ?_
  refine S_zret hz qJ0_isLatin1_aae02_18 (by omega) ?_
  exact ⟨rfl, rfl⟩

theorem shr_0 {n : Int} (h : -2147483648 ≤ n ∧ n ≤ 2147483647) : (Int32.ofInt n >>> (Int32.ofInt 0 &&& 31)).toInt = n := by
  have e : Int32.ofInt n >>> (Int32.ofInt 0 &&& 31) = Int32.ofInt n := by
    have e2 : Int32.ofInt 0 &&& 31 = 0 := by decide
    rw [e2]
    exact Int32.shiftRight_zero
  rw [e, io_toInt h]

theorem c_slen {g : GC} {V : MM} {i : Nat} (hi : i < 6) : Ct g mJ0_length_8abf5 2 [vr (200 + i)] V (RE V ((lnS i : Int))) := by
  refine Ct.of (ls := [some (vr (200 + i))]) (plainFor_of_name (by decide +kernel)) rfl (by exact Nat.le_of_ble_eq_true rfl) (fun X hz hD => ?_)
  have hl := ln_rg hi
  refine S_al0 qJ0_length_8abf5_0 ?_
  refine S_strV qJ0_length_8abf5_1 fJ0_9 hi ?_
  refine S_tlen qJ0_length_8abf5_4 (fun g2 U H h => ro_str i hi h) ?_
  refine S_al0 qJ0_length_8abf5_5 ?_
  refine S_V0E hD qJ0_length_8abf5_6 lJ0_335 vJ0_coder_7d493 (rS hi) (c_coder hi) (K := ?_)
  refine S_ishr qJ0_length_8abf5_9 ?_
  refine S_iret hz qJ0_length_8abf5_10 ?_
  exact RE.mk (shr_0 (by show -2147483648 ≤ (lnS i : Int) ∧ (lnS i : Int) ≤ 2147483647; omega))

theorem c_bcharAt {g : GC} {V : MM} {i : Nat} {j : Int} (hi : i < 6) (hj : 0 ≤ j ∧ j < (lnS i : Int)) : Ct g mJ1_charAt_3b067 4 [vr (210 + i), vi j] V (RE V (byS i j)) := by
  refine Ct.of (ls := [some (vr (210 + i)), some (vi j)]) (plainFor_of_name (by decide +kernel)) rfl (by exact Nat.le_of_ble_eq_true rfl) (fun X hz hD => ?_)
  have hl := ln_rg hi
  have hl2 : 3 ≤ roLen.getD i 0 ∧ roLen.getD i 0 ≤ 6 := hl
  have hj2 : 0 ≤ j ∧ j < (roLen.getD i 0 : Int) := hj
  have hb := by_rg hi hj
  refine S_il1 qJ1_charAt_3b067_0 ?_
  refine S_al0 qJ1_charAt_3b067_1 ?_
  refine S_tlen qJ1_charAt_3b067_2 (fun g2 U H h => ro_str i hi h) ?_
  refine S_S2W hD qJ1_charAt_3b067_3 lJ1_9 sJ0_checkIndex_df160 (c_checkIndex (by omega) (by omega)) (K := ?_)
  refine S_al0 qJ1_charAt_3b067_6 ?_
  refine S_il1 qJ1_charAt_3b067_7 ?_
  refine S_tbld qJ1_charAt_3b067_8 (fun g2 U H h => ro_str i hi h) (by omega) (by_z i _) ?_
  refine S_sipush (d := qJ1_charAt_3b067_9) (k := ?_)
  refine S_iand qJ1_charAt_3b067_12 ?_
  refine S_i2c qJ1_charAt_3b067_13 ?_
  refine S_cret hz qJ1_charAt_3b067_14 ?_ ?_
  · rw [i2c_rg (by omega)]; exact nar_c (by omega)
  exact RE.mk (i2c_rg (by omega))

theorem c_charAt {g : GC} {V : MM} {i : Nat} {j : Int} (hi : i < 6) (hj : 0 ≤ j ∧ j < (lnS i : Int)) : Ct g mJ0_charAt_5068e 5 [vr (200 + i), vi j] V (RE V (byS i j)) := by
  refine Ct.of (ls := [some (vr (200 + i)), some (vi j)]) (plainFor_of_name (by decide +kernel)) rfl (by exact Nat.le_of_ble_eq_true rfl) (fun X hz hD => ?_)
  have hl := ln_rg hi
  have hl2 : 3 ≤ roLen.getD i 0 ∧ roLen.getD i 0 ≤ 6 := hl
  have hj2 : 0 ≤ j ∧ j < (roLen.getD i 0 : Int) := hj
  have hb := by_rg hi hj
  refine S_al0 qJ0_charAt_5068e_0 ?_
  refine S_V0E hD qJ0_charAt_5068e_1 lJ0_492 vJ0_isLatin1_aae02 (rS hi) (c_latin hi) (K := ?_)
  refine S_if_eq (d := qJ0_charAt_5068e_4) (kt := fun c4 => ?_) (kf := fun c4 => ?_)
  · omega
  refine S_al0 qJ0_charAt_5068e_7 ?_
  refine S_strV qJ0_charAt_5068e_8 fJ0_9 hi ?_
  refine S_il1 qJ0_charAt_5068e_11 ?_
  refine S_S2E hD qJ0_charAt_5068e_12 lJ0_495 sJ1_charAt_3b067 (c_bcharAt hi hj) (K := ?_)
  refine S_cret hz qJ0_charAt_5068e_15 ?_ ?_
  · exact nar_c (by omega)
  exact ⟨rfl, rfl⟩

theorem c_canEncode {g : GC} {V : MM} {c : Int} (hc : 0 ≤ c ∧ c ≤ 255) : Ct g mJ1_canEncode_9a6ad 1 [vi c] V (RE V (1)) := by
  refine Ct.of (ls := [some (vi c)]) (plainFor_of_name (by decide +kernel)) rfl (by exact Nat.le_of_ble_eq_true rfl) (fun X hz hD => ?_)
  refine S_il0 qJ1_canEncode_9a6ad_0 ?_
  refine S_if_lt (d := qJ1_canEncode_9a6ad_1) (kt := fun c1 => ?_) (kf := fun c1 => ?_)
  · omega
  refine S_il0 qJ1_canEncode_9a6ad_4 ?_
  refine S_sipush (d := qJ1_canEncode_9a6ad_5) (k := ?_)
  refine S_icmp_gt (d := qJ1_canEncode_9a6ad_8) (kt := fun c8 => ?_) (kf := fun c8 => ?_)
  · omega
  refine S_iconst qJ1_canEncode_9a6ad_11 ?_
  refine S_goto qJ1_canEncode_9a6ad_12 ?_
  refine S_zret hz qJ1_canEncode_9a6ad_16 (by omega) ?_
  exact RE.mk (by omega)

/-- the first place from j on, of n, where the literal has x; none: -1 -/
def fiS (i : Nat) (x : Int) : Nat → Int → Int
  | 0, _ => -1
  | n + 1, j => if byS i j = x then j else fiS i x n (j + 1)
theorem ioc_loop {g : GC} {X : CX} {Q : Option AV → MM → Prop} {V : MM} {i : Nat} {c : Int} (hi : i < 6) (hc : 0 ≤ c ∧ c ≤ 255) (hz : Fi g X (some .int) Q) (fr : Int) : ∀ (n : Nat) (j : Int), 0 ≤ j → j + n = (lnS i : Int) → Q (some (vi (fiS i (i2bS c) n j))) V → SW g X RJ1 cJ1_indexOfChar_4cfef 7 [some (vr (210 + i)), some (vi c), some (vi fr), some (vi (lnS i : Int)), some (vi (i2bS c)), some (vi j)] [] V := by
  have hl := ln_rg hi
  have hl2 : 3 ≤ roLen.getD i 0 ∧ roLen.getD i 0 ≤ 6 := hl
  have hx := i2b_rg hc
  have hx2 : -128 ≤ i2bS c ∧ i2bS c ≤ 127 := by
    rw [hx]
    split <;> omega
  intro n
  induction n with
  | zero =>
    intro j h0 h1 hQ
    refine S_il5 qJ1_indexOfChar_4cfef_7 ?_
    refine S_il3 qJ1_indexOfChar_4cfef_9 ?_
    refine S_icmp_ge (d := qJ1_indexOfChar_4cfef_10) (kt := fun c10 => ?_) (kf := fun c10 => ?_)
    rotate_left
    · omega
    refine S_iconst qJ1_indexOfChar_4cfef_31 ?_
    refine S_iret hz qJ1_indexOfChar_4cfef_32 ?_
    exact hQ
  | succ n ih =>
    intro j h0 h1 hQ
    have h2 : j + ((n + 1 : Nat) : Int) = (roLen.getD i 0 : Int) := h1
    have hb := by_rg (j := j) hi (by omega)
    unfold fiS at hQ
    refine S_il5 qJ1_indexOfChar_4cfef_7 ?_
    refine S_il3 qJ1_indexOfChar_4cfef_9 ?_
    refine S_icmp_ge (d := qJ1_indexOfChar_4cfef_10) (kt := fun c10 => ?_) (kf := fun c10 => ?_)
    · omega
    refine S_al0 qJ1_indexOfChar_4cfef_13 ?_
    refine S_il5 qJ1_indexOfChar_4cfef_14 ?_
    refine S_tbld qJ1_indexOfChar_4cfef_16 (fun g2 U H h => ro_str i hi h) (by omega) (by_z i _) ?_
    refine S_il4 qJ1_indexOfChar_4cfef_17 ?_
    refine S_icmp_ne (d := qJ1_indexOfChar_4cfef_19) (kt := fun c19 => ?_) (kf := fun c19 => ?_)
    · refine S_inc5 qJ1_indexOfChar_4cfef_25 (K := ?_)
      refine S_goto qJ1_indexOfChar_4cfef_28 ?_
      rw [if_neg (by omega)] at hQ
      exact ih (j + 1) (by omega) (by omega) hQ
    · refine S_il5 qJ1_indexOfChar_4cfef_22 ?_
      refine S_iret hz qJ1_indexOfChar_4cfef_24 ?_
      rw [if_pos (by omega)] at hQ
      exact hQ
theorem c_ioc {g : GC} {V : MM} {i : Nat} {c : Int} (hi : i < 6) (hc : 0 ≤ c ∧ c ≤ 255) : Ct g mJ1_indexOfChar_4cfef 1 [vr (210 + i), vi c, vi 0, vi (lnS i : Int)] V (RE V (fiS i (i2bS c) (lnS i) 0)) := by
  refine Ct.of (ls := [some (vr (210 + i)), some (vi c), some (vi 0), some (vi (lnS i : Int)), none, none]) (plainFor_of_name (by decide +kernel)) rfl (by exact Nat.le_of_ble_eq_true rfl) (fun X hz hD => ?_)
  refine S_il1 qJ1_indexOfChar_4cfef_0 ?_
  refine S_i2b qJ1_indexOfChar_4cfef_1 ?_
  refine S_is4 qJ1_indexOfChar_4cfef_2 (K := ?_)
  refine S_il2 qJ1_indexOfChar_4cfef_4 ?_
  refine S_is5 qJ1_indexOfChar_4cfef_5 (K := ?_)
  exact ioc_loop hi hc hz 0 (lnS i) 0 (by omega) (by omega) ⟨rfl, rfl⟩

theorem c_ioL {g : GC} {V : MM} {i : Nat} {c : Int} (hi : i < 6) (hc : 0 ≤ c ∧ c ≤ 255) : Ct g mJ1_indexOf_4cfef 2 [vr (210 + i), vi c, vi 0, vi (lnS i : Int)] V (RE V (fiS i (i2bS c) (lnS i) 0)) := by
  refine Ct.of (ls := [some (vr (210 + i)), some (vi c), some (vi 0), some (vi (lnS i : Int))]) (plainFor_of_name (by decide +kernel)) rfl (by exact Nat.le_of_ble_eq_true rfl) (fun X hz hD => ?_)
  have hl := ln_rg hi
  have hl2 : 3 ≤ roLen.getD i 0 ∧ roLen.getD i 0 ≤ 6 := hl
  refine S_il1 qJ1_indexOf_4cfef_0 ?_
  refine S_S1E hD qJ1_indexOf_4cfef_1 lJ1_88 sJ1_canEncode_9a6ad (c_canEncode (by omega)) (K := ?_)
  refine S_if_ne (d := qJ1_indexOf_4cfef_4) (kt := fun c4 => ?_) (kf := fun c4 => ?_)
  rotate_left
  · omega
  refine S_il2 qJ1_indexOf_4cfef_9 ?_
  refine S_iconst qJ1_indexOf_4cfef_10 ?_
  refine S_S2E hD qJ1_indexOf_4cfef_11 lJ1_92 sJ9_max_7cf53 (c_max (by omega) (by omega)) (K := ?_)
  rw [if_neg (show ¬ (0 : Int) < 0 by omega)]
  refine S_is2 qJ1_indexOf_4cfef_14 (K := ?_)
  refine S_il3 qJ1_indexOf_4cfef_15 ?_
  refine S_al0 qJ1_indexOf_4cfef_16 ?_
  refine S_tlen qJ1_indexOf_4cfef_17 (fun g2 U H h => ro_str i hi h) ?_
  refine S_S2E hD qJ1_indexOf_4cfef_18 lJ1_38 sJ9_min_7cf53 (c_min (by omega) (by omega)) (K := ?_)
  rw [show (if (roLen.getD i 0 : Int) < (lnS i : Int) then (roLen.getD i 0 : Int) else (lnS i : Int)) = (lnS i : Int) from if_neg (by show ¬ (lnS i : Int) < (lnS i : Int); omega)]
  refine S_is3 qJ1_indexOf_4cfef_21 (K := ?_)
  refine S_il2 qJ1_indexOf_4cfef_22 ?_
  refine S_il3 qJ1_indexOf_4cfef_23 ?_
  refine S_icmp_lt (d := qJ1_indexOf_4cfef_24) (kt := fun c24 => ?_) (kf := fun c24 => ?_)
  rotate_left
  · omega
  refine S_al0 qJ1_indexOf_4cfef_29 ?_
  refine S_il1 qJ1_indexOf_4cfef_30 ?_
  refine S_il2 qJ1_indexOf_4cfef_31 ?_
  refine S_il3 qJ1_indexOf_4cfef_32 ?_
  refine S_S4E hD qJ1_indexOf_4cfef_33 lJ1_95 sJ1_indexOfChar_4cfef (c_ioc hi hc) (K := ?_)
  refine S_iret hz qJ1_indexOf_4cfef_36 ?_
  exact ⟨rfl, rfl⟩

theorem c_io2 {g : GC} {V : MM} {i : Nat} {c : Int} (hi : i < 6) (hc : 0 ≤ c ∧ c ≤ 255) : Ct g mJ0_indexOf_7cf53 3 [vr (200 + i), vi c, vi 0] V (RE V (fiS i (i2bS c) (lnS i) 0)) := by
  refine Ct.of (ls := [some (vr (200 + i)), some (vi c), some (vi 0)]) (plainFor_of_name (by decide +kernel)) rfl (by exact Nat.le_of_ble_eq_true rfl) (fun X hz hD => ?_)
  refine S_al0 qJ0_indexOf_7cf53_0 ?_
  refine S_V0E hD qJ0_indexOf_7cf53_1 lJ0_492 vJ0_isLatin1_aae02 (rS hi) (c_latin hi) (K := ?_)
  refine S_if_eq (d := qJ0_indexOf_7cf53_4) (kt := fun c4 => ?_) (kf := fun c4 => ?_)
  · omega
  refine S_al0 qJ0_indexOf_7cf53_7 ?_
  refine S_strV qJ0_indexOf_7cf53_8 fJ0_9 hi ?_
  refine S_il1 qJ0_indexOf_7cf53_11 ?_
  refine S_il2 qJ0_indexOf_7cf53_12 ?_
  refine S_al0 qJ0_indexOf_7cf53_13 ?_
  refine S_V0E hD qJ0_indexOf_7cf53_14 lJ0_505 vJ0_length_8abf5 (rS hi) (c_slen hi) (K := ?_)
  refine S_S4E hD qJ0_indexOf_7cf53_17 lJ0_637 sJ1_indexOf_4cfef (c_ioL hi hc) (K := ?_)
  refine S_goto qJ0_indexOf_7cf53_20 ?_
  refine S_iret hz qJ0_indexOf_7cf53_36 ?_
  exact ⟨rfl, rfl⟩

theorem c_io1 {g : GC} {V : MM} {i : Nat} {c : Int} (hi : i < 6) (hc : 0 ≤ c ∧ c ≤ 255) : Ct g mJ0_indexOf_0f7a4 4 [vr (200 + i), vi c] V (RE V (fiS i (i2bS c) (lnS i) 0)) := by
  refine Ct.of (ls := [some (vr (200 + i)), some (vi c)]) (plainFor_of_name (by decide +kernel)) rfl (by exact Nat.le_of_ble_eq_true rfl) (fun X hz hD => ?_)
  refine S_al0 qJ0_indexOf_0f7a4_0 ?_
  refine S_il1 qJ0_indexOf_0f7a4_1 ?_
  refine S_iconst qJ0_indexOf_0f7a4_2 ?_
  refine S_V2E hD qJ0_indexOf_0f7a4_3 lJ0_633 vJ0_indexOf_7cf53 (rS hi) (c_io2 hi hc) (K := ?_)
  refine S_iret hz qJ0_indexOf_0f7a4_6 ?_
  exact ⟨rfl, rfl⟩
