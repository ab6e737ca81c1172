section RU
variable {g : GC} {X : CX} {own : String} {cc : ByteArray} {pc nx tgt : Nat} {ls : List (Option AV)} {st : List AV} {V : MM}
theorem io_add (a b : Int) : Int32.ofInt a + Int32.ofInt b = Int32.ofInt (a + b) := (Int32.ofInt_add a b).symm
theorem io_sub (a b : Int) : Int32.ofInt a - Int32.ofInt b = Int32.ofInt (a - b) := (Int32.ofInt_sub a b).symm
theorem io_mul (a b : Int) : Int32.ofInt a * Int32.ofInt b = Int32.ofInt (a * b) := (Int32.ofInt_mul a b).symm
theorem io_neg (a : Int) : - Int32.ofInt a = Int32.ofInt (-a) := (Int32.ofInt_neg a).symm
theorem io_toInt {a : Int} (h : -2147483648 ≤ a ∧ a ≤ 2147483647) : (Int32.ofInt a).toInt = a := Int32.toInt_ofInt_of_le (by simp; omega) (by simp; omega)
theorem io_ofInt (x : Int32) : Int32.ofInt x.toInt = x := Int32.ofInt_toInt x
theorem io_rg (x : Int32) : -2147483648 ≤ x.toInt ∧ x.toInt ≤ 2147483647 := ⟨Int32.le_toInt x, by have := Int32.toInt_lt x; omega⟩
theorem io_lt {a b : Int} (ha : -2147483648 ≤ a ∧ a ≤ 2147483647) (hb : -2147483648 ≤ b ∧ b ≤ 2147483647) : Int32.ofInt a < Int32.ofInt b ↔ a < b := by rw [Int32.lt_iff_toInt_lt, io_toInt ha, io_toInt hb]
theorem io_le {a b : Int} (ha : -2147483648 ≤ a ∧ a ≤ 2147483647) (hb : -2147483648 ≤ b ∧ b ≤ 2147483647) : Int32.ofInt a ≤ Int32.ofInt b ↔ a ≤ b := by rw [Int32.le_iff_toInt_le, io_toInt ha, io_toInt hb]
theorem io_eq {a b : Int} (ha : -2147483648 ≤ a ∧ a ≤ 2147483647) (hb : -2147483648 ≤ b ∧ b ≤ 2147483647) : Int32.ofInt a = Int32.ofInt b ↔ a = b := ⟨fun h => by rw [← io_toInt ha, ← io_toInt hb, h], fun h => by rw [h]⟩
theorem io_0 : Int32.ofInt 0 = 0 := rfl
theorem io_cl {a : Int} (h : -2147483648 ≤ a ∧ a ≤ 2147483647) : (Int32.ofInt a).toNatClampNeg = a.toNat := by rw [Int32.toNatClampNeg, io_toInt h]
theorem io_in {a : Int} {n : Nat} (h : 0 ≤ a) (h2 : a < n) (hn : n < 2147483648) : vp_in (Int32.ofInt a) n := by
  rw [vp_in_iff, io_toInt (by omega)]
  exact ⟨h, h2⟩
theorem io_byte {n : Int} (h : -128 ≤ n ∧ n < 128) : (Int8.ofInt n).toInt32 = Int32.ofInt n := by
  have h8 : (Int8.ofInt n).toInt = n := Int8.toInt_ofInt_of_le (by simp; omega) (by simp; omega)
  rw [← io_ofInt (Int8.ofInt n).toInt32, Int8.toInt_toInt32, h8]
theorem io_short {n : Int} (h : -32768 ≤ n ∧ n < 32768) : (Int16.ofInt n).toInt32 = Int32.ofInt n := by
  have h8 : (Int16.ofInt n).toInt = n := Int16.toInt_ofInt_of_le (by simp; omega) (by simp; omega)
  rw [← io_ofInt (Int16.ofInt n).toInt32, Int16.toInt_toInt32, h8]
theorem jo_ofInt (x : Int64) : Int64.ofInt x.toInt = x := Int64.ofInt_toInt x
theorem jo_toInt {a : Int} (h : -9223372036854775808 ≤ a ∧ a ≤ 9223372036854775807) : (Int64.ofInt a).toInt = a := Int64.toInt_ofInt_of_le (by simp; omega) (by simp; omega)
theorem jo_io {a : Int} (h : -2147483648 ≤ a ∧ a ≤ 2147483647) : (Int32.ofInt a).toInt64 = Int64.ofInt a := by
  rw [← jo_ofInt (Int32.ofInt a).toInt64, Int32.toInt_toInt64, io_toInt h]
theorem DI.at {i : Instr} {n : Nat} (d : DI cc pc i n nx) : decode cc pc = .ok (i, n) := d.1
theorem S_iconst {n : Int} (d : DI cc pc (.iconst n) 1 nx) (k : SW g X own cc nx ls (vi n :: st) V) : SW g X own cc pc ls st V := by
  obtain ⟨⟨p, e, R, s, m⟩, ⟨args, below, meth, c⟩, ⟨nL, cells, slots, Z⟩⟩ := X
  obtain ⟨hd, rfl⟩ := d
  intro hC H locs lsA hP hS hl
  have hx := hC.1
  have hb := hC.2.1
  exact lv_iconst hx hb hd rfl (k hC H locs lsA hP hS hl)
theorem S_bipush {n : Int} (h : -128 ≤ n ∧ n < 128 := by omega) (d : DI cc pc (.bipush n) 2 nx) (k : SW g X own cc nx ls (vi n :: st) V) : SW g X own cc pc ls st V := by
  obtain ⟨⟨p, e, R, s, m⟩, ⟨args, below, meth, c⟩, ⟨nL, cells, slots, Z⟩⟩ := X
  obtain ⟨hd, rfl⟩ := d
  intro hC H locs lsA hP hS hl
  have hx := hC.1
  have hb := hC.2.1
  exact lv_bipush hx hb hd (io_byte h) (k hC H locs lsA hP hS hl)
theorem S_sipush {n : Int} (h : -32768 ≤ n ∧ n < 32768 := by omega) (d : DI cc pc (.sipush n) 3 nx) (k : SW g X own cc nx ls (vi n :: st) V) : SW g X own cc pc ls st V := by
  obtain ⟨⟨p, e, R, s, m⟩, ⟨args, below, meth, c⟩, ⟨nL, cells, slots, Z⟩⟩ := X
  obtain ⟨hd, rfl⟩ := d
  intro hC H locs lsA hP hS hl
  have hx := hC.1
  have hb := hC.2.1
  exact lv_sipush hx hb hd (io_short h) (k hC H locs lsA hP hS hl)
theorem S_lconst {n : Fin 2} (d : DI cc pc (.lconst n) 1 nx) (k : SW g X own cc nx ls (vl ((n : Nat) : Int) :: st) V) : SW g X own cc pc ls st V := by
  obtain ⟨⟨p, e, R, s, m⟩, ⟨args, below, meth, c⟩, ⟨nL, cells, slots, Z⟩⟩ := X
  obtain ⟨hd, rfl⟩ := d
  intro hC H locs lsA hP hS hl
  have hx := hC.1
  have hb := hC.2.1
  exact lv_lconst hx hb hd ((by decide : ∀ z : Fin 2, Int64.ofNat (z : Nat) = Int64.ofInt ((z : Nat) : Int)) n) (k hC H locs lsA hP hS hl)
theorem S_iadd {a b : Int} (d : DI cc pc .iadd 1 nx) (k : SW g X own cc nx ls (vi (a + b) :: st) V) : SW g X own cc pc ls (vi b :: vi a :: st) V := by
  obtain ⟨⟨p, e, R, s, m⟩, ⟨args, below, meth, c⟩, ⟨nL, cells, slots, Z⟩⟩ := X
  obtain ⟨hd, rfl⟩ := d
  intro hC H locs lsA hP hS hl
  have hx := hC.1
  have hb := hC.2.1
  show W p g.1 e R s m args below meth c H locs cells slots Z (F0 m pc lsA (.int (Int32.ofInt b) :: .int (Int32.ofInt a) :: st.map (cv g)))
  refine lv_iadd hx hb hd ?_
  rw [io_add]
  exact k hC H locs lsA hP hS hl
theorem S_isub {a b : Int} (d : DI cc pc .isub 1 nx) (k : SW g X own cc nx ls (vi (a - b) :: st) V) : SW g X own cc pc ls (vi b :: vi a :: st) V := by
  obtain ⟨⟨p, e, R, s, m⟩, ⟨args, below, meth, c⟩, ⟨nL, cells, slots, Z⟩⟩ := X
  obtain ⟨hd, rfl⟩ := d
  intro hC H locs lsA hP hS hl
  have hx := hC.1
  have hb := hC.2.1
  show W p g.1 e R s m args below meth c H locs cells slots Z (F0 m pc lsA (.int (Int32.ofInt b) :: .int (Int32.ofInt a) :: st.map (cv g)))
  refine lv_isub hx hb hd ?_
  rw [io_sub]
  exact k hC H locs lsA hP hS hl
theorem S_imul {a b : Int} (d : DI cc pc .imul 1 nx) (k : SW g X own cc nx ls (vi (a * b) :: st) V) : SW g X own cc pc ls (vi b :: vi a :: st) V := by
  obtain ⟨⟨p, e, R, s, m⟩, ⟨args, below, meth, c⟩, ⟨nL, cells, slots, Z⟩⟩ := X
  obtain ⟨hd, rfl⟩ := d
  intro hC H locs lsA hP hS hl
  have hx := hC.1
  have hb := hC.2.1
  show W p g.1 e R s m args below meth c H locs cells slots Z (F0 m pc lsA (.int (Int32.ofInt b) :: .int (Int32.ofInt a) :: st.map (cv g)))
  refine lv_imul hx hb hd ?_
  rw [io_mul]
  exact k hC H locs lsA hP hS hl
theorem S_ineg {a : Int} (d : DI cc pc .ineg 1 nx) (k : SW g X own cc nx ls (vi (-a) :: st) V) : SW g X own cc pc ls (vi a :: st) V := by
  obtain ⟨⟨p, e, R, s, m⟩, ⟨args, below, meth, c⟩, ⟨nL, cells, slots, Z⟩⟩ := X
  obtain ⟨hd, rfl⟩ := d
  intro hC H locs lsA hP hS hl
  have hx := hC.1
  have hb := hC.2.1
  show W p g.1 e R s m args below meth c H locs cells slots Z (F0 m pc lsA (.int (Int32.ofInt a) :: st.map (cv g)))
  refine lv_ineg hx hb hd ?_
  rw [io_neg]
  exact k hC H locs lsA hP hS hl
theorem S_iand {a b : Int} (d : DI cc pc .iand 1 nx) (k : SW g X own cc nx ls (vi (Int32.ofInt a &&& Int32.ofInt b).toInt :: st) V) : SW g X own cc pc ls (vi b :: vi a :: st) V := by
  obtain ⟨⟨p, e, R, s, m⟩, ⟨args, below, meth, c⟩, ⟨nL, cells, slots, Z⟩⟩ := X
  obtain ⟨hd, rfl⟩ := d
  intro hC H locs lsA hP hS hl
  have hx := hC.1
  have hb := hC.2.1
  show W p g.1 e R s m args below meth c H locs cells slots Z (F0 m pc lsA (.int (Int32.ofInt b) :: .int (Int32.ofInt a) :: st.map (cv g)))
  refine lv_iand hx hb hd ?_
  rw [← io_ofInt (Int32.ofInt a &&& Int32.ofInt b)]
  exact k hC H locs lsA hP hS hl
theorem S_ior {a b : Int} (d : DI cc pc .ior 1 nx) (k : SW g X own cc nx ls (vi (Int32.ofInt a ||| Int32.ofInt b).toInt :: st) V) : SW g X own cc pc ls (vi b :: vi a :: st) V := by
  obtain ⟨⟨p, e, R, s, m⟩, ⟨args, below, meth, c⟩, ⟨nL, cells, slots, Z⟩⟩ := X
  obtain ⟨hd, rfl⟩ := d
  intro hC H locs lsA hP hS hl
  have hx := hC.1
  have hb := hC.2.1
  show W p g.1 e R s m args below meth c H locs cells slots Z (F0 m pc lsA (.int (Int32.ofInt b) :: .int (Int32.ofInt a) :: st.map (cv g)))
  refine lv_ior hx hb hd ?_
  rw [← io_ofInt (Int32.ofInt a ||| Int32.ofInt b)]
  exact k hC H locs lsA hP hS hl
theorem S_ixor {a b : Int} (d : DI cc pc .ixor 1 nx) (k : SW g X own cc nx ls (vi (Int32.ofInt a ^^^ Int32.ofInt b).toInt :: st) V) : SW g X own cc pc ls (vi b :: vi a :: st) V := by
  obtain ⟨⟨p, e, R, s, m⟩, ⟨args, below, meth, c⟩, ⟨nL, cells, slots, Z⟩⟩ := X
  obtain ⟨hd, rfl⟩ := d
  intro hC H locs lsA hP hS hl
  have hx := hC.1
  have hb := hC.2.1
  show W p g.1 e R s m args below meth c H locs cells slots Z (F0 m pc lsA (.int (Int32.ofInt b) :: .int (Int32.ofInt a) :: st.map (cv g)))
  refine lv_ixor hx hb hd ?_
  rw [← io_ofInt (Int32.ofInt a ^^^ Int32.ofInt b)]
  exact k hC H locs lsA hP hS hl
theorem S_ishl {a b : Int} (d : DI cc pc .ishl 1 nx) (k : SW g X own cc nx ls (vi (Int32.ofInt a <<< (Int32.ofInt b &&& 31)).toInt :: st) V) : SW g X own cc pc ls (vi b :: vi a :: st) V := by
  obtain ⟨⟨p, e, R, s, m⟩, ⟨args, below, meth, c⟩, ⟨nL, cells, slots, Z⟩⟩ := X
  obtain ⟨hd, rfl⟩ := d
  intro hC H locs lsA hP hS hl
  have hx := hC.1
  have hb := hC.2.1
  show W p g.1 e R s m args below meth c H locs cells slots Z (F0 m pc lsA (.int (Int32.ofInt b) :: .int (Int32.ofInt a) :: st.map (cv g)))
  refine lv_ishl hx hb hd ?_
  rw [← io_ofInt (Int32.ofInt a <<< (Int32.ofInt b &&& 31))]
  exact k hC H locs lsA hP hS hl
theorem S_land {a b : Int} (d : DI cc pc .land 1 nx) (k : SW g X own cc nx ls (vl (Int64.ofInt a &&& Int64.ofInt b).toInt :: st) V) : SW g X own cc pc ls (vl b :: vl a :: st) V := by
  obtain ⟨⟨p, e, R, s, m⟩, ⟨args, below, meth, c⟩, ⟨nL, cells, slots, Z⟩⟩ := X
  obtain ⟨hd, rfl⟩ := d
  intro hC H locs lsA hP hS hl
  have hx := hC.1
  have hb := hC.2.1
  show W p g.1 e R s m args below meth c H locs cells slots Z (F0 m pc lsA (.long (Int64.ofInt b) :: .long (Int64.ofInt a) :: st.map (cv g)))
  refine lv_land hx hb hd ?_
  rw [← jo_ofInt (Int64.ofInt a &&& Int64.ofInt b)]
  exact k hC H locs lsA hP hS hl
theorem S_lor {a b : Int} (d : DI cc pc .lor 1 nx) (k : SW g X own cc nx ls (vl (Int64.ofInt a ||| Int64.ofInt b).toInt :: st) V) : SW g X own cc pc ls (vl b :: vl a :: st) V := by
  obtain ⟨⟨p, e, R, s, m⟩, ⟨args, below, meth, c⟩, ⟨nL, cells, slots, Z⟩⟩ := X
  obtain ⟨hd, rfl⟩ := d
  intro hC H locs lsA hP hS hl
  have hx := hC.1
  have hb := hC.2.1
  show W p g.1 e R s m args below meth c H locs cells slots Z (F0 m pc lsA (.long (Int64.ofInt b) :: .long (Int64.ofInt a) :: st.map (cv g)))
  refine lv_lor hx hb hd ?_
  rw [← jo_ofInt (Int64.ofInt a ||| Int64.ofInt b)]
  exact k hC H locs lsA hP hS hl
theorem S_lxor {a b : Int} (d : DI cc pc .lxor 1 nx) (k : SW g X own cc nx ls (vl (Int64.ofInt a ^^^ Int64.ofInt b).toInt :: st) V) : SW g X own cc pc ls (vl b :: vl a :: st) V := by
  obtain ⟨⟨p, e, R, s, m⟩, ⟨args, below, meth, c⟩, ⟨nL, cells, slots, Z⟩⟩ := X
  obtain ⟨hd, rfl⟩ := d
  intro hC H locs lsA hP hS hl
  have hx := hC.1
  have hb := hC.2.1
  show W p g.1 e R s m args below meth c H locs cells slots Z (F0 m pc lsA (.long (Int64.ofInt b) :: .long (Int64.ofInt a) :: st.map (cv g)))
  refine lv_lxor hx hb hd ?_
  rw [← jo_ofInt (Int64.ofInt a ^^^ Int64.ofInt b)]
  exact k hC H locs lsA hP hS hl
theorem S_lshl {a b : Int} (d : DI cc pc .lshl 1 nx) (k : SW g X own cc nx ls (vl (Int64.ofInt a <<< ((Int32.ofInt b).toInt64 &&& 63)).toInt :: st) V) : SW g X own cc pc ls (vi b :: vl a :: st) V := by
  obtain ⟨⟨p, e, R, s, m⟩, ⟨args, below, meth, c⟩, ⟨nL, cells, slots, Z⟩⟩ := X
  obtain ⟨hd, rfl⟩ := d
  intro hC H locs lsA hP hS hl
  have hx := hC.1
  have hb := hC.2.1
  show W p g.1 e R s m args below meth c H locs cells slots Z (F0 m pc lsA (.int (Int32.ofInt b) :: .long (Int64.ofInt a) :: st.map (cv g)))
  refine lv_lshl hx hb hd rfl ?_
  rw [← jo_ofInt (Int64.ofInt a <<< ((Int32.ofInt b).toInt64 &&& 63))]
  exact k hC H locs lsA hP hS hl
theorem S_lushr {a b : Int} (d : DI cc pc .lushr 1 nx) (k : SW g X own cc nx ls (vl (((Int64.ofInt a).toUInt64 >>> ((Int32.ofInt b).toInt64.toUInt64 &&& Int64.toUInt64 63)).toInt64).toInt :: st) V) : SW g X own cc pc ls (vi b :: vl a :: st) V := by
  obtain ⟨⟨p, e, R, s, m⟩, ⟨args, below, meth, c⟩, ⟨nL, cells, slots, Z⟩⟩ := X
  obtain ⟨hd, rfl⟩ := d
  intro hC H locs lsA hP hS hl
  have hx := hC.1
  have hb := hC.2.1
  show W p g.1 e R s m args below meth c H locs cells slots Z (F0 m pc lsA (.int (Int32.ofInt b) :: .long (Int64.ofInt a) :: st.map (cv g)))
  refine lv_lushr hx hb hd rfl ?_
  rw [← jo_ofInt (((Int64.ofInt a).toUInt64 >>> ((Int32.ofInt b).toInt64.toUInt64 &&& Int64.toUInt64 63)).toInt64)]
  exact k hC H locs lsA hP hS hl
theorem S_i2l {a : Int} (h : -2147483648 ≤ a ∧ a ≤ 2147483647 := by omega) (d : DI cc pc .i2l 1 nx) (k : SW g X own cc nx ls (vl a :: st) V) : SW g X own cc pc ls (vi a :: st) V := by
  obtain ⟨⟨p, e, R, s, m⟩, ⟨args, below, meth, c⟩, ⟨nL, cells, slots, Z⟩⟩ := X
  obtain ⟨hd, rfl⟩ := d
  intro hC H locs lsA hP hS hl
  have hx := hC.1
  have hb := hC.2.1
  show W p g.1 e R s m args below meth c H locs cells slots Z (F0 m pc lsA (.int (Int32.ofInt a) :: st.map (cv g)))
  exact lv_i2l hx hb hd (jo_io h) (k hC H locs lsA hP hS hl)
theorem S_l2i {a : Int} (d : DI cc pc .l2i 1 nx) (k : SW g X own cc nx ls (vi ((Int64.ofInt a).toInt32).toInt :: st) V) : SW g X own cc pc ls (vl a :: st) V := by
  obtain ⟨⟨p, e, R, s, m⟩, ⟨args, below, meth, c⟩, ⟨nL, cells, slots, Z⟩⟩ := X
  obtain ⟨hd, rfl⟩ := d
  intro hC H locs lsA hP hS hl
  have hx := hC.1
  have hb := hC.2.1
  show W p g.1 e R s m args below meth c H locs cells slots Z (F0 m pc lsA (.long (Int64.ofInt a) :: st.map (cv g)))
  exact lv_l2i hx hb hd (io_ofInt _).symm (k hC H locs lsA hP hS hl)
theorem S_i2b {a : Int} (d : DI cc pc .i2b 1 nx) (k : SW g X own cc nx ls (vi ((Int32.ofInt a).toInt8.toInt32).toInt :: st) V) : SW g X own cc pc ls (vi a :: st) V := by
  obtain ⟨⟨p, e, R, s, m⟩, ⟨args, below, meth, c⟩, ⟨nL, cells, slots, Z⟩⟩ := X
  obtain ⟨hd, rfl⟩ := d
  intro hC H locs lsA hP hS hl
  have hx := hC.1
  have hb := hC.2.1
  show W p g.1 e R s m args below meth c H locs cells slots Z (F0 m pc lsA (.int (Int32.ofInt a) :: st.map (cv g)))
  exact lv_i2b hx hb hd (io_ofInt _).symm (k hC H locs lsA hP hS hl)
theorem S_i2s {a : Int} (d : DI cc pc .i2s 1 nx) (k : SW g X own cc nx ls (vi ((Int32.ofInt a).toInt16.toInt32).toInt :: st) V) : SW g X own cc pc ls (vi a :: st) V := by
  obtain ⟨⟨p, e, R, s, m⟩, ⟨args, below, meth, c⟩, ⟨nL, cells, slots, Z⟩⟩ := X
  obtain ⟨hd, rfl⟩ := d
  intro hC H locs lsA hP hS hl
  have hx := hC.1
  have hb := hC.2.1
  show W p g.1 e R s m args below meth c H locs cells slots Z (F0 m pc lsA (.int (Int32.ofInt a) :: st.map (cv g)))
  exact lv_i2s hx hb hd (io_ofInt _).symm (k hC H locs lsA hP hS hl)
theorem S_i2c {a : Int} (d : DI cc pc .i2c 1 nx) (k : SW g X own cc nx ls (vi (((Int32.ofInt a).toUInt32 % 65536).toInt32).toInt :: st) V) : SW g X own cc pc ls (vi a :: st) V := by
  obtain ⟨⟨p, e, R, s, m⟩, ⟨args, below, meth, c⟩, ⟨nL, cells, slots, Z⟩⟩ := X
  obtain ⟨hd, rfl⟩ := d
  intro hC H locs lsA hP hS hl
  have hx := hC.1
  have hb := hC.2.1
  show W p g.1 e R s m args below meth c H locs cells slots Z (F0 m pc lsA (.int (Int32.ofInt a) :: st.map (cv g)))
  exact lv_i2c hx hb hd (io_ofInt _).symm (k hC H locs lsA hP hS hl)
theorem S_lcmp {a b : Int} (d : DI cc pc .lcmp 1 nx) (k : SW g X own cc nx ls (vi (lg_cmp (Int64.ofInt a) (Int64.ofInt b)).toInt :: st) V) : SW g X own cc pc ls (vl b :: vl a :: st) V := by
  obtain ⟨⟨p, e, R, s, m⟩, ⟨args, below, meth, c⟩, ⟨nL, cells, slots, Z⟩⟩ := X
  obtain ⟨hd, rfl⟩ := d
  intro hC H locs lsA hP hS hl
  have hx := hC.1
  have hb := hC.2.1
  show W p g.1 e R s m args below meth c H locs cells slots Z (F0 m pc lsA (.long (Int64.ofInt b) :: .long (Int64.ofInt a) :: st.map (cv g)))
  refine W.lcmp hx hb hd ?_
  rw [← io_ofInt (lg_cmp (Int64.ofInt a) (Int64.ofInt b))]
  exact k hC H locs lsA hP hS hl
theorem S_dup {v : AV} (h : nl (some (some v)) := by trivial) (d : DI cc pc .dup 1 nx) (k : SW g X own cc nx ls (v :: v :: st) V) : SW g X own cc pc ls (v :: st) V := by
  obtain ⟨⟨p, e, R, s, m⟩, ⟨args, below, meth, c⟩, ⟨nL, cells, slots, Z⟩⟩ := X
  obtain ⟨hd, rfl⟩ := d
  intro hC H locs lsA hP hS hl
  have hx := hC.1
  have hb := hC.2.1
  show W p g.1 e R s m args below meth c H locs cells slots Z (F0 m pc lsA (cv g v :: st.map (cv g)))
  exact lv_dup hx hb hd (cv_cat1 h) (k hC H locs lsA hP hS hl)
theorem S_dup2 {v w : AV} (h : nl (some (some v)) := by trivial) (h2 : nl (some (some w)) := by trivial) (d : DI cc pc .dup2 1 nx) (k : SW g X own cc nx ls (v :: w :: v :: w :: st) V) : SW g X own cc pc ls (v :: w :: st) V := by
  obtain ⟨⟨p, e, R, s, m⟩, ⟨args, below, meth, c⟩, ⟨nL, cells, slots, Z⟩⟩ := X
  obtain ⟨hd, rfl⟩ := d
  intro hC H locs lsA hP hS hl
  have hx := hC.1
  have hb := hC.2.1
  show W p g.1 e R s m args below meth c H locs cells slots Z (F0 m pc lsA (cv g v :: cv g w :: st.map (cv g)))
  exact lv_dup2_11 hx hb hd (cv_cat1 h) (cv_cat1 h2) (k hC H locs lsA hP hS hl)
theorem io_div {a b : Int} (h0 : 0 ≤ a ∧ a ≤ 2147483647) (h1 : 0 < b ∧ b ≤ 2147483647) : Int32.ofInt a / Int32.ofInt b = Int32.ofInt (a / b) := by
  apply Int32.toInt_inj.mp
  have hq : 0 ≤ a / b := Int.ediv_nonneg h0.1 (by omega)
  have hq2 : a / b ≤ a := Int.ediv_le_self b h0.1
  rw [Int32.toInt_div_of_ne_right _ _ (by intro h; have := congrArg Int32.toInt h; rw [io_toInt (by omega)] at this; have h3 : (-1 : Int32).toInt = -1 := rfl; omega), io_toInt (by omega), io_toInt (by omega), io_toInt (by omega), Int.tdiv_eq_ediv_of_nonneg h0.1]
theorem io_rem {a b : Int} (h0 : 0 ≤ a ∧ a ≤ 2147483647) (h1 : 0 < b ∧ b ≤ 2147483647) : Int32.ofInt a - Int32.ofInt a / Int32.ofInt b * Int32.ofInt b = Int32.ofInt (a % b) := by
  rw [io_div h0 h1, io_mul, io_sub, Int.emod_def, Int.mul_comm b]
theorem io_tdiv {a b : Int} (h0 : -2147483648 ≤ a ∧ a ≤ 2147483647) (h1 : 0 < b ∧ b ≤ 2147483647) : Int32.ofInt a / Int32.ofInt b = Int32.ofInt (a.tdiv b) := by
  apply Int32.toInt_inj.mp
  have hq : (a.tdiv b).natAbs ≤ a.natAbs := by rw [Int.natAbs_tdiv]; exact Nat.div_le_self _ _
  rw [Int32.toInt_div_of_ne_right _ _ (by intro h; have := congrArg Int32.toInt h; rw [io_toInt (by omega)] at this; have h3 : (-1 : Int32).toInt = -1 := rfl; omega), io_toInt (by omega), io_toInt (by omega), io_toInt]
  by_cases hn : 0 ≤ a
  · have : 0 ≤ a.tdiv b := Int.tdiv_nonneg hn (by omega)
    omega
  · have := Int.tdiv_nonneg (a := -a) (b := b) (by omega) (by omega)
    rw [Int.neg_tdiv] at this
    omega
theorem io_trem {a b : Int} (h0 : -2147483648 ≤ a ∧ a ≤ 2147483647) (h1 : 0 < b ∧ b ≤ 2147483647) : Int32.ofInt a - Int32.ofInt a / Int32.ofInt b * Int32.ofInt b = Int32.ofInt (a.tmod b) := by
  rw [io_tdiv h0 h1, io_mul, io_sub, Int.tmod_def, Int.mul_comm b]
theorem io_nz {b : Int} (h1 : 0 < b ∧ b ≤ 2147483647) : ¬ Int32.ofInt b = 0 := by
  intro h
  have := congrArg Int32.toInt h
  rw [io_toInt (by omega)] at this
  have h3 : (0 : Int32).toInt = 0 := rfl
  omega
theorem S_idiv {a b : Int} (h0 : 0 ≤ a ∧ a ≤ 2147483647 := by omega) (h1 : 0 < b ∧ b ≤ 2147483647 := by omega) (d : DI cc pc .idiv 1 nx) (k : SW g X own cc nx ls (vi (a / b) :: st) V) : SW g X own cc pc ls (vi b :: vi a :: st) V := by
  obtain ⟨⟨p, e, R, s, m⟩, ⟨args, below, meth, c⟩, ⟨nL, cells, slots, Z⟩⟩ := X
  obtain ⟨hd, rfl⟩ := d
  intro hC H locs lsA hP hS hl
  have hx := hC.1
  have hb := hC.2.1
  show W p g.1 e R s m args below meth c H locs cells slots Z (F0 m pc lsA (.int (Int32.ofInt b) :: .int (Int32.ofInt a) :: st.map (cv g)))
  refine lv_idiv hx hb hd (io_nz h1) ?_
  rw [io_div h0 h1]
  exact k hC H locs lsA hP hS hl
theorem S_irem {a b : Int} (h0 : 0 ≤ a ∧ a ≤ 2147483647 := by omega) (h1 : 0 < b ∧ b ≤ 2147483647 := by omega) (d : DI cc pc .irem 1 nx) (k : SW g X own cc nx ls (vi (a % b) :: st) V) : SW g X own cc pc ls (vi b :: vi a :: st) V := by
  obtain ⟨⟨p, e, R, s, m⟩, ⟨args, below, meth, c⟩, ⟨nL, cells, slots, Z⟩⟩ := X
  obtain ⟨hd, rfl⟩ := d
  intro hC H locs lsA hP hS hl
  have hx := hC.1
  have hb := hC.2.1
  show W p g.1 e R s m args below meth c H locs cells slots Z (F0 m pc lsA (.int (Int32.ofInt b) :: .int (Int32.ofInt a) :: st.map (cv g)))
  refine lv_irem hx hb hd (io_nz h1) ?_
  rw [io_rem h0 h1]
  exact k hC H locs lsA hP hS hl
theorem S_idivT {a b : Int} (h0 : -2147483648 ≤ a ∧ a ≤ 2147483647 := by omega) (h1 : 0 < b ∧ b ≤ 2147483647 := by omega) (d : DI cc pc .idiv 1 nx) (k : SW g X own cc nx ls (vi (a.tdiv b) :: st) V) : SW g X own cc pc ls (vi b :: vi a :: st) V := by
  obtain ⟨⟨p, e, R, s, m⟩, ⟨args, below, meth, c⟩, ⟨nL, cells, slots, Z⟩⟩ := X
  obtain ⟨hd, rfl⟩ := d
  intro hC H locs lsA hP hS hl
  have hx := hC.1
  have hb := hC.2.1
  show W p g.1 e R s m args below meth c H locs cells slots Z (F0 m pc lsA (.int (Int32.ofInt b) :: .int (Int32.ofInt a) :: st.map (cv g)))
  refine lv_idiv hx hb hd (io_nz h1) ?_
  rw [io_tdiv h0 h1]
  exact k hC H locs lsA hP hS hl
theorem S_iremT {a b : Int} (h0 : -2147483648 ≤ a ∧ a ≤ 2147483647 := by omega) (h1 : 0 < b ∧ b ≤ 2147483647 := by omega) (d : DI cc pc .irem 1 nx) (k : SW g X own cc nx ls (vi (a.tmod b) :: st) V) : SW g X own cc pc ls (vi b :: vi a :: st) V := by
  obtain ⟨⟨p, e, R, s, m⟩, ⟨args, below, meth, c⟩, ⟨nL, cells, slots, Z⟩⟩ := X
  obtain ⟨hd, rfl⟩ := d
  intro hC H locs lsA hP hS hl
  have hx := hC.1
  have hb := hC.2.1
  show W p g.1 e R s m args below meth c H locs cells slots Z (F0 m pc lsA (.int (Int32.ofInt b) :: .int (Int32.ofInt a) :: st.map (cv g)))
  refine lv_irem hx hb hd (io_nz h1) ?_
  rw [io_trem h0 h1]
  exact k hC H locs lsA hP hS hl
theorem S_goto (d : DJ cc pc .goto tgt nx) (k : SW g X own cc tgt ls st V) : SW g X own cc pc ls st V := by
  obtain ⟨⟨p, e, R, s, m⟩, ⟨args, below, meth, c⟩, ⟨nL, cells, slots, Z⟩⟩ := X
  obtain ⟨off, hd, ht, -⟩ := d
  intro hC H locs lsA hP hS hl
  exact lv_goto hC.1 hC.2.1 hd ht (k hC H locs lsA hP hS hl)
theorem S_icmp_eq {a b : Int} (ha : -2147483648 ≤ a ∧ a ≤ 2147483647 := by omega) (hb : -2147483648 ≤ b ∧ b ≤ 2147483647 := by omega) (d : DJ cc pc (.if_icmp .eq) tgt nx) (kt : a = b → SW g X own cc tgt ls st V) (kf : ¬ a = b → SW g X own cc nx ls st V) : SW g X own cc pc ls (vi b :: vi a :: st) V := by
  obtain ⟨⟨p, e, R, s, m⟩, ⟨args, below, meth, c⟩, ⟨nL, cells, slots, Z⟩⟩ := X
  obtain ⟨off, hd, ht, rfl⟩ := d
  intro hC H locs lsA hP hS hl
  show W p g.1 e R s m args below meth c H locs cells slots Z (F0 m pc lsA (.int (Int32.ofInt b) :: .int (Int32.ofInt a) :: st.map (cv g)))
  have e1 := io_eq ha hb
  have e2 := io_lt ha hb
  have e3 := io_lt hb ha
  have e4 := io_le ha hb
  have e5 := io_le hb ha
  exact lv_icmp_eq hC.1 hC.2.1 hd ht (fun q => kt (by first | exact e1.mp q | exact fun z => q (e1.mpr z) | exact e2.mp q | exact e3.mp q | exact e4.mp q | exact e5.mp q) hC H locs lsA hP hS hl) (fun q => kf (by first | exact e1.mp q | exact fun z => q (e1.mpr z) | exact Decidable.byContradiction (fun z => q (fun y => z (e1.mp y))) | exact Int.not_lt.mp (fun z => q (e2.mpr z)) | exact Int.not_lt.mp (fun z => q (e3.mpr z)) | exact Int.not_le.mp (fun z => q (e4.mpr z)) | exact Int.not_le.mp (fun z => q (e5.mpr z))) hC H locs lsA hP hS hl)
theorem S_if_eq {a : Int} (ha : -2147483648 ≤ a ∧ a ≤ 2147483647 := by omega) (d : DJ cc pc (.ifCond .eq) tgt nx) (kt : a = 0 → SW g X own cc tgt ls st V) (kf : ¬ a = 0 → SW g X own cc nx ls st V) : SW g X own cc pc ls (vi a :: st) V := by
  obtain ⟨⟨p, e, R, s, m⟩, ⟨args, below, meth, c⟩, ⟨nL, cells, slots, Z⟩⟩ := X
  obtain ⟨off, hd, ht, rfl⟩ := d
  intro hC H locs lsA hP hS hl
  show W p g.1 e R s m args below meth c H locs cells slots Z (F0 m pc lsA (.int (Int32.ofInt a) :: st.map (cv g)))
  have h0 : (-2147483648 : Int) ≤ 0 ∧ (0 : Int) ≤ 2147483647 := by omega
  have e1 : Int32.ofInt a = 0 ↔ a = 0 := io_eq ha h0
  have e2 : Int32.ofInt a < 0 ↔ a < 0 := io_lt ha h0
  have e3 : 0 < Int32.ofInt a ↔ 0 < a := io_lt h0 ha
  have e4 : Int32.ofInt a ≤ 0 ↔ a ≤ 0 := io_le ha h0
  have e5 : 0 ≤ Int32.ofInt a ↔ 0 ≤ a := io_le h0 ha
  exact lv_if_eq hC.1 hC.2.1 hd ht (fun q => kt (by first | exact e1.mp q | exact fun z => q (e1.mpr z) | exact e2.mp q | exact e3.mp q | exact e4.mp q | exact e5.mp q) hC H locs lsA hP hS hl) (fun q => kf (by first | exact e1.mp q | exact fun z => q (e1.mpr z) | exact Decidable.byContradiction (fun z => q (fun y => z (e1.mp y))) | exact Int.not_lt.mp (fun z => q (e2.mpr z)) | exact Int.not_lt.mp (fun z => q (e3.mpr z)) | exact Int.not_le.mp (fun z => q (e4.mpr z)) | exact Int.not_le.mp (fun z => q (e5.mpr z))) hC H locs lsA hP hS hl)
theorem S_icmp_ne {a b : Int} (ha : -2147483648 ≤ a ∧ a ≤ 2147483647 := by omega) (hb : -2147483648 ≤ b ∧ b ≤ 2147483647 := by omega) (d : DJ cc pc (.if_icmp .ne) tgt nx) (kt : ¬ a = b → SW g X own cc tgt ls st V) (kf : a = b → SW g X own cc nx ls st V) : SW g X own cc pc ls (vi b :: vi a :: st) V := by
  obtain ⟨⟨p, e, R, s, m⟩, ⟨args, below, meth, c⟩, ⟨nL, cells, slots, Z⟩⟩ := X
  obtain ⟨off, hd, ht, rfl⟩ := d
  intro hC H locs lsA hP hS hl
  show W p g.1 e R s m args below meth c H locs cells slots Z (F0 m pc lsA (.int (Int32.ofInt b) :: .int (Int32.ofInt a) :: st.map (cv g)))
  have e1 := io_eq ha hb
  have e2 := io_lt ha hb
  have e3 := io_lt hb ha
  have e4 := io_le ha hb
  have e5 := io_le hb ha
  exact lv_icmp_ne hC.1 hC.2.1 hd ht (fun q => kt (by first | exact e1.mp q | exact fun z => q (e1.mpr z) | exact e2.mp q | exact e3.mp q | exact e4.mp q | exact e5.mp q) hC H locs lsA hP hS hl) (fun q => kf (by first | exact e1.mp q | exact fun z => q (e1.mpr z) | exact Decidable.byContradiction (fun z => q (fun y => z (e1.mp y))) | exact Int.not_lt.mp (fun z => q (e2.mpr z)) | exact Int.not_lt.mp (fun z => q (e3.mpr z)) | exact Int.not_le.mp (fun z => q (e4.mpr z)) | exact Int.not_le.mp (fun z => q (e5.mpr z))) hC H locs lsA hP hS hl)
theorem S_if_ne {a : Int} (ha : -2147483648 ≤ a ∧ a ≤ 2147483647 := by omega) (d : DJ cc pc (.ifCond .ne) tgt nx) (kt : ¬ a = 0 → SW g X own cc tgt ls st V) (kf : a = 0 → SW g X own cc nx ls st V) : SW g X own cc pc ls (vi a :: st) V := by
  obtain ⟨⟨p, e, R, s, m⟩, ⟨args, below, meth, c⟩, ⟨nL, cells, slots, Z⟩⟩ := X
  obtain ⟨off, hd, ht, rfl⟩ := d
  intro hC H locs lsA hP hS hl
  show W p g.1 e R s m args below meth c H locs cells slots Z (F0 m pc lsA (.int (Int32.ofInt a) :: st.map (cv g)))
  have h0 : (-2147483648 : Int) ≤ 0 ∧ (0 : Int) ≤ 2147483647 := by omega
  have e1 : Int32.ofInt a = 0 ↔ a = 0 := io_eq ha h0
  have e2 : Int32.ofInt a < 0 ↔ a < 0 := io_lt ha h0
  have e3 : 0 < Int32.ofInt a ↔ 0 < a := io_lt h0 ha
  have e4 : Int32.ofInt a ≤ 0 ↔ a ≤ 0 := io_le ha h0
  have e5 : 0 ≤ Int32.ofInt a ↔ 0 ≤ a := io_le h0 ha
  exact lv_if_ne hC.1 hC.2.1 hd ht (fun q => kt (by first | exact e1.mp q | exact fun z => q (e1.mpr z) | exact e2.mp q | exact e3.mp q | exact e4.mp q | exact e5.mp q) hC H locs lsA hP hS hl) (fun q => kf (by first | exact e1.mp q | exact fun z => q (e1.mpr z) | exact Decidable.byContradiction (fun z => q (fun y => z (e1.mp y))) | exact Int.not_lt.mp (fun z => q (e2.mpr z)) | exact Int.not_lt.mp (fun z => q (e3.mpr z)) | exact Int.not_le.mp (fun z => q (e4.mpr z)) | exact Int.not_le.mp (fun z => q (e5.mpr z))) hC H locs lsA hP hS hl)
theorem S_icmp_lt {a b : Int} (ha : -2147483648 ≤ a ∧ a ≤ 2147483647 := by omega) (hb : -2147483648 ≤ b ∧ b ≤ 2147483647 := by omega) (d : DJ cc pc (.if_icmp .lt) tgt nx) (kt : a < b → SW g X own cc tgt ls st V) (kf : b ≤ a → SW g X own cc nx ls st V) : SW g X own cc pc ls (vi b :: vi a :: st) V := by
  obtain ⟨⟨p, e, R, s, m⟩, ⟨args, below, meth, c⟩, ⟨nL, cells, slots, Z⟩⟩ := X
  obtain ⟨off, hd, ht, rfl⟩ := d
  intro hC H locs lsA hP hS hl
  show W p g.1 e R s m args below meth c H locs cells slots Z (F0 m pc lsA (.int (Int32.ofInt b) :: .int (Int32.ofInt a) :: st.map (cv g)))
  have e1 := io_eq ha hb
  have e2 := io_lt ha hb
  have e3 := io_lt hb ha
  have e4 := io_le ha hb
  have e5 := io_le hb ha
  exact lv_icmp_lt hC.1 hC.2.1 hd ht (fun q => kt (by first | exact e1.mp q | exact fun z => q (e1.mpr z) | exact e2.mp q | exact e3.mp q | exact e4.mp q | exact e5.mp q) hC H locs lsA hP hS hl) (fun q => kf (by first | exact e1.mp q | exact fun z => q (e1.mpr z) | exact Decidable.byContradiction (fun z => q (fun y => z (e1.mp y))) | exact Int.not_lt.mp (fun z => q (e2.mpr z)) | exact Int.not_lt.mp (fun z => q (e3.mpr z)) | exact Int.not_le.mp (fun z => q (e4.mpr z)) | exact Int.not_le.mp (fun z => q (e5.mpr z))) hC H locs lsA hP hS hl)
theorem S_if_lt {a : Int} (ha : -2147483648 ≤ a ∧ a ≤ 2147483647 := by omega) (d : DJ cc pc (.ifCond .lt) tgt nx) (kt : a < 0 → SW g X own cc tgt ls st V) (kf : 0 ≤ a → SW g X own cc nx ls st V) : SW g X own cc pc ls (vi a :: st) V := by
  obtain ⟨⟨p, e, R, s, m⟩, ⟨args, below, meth, c⟩, ⟨nL, cells, slots, Z⟩⟩ := X
  obtain ⟨off, hd, ht, rfl⟩ := d
  intro hC H locs lsA hP hS hl
  show W p g.1 e R s m args below meth c H locs cells slots Z (F0 m pc lsA (.int (Int32.ofInt a) :: st.map (cv g)))
  have h0 : (-2147483648 : Int) ≤ 0 ∧ (0 : Int) ≤ 2147483647 := by omega
  have e1 : Int32.ofInt a = 0 ↔ a = 0 := io_eq ha h0
  have e2 : Int32.ofInt a < 0 ↔ a < 0 := io_lt ha h0
  have e3 : 0 < Int32.ofInt a ↔ 0 < a := io_lt h0 ha
  have e4 : Int32.ofInt a ≤ 0 ↔ a ≤ 0 := io_le ha h0
  have e5 : 0 ≤ Int32.ofInt a ↔ 0 ≤ a := io_le h0 ha
  exact lv_if_lt hC.1 hC.2.1 hd ht (fun q => kt (by first | exact e1.mp q | exact fun z => q (e1.mpr z) | exact e2.mp q | exact e3.mp q | exact e4.mp q | exact e5.mp q) hC H locs lsA hP hS hl) (fun q => kf (by first | exact e1.mp q | exact fun z => q (e1.mpr z) | exact Decidable.byContradiction (fun z => q (fun y => z (e1.mp y))) | exact Int.not_lt.mp (fun z => q (e2.mpr z)) | exact Int.not_lt.mp (fun z => q (e3.mpr z)) | exact Int.not_le.mp (fun z => q (e4.mpr z)) | exact Int.not_le.mp (fun z => q (e5.mpr z))) hC H locs lsA hP hS hl)
theorem S_icmp_ge {a b : Int} (ha : -2147483648 ≤ a ∧ a ≤ 2147483647 := by omega) (hb : -2147483648 ≤ b ∧ b ≤ 2147483647 := by omega) (d : DJ cc pc (.if_icmp .ge) tgt nx) (kt : b ≤ a → SW g X own cc tgt ls st V) (kf : a < b → SW g X own cc nx ls st V) : SW g X own cc pc ls (vi b :: vi a :: st) V := by
  obtain ⟨⟨p, e, R, s, m⟩, ⟨args, below, meth, c⟩, ⟨nL, cells, slots, Z⟩⟩ := X
  obtain ⟨off, hd, ht, rfl⟩ := d
  intro hC H locs lsA hP hS hl
  show W p g.1 e R s m args below meth c H locs cells slots Z (F0 m pc lsA (.int (Int32.ofInt b) :: .int (Int32.ofInt a) :: st.map (cv g)))
  have e1 := io_eq ha hb
  have e2 := io_lt ha hb
  have e3 := io_lt hb ha
  have e4 := io_le ha hb
  have e5 := io_le hb ha
  exact lv_icmp_ge hC.1 hC.2.1 hd ht (fun q => kt (by first | exact e1.mp q | exact fun z => q (e1.mpr z) | exact e2.mp q | exact e3.mp q | exact e4.mp q | exact e5.mp q) hC H locs lsA hP hS hl) (fun q => kf (by first | exact e1.mp q | exact fun z => q (e1.mpr z) | exact Decidable.byContradiction (fun z => q (fun y => z (e1.mp y))) | exact Int.not_lt.mp (fun z => q (e2.mpr z)) | exact Int.not_lt.mp (fun z => q (e3.mpr z)) | exact Int.not_le.mp (fun z => q (e4.mpr z)) | exact Int.not_le.mp (fun z => q (e5.mpr z))) hC H locs lsA hP hS hl)
theorem S_if_ge {a : Int} (ha : -2147483648 ≤ a ∧ a ≤ 2147483647 := by omega) (d : DJ cc pc (.ifCond .ge) tgt nx) (kt : 0 ≤ a → SW g X own cc tgt ls st V) (kf : a < 0 → SW g X own cc nx ls st V) : SW g X own cc pc ls (vi a :: st) V := by
  obtain ⟨⟨p, e, R, s, m⟩, ⟨args, below, meth, c⟩, ⟨nL, cells, slots, Z⟩⟩ := X
  obtain ⟨off, hd, ht, rfl⟩ := d
  intro hC H locs lsA hP hS hl
  show W p g.1 e R s m args below meth c H locs cells slots Z (F0 m pc lsA (.int (Int32.ofInt a) :: st.map (cv g)))
  have h0 : (-2147483648 : Int) ≤ 0 ∧ (0 : Int) ≤ 2147483647 := by omega
  have e1 : Int32.ofInt a = 0 ↔ a = 0 := io_eq ha h0
  have e2 : Int32.ofInt a < 0 ↔ a < 0 := io_lt ha h0
  have e3 : 0 < Int32.ofInt a ↔ 0 < a := io_lt h0 ha
  have e4 : Int32.ofInt a ≤ 0 ↔ a ≤ 0 := io_le ha h0
  have e5 : 0 ≤ Int32.ofInt a ↔ 0 ≤ a := io_le h0 ha
  exact lv_if_ge hC.1 hC.2.1 hd ht (fun q => kt (by first | exact e1.mp q | exact fun z => q (e1.mpr z) | exact e2.mp q | exact e3.mp q | exact e4.mp q | exact e5.mp q) hC H locs lsA hP hS hl) (fun q => kf (by first | exact e1.mp q | exact fun z => q (e1.mpr z) | exact Decidable.byContradiction (fun z => q (fun y => z (e1.mp y))) | exact Int.not_lt.mp (fun z => q (e2.mpr z)) | exact Int.not_lt.mp (fun z => q (e3.mpr z)) | exact Int.not_le.mp (fun z => q (e4.mpr z)) | exact Int.not_le.mp (fun z => q (e5.mpr z))) hC H locs lsA hP hS hl)
theorem S_icmp_gt {a b : Int} (ha : -2147483648 ≤ a ∧ a ≤ 2147483647 := by omega) (hb : -2147483648 ≤ b ∧ b ≤ 2147483647 := by omega) (d : DJ cc pc (.if_icmp .gt) tgt nx) (kt : b < a → SW g X own cc tgt ls st V) (kf : a ≤ b → SW g X own cc nx ls st V) : SW g X own cc pc ls (vi b :: vi a :: st) V := by
  obtain ⟨⟨p, e, R, s, m⟩, ⟨args, below, meth, c⟩, ⟨nL, cells, slots, Z⟩⟩ := X
  obtain ⟨off, hd, ht, rfl⟩ := d
  intro hC H locs lsA hP hS hl
  show W p g.1 e R s m args below meth c H locs cells slots Z (F0 m pc lsA (.int (Int32.ofInt b) :: .int (Int32.ofInt a) :: st.map (cv g)))
  have e1 := io_eq ha hb
  have e2 := io_lt ha hb
  have e3 := io_lt hb ha
  have e4 := io_le ha hb
  have e5 := io_le hb ha
  exact lv_icmp_gt hC.1 hC.2.1 hd ht (fun q => kt (by first | exact e1.mp q | exact fun z => q (e1.mpr z) | exact e2.mp q | exact e3.mp q | exact e4.mp q | exact e5.mp q) hC H locs lsA hP hS hl) (fun q => kf (by first | exact e1.mp q | exact fun z => q (e1.mpr z) | exact Decidable.byContradiction (fun z => q (fun y => z (e1.mp y))) | exact Int.not_lt.mp (fun z => q (e2.mpr z)) | exact Int.not_lt.mp (fun z => q (e3.mpr z)) | exact Int.not_le.mp (fun z => q (e4.mpr z)) | exact Int.not_le.mp (fun z => q (e5.mpr z))) hC H locs lsA hP hS hl)
theorem S_if_gt {a : Int} (ha : -2147483648 ≤ a ∧ a ≤ 2147483647 := by omega) (d : DJ cc pc (.ifCond .gt) tgt nx) (kt : 0 < a → SW g X own cc tgt ls st V) (kf : a ≤ 0 → SW g X own cc nx ls st V) : SW g X own cc pc ls (vi a :: st) V := by
  obtain ⟨⟨p, e, R, s, m⟩, ⟨args, below, meth, c⟩, ⟨nL, cells, slots, Z⟩⟩ := X
  obtain ⟨off, hd, ht, rfl⟩ := d
  intro hC H locs lsA hP hS hl
  show W p g.1 e R s m args below meth c H locs cells slots Z (F0 m pc lsA (.int (Int32.ofInt a) :: st.map (cv g)))
  have h0 : (-2147483648 : Int) ≤ 0 ∧ (0 : Int) ≤ 2147483647 := by omega
  have e1 : Int32.ofInt a = 0 ↔ a = 0 := io_eq ha h0
  have e2 : Int32.ofInt a < 0 ↔ a < 0 := io_lt ha h0
  have e3 : 0 < Int32.ofInt a ↔ 0 < a := io_lt h0 ha
  have e4 : Int32.ofInt a ≤ 0 ↔ a ≤ 0 := io_le ha h0
  have e5 : 0 ≤ Int32.ofInt a ↔ 0 ≤ a := io_le h0 ha
  exact lv_if_gt hC.1 hC.2.1 hd ht (fun q => kt (by first | exact e1.mp q | exact fun z => q (e1.mpr z) | exact e2.mp q | exact e3.mp q | exact e4.mp q | exact e5.mp q) hC H locs lsA hP hS hl) (fun q => kf (by first | exact e1.mp q | exact fun z => q (e1.mpr z) | exact Decidable.byContradiction (fun z => q (fun y => z (e1.mp y))) | exact Int.not_lt.mp (fun z => q (e2.mpr z)) | exact Int.not_lt.mp (fun z => q (e3.mpr z)) | exact Int.not_le.mp (fun z => q (e4.mpr z)) | exact Int.not_le.mp (fun z => q (e5.mpr z))) hC H locs lsA hP hS hl)
theorem S_icmp_le {a b : Int} (ha : -2147483648 ≤ a ∧ a ≤ 2147483647 := by omega) (hb : -2147483648 ≤ b ∧ b ≤ 2147483647 := by omega) (d : DJ cc pc (.if_icmp .le) tgt nx) (kt : a ≤ b → SW g X own cc tgt ls st V) (kf : b < a → SW g X own cc nx ls st V) : SW g X own cc pc ls (vi b :: vi a :: st) V := by
  obtain ⟨⟨p, e, R, s, m⟩, ⟨args, below, meth, c⟩, ⟨nL, cells, slots, Z⟩⟩ := X
  obtain ⟨off, hd, ht, rfl⟩ := d
  intro hC H locs lsA hP hS hl
  show W p g.1 e R s m args below meth c H locs cells slots Z (F0 m pc lsA (.int (Int32.ofInt b) :: .int (Int32.ofInt a) :: st.map (cv g)))
  have e1 := io_eq ha hb
  have e2 := io_lt ha hb
  have e3 := io_lt hb ha
  have e4 := io_le ha hb
  have e5 := io_le hb ha
  exact lv_icmp_le hC.1 hC.2.1 hd ht (fun q => kt (by first | exact e1.mp q | exact fun z => q (e1.mpr z) | exact e2.mp q | exact e3.mp q | exact e4.mp q | exact e5.mp q) hC H locs lsA hP hS hl) (fun q => kf (by first | exact e1.mp q | exact fun z => q (e1.mpr z) | exact Decidable.byContradiction (fun z => q (fun y => z (e1.mp y))) | exact Int.not_lt.mp (fun z => q (e2.mpr z)) | exact Int.not_lt.mp (fun z => q (e3.mpr z)) | exact Int.not_le.mp (fun z => q (e4.mpr z)) | exact Int.not_le.mp (fun z => q (e5.mpr z))) hC H locs lsA hP hS hl)
theorem S_if_le {a : Int} (ha : -2147483648 ≤ a ∧ a ≤ 2147483647 := by omega) (d : DJ cc pc (.ifCond .le) tgt nx) (kt : a ≤ 0 → SW g X own cc tgt ls st V) (kf : 0 < a → SW g X own cc nx ls st V) : SW g X own cc pc ls (vi a :: st) V := by
  obtain ⟨⟨p, e, R, s, m⟩, ⟨args, below, meth, c⟩, ⟨nL, cells, slots, Z⟩⟩ := X
  obtain ⟨off, hd, ht, rfl⟩ := d
  intro hC H locs lsA hP hS hl
  show W p g.1 e R s m args below meth c H locs cells slots Z (F0 m pc lsA (.int (Int32.ofInt a) :: st.map (cv g)))
  have h0 : (-2147483648 : Int) ≤ 0 ∧ (0 : Int) ≤ 2147483647 := by omega
  have e1 : Int32.ofInt a = 0 ↔ a = 0 := io_eq ha h0
  have e2 : Int32.ofInt a < 0 ↔ a < 0 := io_lt ha h0
  have e3 : 0 < Int32.ofInt a ↔ 0 < a := io_lt h0 ha
  have e4 : Int32.ofInt a ≤ 0 ↔ a ≤ 0 := io_le ha h0
  have e5 : 0 ≤ Int32.ofInt a ↔ 0 ≤ a := io_le h0 ha
  exact lv_if_le hC.1 hC.2.1 hd ht (fun q => kt (by first | exact e1.mp q | exact fun z => q (e1.mpr z) | exact e2.mp q | exact e3.mp q | exact e4.mp q | exact e5.mp q) hC H locs lsA hP hS hl) (fun q => kf (by first | exact e1.mp q | exact fun z => q (e1.mpr z) | exact Decidable.byContradiction (fun z => q (fun y => z (e1.mp y))) | exact Int.not_lt.mp (fun z => q (e2.mpr z)) | exact Int.not_lt.mp (fun z => q (e3.mpr z)) | exact Int.not_le.mp (fun z => q (e4.mpr z)) | exact Int.not_le.mp (fun z => q (e5.mpr z))) hC H locs lsA hP hS hl)
theorem S_tabIn {a lo hi dflt off : Int} {offs : Array Int} {len : Nat} (d : decode cc pc = .ok (.tableswitch dflt lo hi offs, len)) (ha : lo ≤ a ∧ a ≤ hi) (hr : -2147483648 ≤ a ∧ a ≤ 2147483647 := by omega) (ho : offs[(a - lo).toNat]? = some off) (ht : (pc : Int) + off = (tgt : Int)) (k : SW g X own cc tgt ls st V) : SW g X own cc pc ls (vi a :: st) V := by
  obtain ⟨⟨p, e, R, s, m⟩, ⟨args, below, meth, c⟩, ⟨nL, cells, slots, Z⟩⟩ := X
  intro hC H locs lsA hP hS hl
  have e0 := io_toInt hr
  show W p g.1 e R s m args below meth c H locs cells slots Z (F0 m pc lsA (.int (Int32.ofInt a) :: st.map (cv g)))
  exact lv_tableIn hC.1 hC.2.1 d (by rw [e0]; omega) (by rw [e0]; omega) (by rw [e0]; exact ho) ht (k hC H locs lsA hP hS hl)
theorem S_tabOut {a lo hi dflt : Int} {offs : Array Int} {len : Nat} (d : decode cc pc = .ok (.tableswitch dflt lo hi offs, len)) (ha : a < lo ∨ hi < a) (hr : -2147483648 ≤ a ∧ a ≤ 2147483647 := by omega) (ht : (pc : Int) + dflt = (tgt : Int)) (k : SW g X own cc tgt ls st V) : SW g X own cc pc ls (vi a :: st) V := by
  obtain ⟨⟨p, e, R, s, m⟩, ⟨args, below, meth, c⟩, ⟨nL, cells, slots, Z⟩⟩ := X
  intro hC H locs lsA hP hS hl
  have e0 := io_toInt hr
  show W p g.1 e R s m args below meth c H locs cells slots Z (F0 m pc lsA (.int (Int32.ofInt a) :: st.map (cv g)))
  exact lv_tableOut hC.1 hC.2.1 d (by rw [e0]; exact ha) ht (k hC H locs lsA hP hS hl)
theorem S_lookup {a dflt off : Int} {ps : Array (Int × Int)} {len : Nat} (d : decode cc pc = .ok (.lookupswitch dflt ps, len)) (hp : (ps.toList.zip (ps.toList.drop 1)).all (fun (a, next) => a.1 < next.1) = true) (hr : -2147483648 ≤ a ∧ a ≤ 2147483647 := by omega) (ho : Op.lookupswitch.offset ps.toList dflt a = off) (ht : (pc : Int) + off = (tgt : Int)) (k : SW g X own cc tgt ls st V) : SW g X own cc pc ls (vi a :: st) V := by
  obtain ⟨⟨p, e, R, s, m⟩, ⟨args, below, meth, c⟩, ⟨nL, cells, slots, Z⟩⟩ := X
  intro hC H locs lsA hP hS hl
  have e0 := io_toInt hr
  show W p g.1 e R s m args below meth c H locs cells slots Z (F0 m pc lsA (.int (Int32.ofInt a) :: st.map (cv g)))
  exact lv_lookup hC.1 hC.2.1 d hp (by rw [e0]; exact ho) ht (k hC H locs lsA hP hS hl)
theorem S_iload {i : Nat} {x : Int} (d : DI cc pc (.iload i) 2 nx) (h : ls[i]? = some (some (vi x))) (k : SW g X own cc nx ls ((vi x) :: st) V) : SW g X own cc pc ls st V := by
  obtain ⟨⟨p, e, R, s, m⟩, ⟨args, below, meth, c⟩, ⟨nL, cells, slots, Z⟩⟩ := X
  obtain ⟨hd, rfl⟩ := d
  intro hC H locs lsA hP hS hl
  have hx := hC.1
  have hb := hC.2.1
  exact lv_iload hx hb hd (hl.2.2.1 i _ h) (k hC H locs lsA hP hS hl)
theorem S_iload_n {i : Nat} {q : Fin 4} {x : Int} (d : DI cc pc (.iload_n q) 1 nx) (hq : (q : Nat) = i) (h : ls[i]? = some (some (vi x))) (k : SW g X own cc nx ls ((vi x) :: st) V) : SW g X own cc pc ls st V := by
  obtain ⟨⟨p, e, R, s, m⟩, ⟨args, below, meth, c⟩, ⟨nL, cells, slots, Z⟩⟩ := X
  obtain ⟨hd, rfl⟩ := d
  intro hC H locs lsA hP hS hl
  have hx := hC.1
  have hb := hC.2.1
  exact lv_iload_n hx hb hd hq (hl.2.2.1 i _ h) (k hC H locs lsA hP hS hl)
theorem S_aload {i : Nat} {x : Nat} (d : DI cc pc (.aload i) 2 nx) (h : ls[i]? = some (some (vr x))) (k : SW g X own cc nx ls ((vr x) :: st) V) : SW g X own cc pc ls st V := by
  obtain ⟨⟨p, e, R, s, m⟩, ⟨args, below, meth, c⟩, ⟨nL, cells, slots, Z⟩⟩ := X
  obtain ⟨hd, rfl⟩ := d
  intro hC H locs lsA hP hS hl
  have hx := hC.1
  have hb := hC.2.1
  exact lv_aload hx hb hd (hl.2.2.1 i _ h) (k hC H locs lsA hP hS hl)
theorem S_aload_n {i : Nat} {q : Fin 4} {x : Nat} (d : DI cc pc (.aload_n q) 1 nx) (hq : (q : Nat) = i) (h : ls[i]? = some (some (vr x))) (k : SW g X own cc nx ls ((vr x) :: st) V) : SW g X own cc pc ls st V := by
  obtain ⟨⟨p, e, R, s, m⟩, ⟨args, below, meth, c⟩, ⟨nL, cells, slots, Z⟩⟩ := X
  obtain ⟨hd, rfl⟩ := d
  intro hC H locs lsA hP hS hl
  have hx := hC.1
  have hb := hC.2.1
  exact lv_aload_n hx hb hd hq (hl.2.2.1 i _ h) (k hC H locs lsA hP hS hl)
theorem S_lload {i : Nat} {x : Int} (d : DI cc pc (.lload i) 2 nx) (h : ls[i]? = some (some (vl x))) (k : SW g X own cc nx ls ((vl x) :: st) V) : SW g X own cc pc ls st V := by
  obtain ⟨⟨p, e, R, s, m⟩, ⟨args, below, meth, c⟩, ⟨nL, cells, slots, Z⟩⟩ := X
  obtain ⟨hd, rfl⟩ := d
  intro hC H locs lsA hP hS hl
  have hx := hC.1
  have hb := hC.2.1
  exact lv_lload hx hb hd (hl.2.2.1 i _ h) (k hC H locs lsA hP hS hl)
theorem S_lload_n {i : Nat} {q : Fin 4} {x : Int} (d : DI cc pc (.lload_n q) 1 nx) (hq : (q : Nat) = i) (h : ls[i]? = some (some (vl x))) (k : SW g X own cc nx ls ((vl x) :: st) V) : SW g X own cc pc ls st V := by
  obtain ⟨⟨p, e, R, s, m⟩, ⟨args, below, meth, c⟩, ⟨nL, cells, slots, Z⟩⟩ := X
  obtain ⟨hd, rfl⟩ := d
  intro hC H locs lsA hP hS hl
  have hx := hC.1
  have hb := hC.2.1
  exact lv_lload_n hx hb hd hq (hl.2.2.1 i _ h) (k hC H locs lsA hP hS hl)
/-- the locals as a list of pairs -/
def alA (g : GC) (ls : List (Option AV)) : List (Nat × Value) := (List.range ls.length).filterMap (fun i => match ls[i]? with
  | some (some v) => some (i, cv g v)
  | _ => none)
theorem alA_in {g : GC} {ls : List (Option AV)} {i : Nat} {v : AV} (h : ls[i]? = some (some v)) : (i, cv g v) ∈ alA g ls := by
  refine List.mem_filterMap.mpr ⟨i, List.mem_range.mpr (List.getElem?_eq_some_iff.mp h).1, ?_⟩
  simp only [h]
theorem alA_of {g : GC} {ls : List (Option AV)} {q : Nat × Value} (h : q ∈ alA g ls) : ∃ v, ls[q.1]? = some (some v) ∧ q.2 = cv g v := by
  obtain ⟨i, -, hi⟩ := List.mem_filterMap.mp h
  cases hv : ls[i]? with
  | none => simp [hv] at hi
  | some o =>
    cases o with
    | none => simp [hv] at hi
    | some v =>
      simp only [hv] at hi
      cases hi
      exact ⟨v, hv, rfl⟩
theorem lok_has {g : GC} {lsA : Array Slot} {nL : Nat} {ls : List (Option AV)} (h : lok g lsA nL ls) : lv_has lsA nL (alA g ls) := ⟨h.1, h.2.1, fun q hq => by
  obtain ⟨v, h1, h2⟩ := alA_of hq
  rw [h2]
  exact h.2.2.1 _ v h1⟩
theorem nl_cat {v : AV} (h : nl (some (some v))) : ¬ (cv g v).category = 2 := by rw [cv_cat1 h]; decide
theorem lok_st1 {lsA lsB : Array Slot} {nL i : Nat} {v : AV} (h : lv_has lsB nL ((i, cv g v) :: (alA g ls).filter (fun q => !(q.1 == i) && !(q.1 + 1 == i && q.2.category == 2)))) (hi : i < ls.length) (hn : 0 < i → nl ls[i - 1]?) (hlen : ls.length ≤ nL) : lok g lsB nL (ls.set i (some v)) := by
  refine ⟨h.1, h.2.1, fun j w hj => ?_, by rw [List.length_set]; exact hlen⟩
  by_cases e : j = i
  · subst e
    rw [List.getElem?_set, if_pos rfl, if_pos hi] at hj
    cases hj
    exact h.2.2 _ List.mem_cons_self
  · rw [List.getElem?_set, if_neg (Ne.symm e)] at hj
    refine h.2.2 (j, cv g w) (List.mem_cons_of_mem _ (List.mem_filter.mpr ⟨alA_in hj, ?_⟩))
    simp only [Bool.and_eq_true, Bool.not_eq_true', beq_eq_false_iff_ne, ne_eq, Bool.and_eq_false_iff]
    refine ⟨e, ?_⟩
    by_cases e2 : j + 1 = i
    · refine Or.inr (nl_cat ?_)
      have h3 := hn (by omega)
      have : i - 1 = j := by omega
      rw [this, hj] at h3
      exact h3
    · exact Or.inl e2
theorem lok_st2 {lsA lsB : Array Slot} {nL i : Nat} {v : AV} (h : lv_has lsB nL ((i, cv g v) :: (alA g ls).filter (fun q => !(q.1 == i) && (!(q.1 == i + 1) && !(q.1 + 1 == i && q.2.category == 2))))) (hi : i + 1 < ls.length) (hn : 0 < i → nl ls[i - 1]?) (hlen : ls.length ≤ nL) : lok g lsB nL ((ls.set i (some v)).set (i + 1) none) := by
  refine ⟨h.1, h.2.1, fun j w hj => ?_, by rw [List.length_set, List.length_set]; exact hlen⟩
  by_cases e1 : j = i + 1
  · subst e1
    rw [List.getElem?_set, if_pos rfl] at hj
    split at hj <;> cases hj
  rw [List.getElem?_set, if_neg (Ne.symm e1)] at hj
  by_cases e : j = i
  · subst e
    rw [List.getElem?_set, if_pos rfl, if_pos (by omega)] at hj
    cases hj
    exact h.2.2 _ List.mem_cons_self
  · rw [List.getElem?_set, if_neg (Ne.symm e)] at hj
    refine h.2.2 (j, cv g w) (List.mem_cons_of_mem _ (List.mem_filter.mpr ⟨alA_in hj, ?_⟩))
    simp only [Bool.and_eq_true, Bool.not_eq_true', beq_eq_false_iff_ne, ne_eq, Bool.and_eq_false_iff]
    refine ⟨e, e1, ?_⟩
    by_cases e2 : j + 1 = i
    · refine Or.inr (nl_cat ?_)
      have h3 := hn (by omega)
      have : i - 1 = j := by omega
      rw [this, hj] at h3
      exact h3
    · exact Or.inl e2
theorem lok_nl {lsA : Array Slot} {nL : Nat} (h : lok g lsA nL ls) {i : Nat} {v : AV} (hi : ls[i]? = some (some v)) : i < nL := by
  have := lv_lt (h.2.2.1 i v hi)
  have := h.1
  omega
theorem S_istore {i : Nat}  {x : Int} (d : DI cc pc (.istore i) 2 nx)  (hi : i < ls.length) (hn : 0 < i → nl ls[i - 1]?) (k : SW g X own cc nx (ls.set i (some (vi x))) st V) : SW g X own cc pc ls ((vi x) :: st) V := by
  obtain ⟨⟨p, e, R, s, m⟩, ⟨args, below, meth, c⟩, ⟨nL, cells, slots, Z⟩⟩ := X
  obtain ⟨hd, rfl⟩ := d
  intro hC H locs lsA hP hS hl
  have hx := hC.1
  have hb := hC.2.1
  exact lv_istore hx hb hd  (lok_has hl) (Nat.lt_of_lt_of_le hi hl.2.2.2) rfl (fun ls2 h2 => k hC H locs ls2 hP hS (lok_st1 (lsA := lsA) h2 hi hn hl.2.2.2))
theorem S_istore_n {i : Nat} {q : Fin 4} {x : Int} (d : DI cc pc (.istore_n q) 1 nx) (hq : (q : Nat) = i) (hi : i < ls.length) (hn : 0 < i → nl ls[i - 1]?) (k : SW g X own cc nx (ls.set i (some (vi x))) st V) : SW g X own cc pc ls ((vi x) :: st) V := by
  obtain ⟨⟨p, e, R, s, m⟩, ⟨args, below, meth, c⟩, ⟨nL, cells, slots, Z⟩⟩ := X
  obtain ⟨hd, rfl⟩ := d
  intro hC H locs lsA hP hS hl
  have hx := hC.1
  have hb := hC.2.1
  exact lv_istore_n hx hb hd hq (lok_has hl) (Nat.lt_of_lt_of_le hi hl.2.2.2) rfl (fun ls2 h2 => k hC H locs ls2 hP hS (lok_st1 (lsA := lsA) h2 hi hn hl.2.2.2))
theorem S_astore {i : Nat}  {x : Nat} (d : DI cc pc (.astore i) 2 nx)  (hi : i < ls.length) (hn : 0 < i → nl ls[i - 1]?) (k : SW g X own cc nx (ls.set i (some (vr x))) st V) : SW g X own cc pc ls ((vr x) :: st) V := by
  obtain ⟨⟨p, e, R, s, m⟩, ⟨args, below, meth, c⟩, ⟨nL, cells, slots, Z⟩⟩ := X
  obtain ⟨hd, rfl⟩ := d
  intro hC H locs lsA hP hS hl
  have hx := hC.1
  have hb := hC.2.1
  exact lv_astore hx hb hd  (lok_has hl) (Nat.lt_of_lt_of_le hi hl.2.2.2) rfl (fun ls2 h2 => k hC H locs ls2 hP hS (lok_st1 (lsA := lsA) h2 hi hn hl.2.2.2))
theorem S_astore_n {i : Nat} {q : Fin 4} {x : Nat} (d : DI cc pc (.astore_n q) 1 nx) (hq : (q : Nat) = i) (hi : i < ls.length) (hn : 0 < i → nl ls[i - 1]?) (k : SW g X own cc nx (ls.set i (some (vr x))) st V) : SW g X own cc pc ls ((vr x) :: st) V := by
  obtain ⟨⟨p, e, R, s, m⟩, ⟨args, below, meth, c⟩, ⟨nL, cells, slots, Z⟩⟩ := X
  obtain ⟨hd, rfl⟩ := d
  intro hC H locs lsA hP hS hl
  have hx := hC.1
  have hb := hC.2.1
  exact lv_astore_n hx hb hd hq (lok_has hl) (Nat.lt_of_lt_of_le hi hl.2.2.2) rfl (fun ls2 h2 => k hC H locs ls2 hP hS (lok_st1 (lsA := lsA) h2 hi hn hl.2.2.2))
theorem S_lstore {i : Nat}  {x : Int} (d : DI cc pc (.lstore i) 2 nx)  (hi : i + 1 < ls.length) (hn : 0 < i → nl ls[i - 1]?) (k : SW g X own cc nx ((ls.set i (some (vl x))).set (i + 1) none) st V) : SW g X own cc pc ls (vl x :: st) V := by
  obtain ⟨⟨p, e, R, s, m⟩, ⟨args, below, meth, c⟩, ⟨nL, cells, slots, Z⟩⟩ := X
  obtain ⟨hd, rfl⟩ := d
  intro hC H locs lsA hP hS hl
  have hx := hC.1
  have hb := hC.2.1
  exact lv_lstore hx hb hd  (lok_has hl) (Nat.lt_of_lt_of_le hi hl.2.2.2) rfl (fun ls2 h2 => k hC H locs ls2 hP hS (lok_st2 (lsA := lsA) h2 hi hn hl.2.2.2))
theorem S_lstore_n {i : Nat} {q : Fin 4} {x : Int} (d : DI cc pc (.lstore_n q) 1 nx) (hq : (q : Nat) = i) (hi : i + 1 < ls.length) (hn : 0 < i → nl ls[i - 1]?) (k : SW g X own cc nx ((ls.set i (some (vl x))).set (i + 1) none) st V) : SW g X own cc pc ls (vl x :: st) V := by
  obtain ⟨⟨p, e, R, s, m⟩, ⟨args, below, meth, c⟩, ⟨nL, cells, slots, Z⟩⟩ := X
  obtain ⟨hd, rfl⟩ := d
  intro hC H locs lsA hP hS hl
  have hx := hC.1
  have hb := hC.2.1
  exact lv_lstore_n hx hb hd hq (lok_has hl) (Nat.lt_of_lt_of_le hi hl.2.2.2) rfl (fun ls2 h2 => k hC H locs ls2 hP hS (lok_st2 (lsA := lsA) h2 hi hn hl.2.2.2))
theorem S_iinc {i : Nat} {n x : Int} (d : DI cc pc (.iinc i n) 3 nx) (h : ls[i]? = some (some (vi x))) (hn : 0 < i → nl ls[i - 1]?) (k : SW g X own cc nx (ls.set i (some (vi (x + n)))) st V) : SW g X own cc pc ls st V := by
  obtain ⟨⟨p, e, R, s, m⟩, ⟨args, below, meth, c⟩, ⟨nL, cells, slots, Z⟩⟩ := X
  obtain ⟨hd, rfl⟩ := d
  intro hC H locs lsA hP hS hl
  have hx := hC.1
  have hb := hC.2.1
  have hm := alA_in (g := g) h
  obtain ⟨k0, hk0⟩ := List.getElem?_of_mem hm
  exact lv_iinc (v := Int32.ofInt (x + n)) hx hb hd (lok_has hl) hk0 (io_add x n) (lok_nl hl h) rfl (fun ls2 h2 => k hC H locs ls2 hP hS (lok_st1 (lsA := lsA) (v := vi (x + n)) h2 (List.getElem?_eq_some_iff.mp h).1 hn hl.2.2.2))
end RU
