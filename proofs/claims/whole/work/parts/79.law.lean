
/-! the law: the script lies at place 250; both sides hold one Z at the loop's head -/
def LX (g : GC) (X : CX) (L : Nat) (xs : Nat → Int32) : Prop := match X with
  | ((_, _, _, s, _), _, _) => va_X (g.2.2.1 250) L xs s s.heap ∧ g.2.2.1 250 < s.heap.size ∧ ¬ g.2.2.2.1 (g.2.2.1 250)
def sc (xs : Nat → Int32) (j : Int) : Int := (xs j.toNat).toInt
theorem sc_r (xs : Nat → Int32) (j : Int) : -2147483648 ≤ sc xs j ∧ sc xs j ≤ 2147483647 := io_rg _
theorem MA.hi {V V' : MM} {Z : ZT} (hZ : MA V Z) (h : Hi V V') : MA V' Z := by
  have e : Z.1 = fsM V' := by
    rw [hZ.1.1.1]
    unfold fsM
    rw [h 83 (by omega), h 84 (by omega), h 85 (by omega), h 86 (by omega), h 87 (by omega), h 88 (by omega)]
  exact MA.fs hZ (fun k hk => h k (by omega)) (fun j _ => by rw [h 83 (by omega)]) e hZ.1.1.2.2.2 hZ.1.2 (Int.le_refl _)
theorem CA.lo {V V' : MM} {Z : ZT} (hZ : CA V Z) (h : Lo V V') : CA V' Z := hZ.cong (fun k hk _ _ => h k hk)
section LW
variable {g : GC} {X : CX} {L : Nat} {xs : Nat → Int32} {own : String} {cc : ByteArray} {pc nx tgt : Nat} {ls : List (Option AV)} {st : List AV} {V : MM}
theorem S_sld {i : Int} (hx : LX g X L xs) (hL : L ≤ 3072) (d : DI cc pc .iaload 1 nx) (hi : 0 ≤ i ∧ i < L) (K : SW g X own cc nx ls (vi (sc xs i) :: st) V) : SW g X own cc pc ls (vi i :: vr 250 :: st) V := by
  obtain ⟨⟨p, e, R, s, m⟩, ⟨args, below, meth, c⟩, ⟨nL, cells, slots, Z⟩⟩ := X
  obtain ⟨hd, rfl⟩ := d
  obtain ⟨h1, h2, h3⟩ := hx
  intro hC H locs lsA hP hS hl
  have hc : (Int32.ofInt i).toNatClampNeg = i.toNat := io_cl (by omega)
  have he : Int32.ofInt (sc xs i) = xs i.toNat := io_ofInt _
  refine va_sld hC.1 hC.2.1 h1 h2 h3 hS (io_in hi.1 hi.2 (by omega)) hd ?_
  show W p g.1 e R s m args below meth c H locs cells slots Z (F0 m (pc + 1) lsA (.int (xs (Int32.ofInt i).toNatClampNeg) :: st.map (cv g)))
  rw [hc, ← he]
  exact K hC H locs lsA hP hS hl
theorem S_slen (hx : LX g X L xs) (d : DI cc pc .arraylength 1 nx) (K : SW g X own cc nx ls (vi (L : Int) :: st) V) : SW g X own cc pc ls (vr 250 :: st) V := by
  obtain ⟨⟨p, e, R, s, m⟩, ⟨args, below, meth, c⟩, ⟨nL, cells, slots, Z⟩⟩ := X
  obtain ⟨hd, rfl⟩ := d
  obtain ⟨h1, h2, h3⟩ := hx
  intro hC H locs lsA hP hS hl
  have he : Int32.ofInt (L : Int) = Int32.ofNat L := rfl
  refine va_slen hC.1 hC.2.1 h1 h2 h3 hS hd ?_
  rw [← he]
  exact K hC H locs lsA hP hS hl
theorem S_same {a : Int} (d : DJ cc pc (.if_icmp .eq) tgt nx) (k : SW g X own cc tgt ls st V) : SW g X own cc pc ls (vi a :: vi a :: st) V := by
  obtain ⟨⟨p, e, R, s, m⟩, ⟨args, below, meth, c⟩, ⟨nL, cells, slots, Z⟩⟩ := X
  obtain ⟨off, hd, ht, rfl⟩ := d
  intro hC H locs lsA hP hS hl
  show W p g.1 e R s m args below meth c H locs cells slots Z (F0 m pc lsA (.int (Int32.ofInt a) :: .int (Int32.ofInt a) :: st.map (cv g)))
  exact lv_icmp_eq hC.1 hC.2.1 hd ht (fun _ => k hC H locs lsA hP hS hl) (fun q => absurd rfl q)
theorem S_sameL {a : Int} {n2 : Nat} (d : DI cc pc .lcmp 1 nx) (d2 : DJ cc nx (.ifCond .eq) tgt n2) (k : SW g X own cc tgt ls st V) : SW g X own cc pc ls (vl a :: vl a :: st) V := by
  refine S_lcmp d ?_
  have e : (lg_cmp (Int64.ofInt a) (Int64.ofInt a)).toInt = 0 := by
    unfold lg_cmp
    simp
  rw [e]
  exact S_if_eq (d := d2) (kt := fun _ => k) (kf := fun q => absurd rfl q)
abbrev lsL (i : Int) : List (Option AV) := [some (vr 250), some (vr 0), some (vr 83), some (vi i)]
/-- script[i + k] onto the stack -/
theorem S_arg {i k : Int} {p1 p2 p3 p4 : Nat} (hx : LX g X L xs) (hL : L ≤ 3072) (hi : 0 ≤ i + k ∧ i + k < L) (d1 : DI cc pc (.aload_n 0) 1 p1) (d2 : DI cc p1 (.iload_n 3) 1 p2) (d3 : DI cc p2 (.iconst k) 1 p3) (d4 : DI cc p3 .iadd 1 p4) (d5 : DI cc p4 .iaload 1 nx)
    (K : SW g X own cc nx (lsL i) (vi (sc xs (i + k)) :: st) V) : SW g X own cc pc (lsL i) st V := by
  refine S_al0 d1 ?_
  refine S_il3 d2 ?_
  refine S_iconst d3 ?_
  refine S_iadd d4 ?_
  exact S_sld hx hL d5 hi K
end LW

theorem lw_d {X : CX} {n d : Nat} (hD : Dp X d) (h : n ≤ d) : Dp X n := by
  obtain ⟨⟨p, e, R, s, m⟩, ⟨args, below, meth, c⟩, ⟨nL, cells, slots, Z⟩⟩ := X
  obtain ⟨h1, h2⟩ := hD
  exact ⟨Nat.le_trans h h1, Nat.le_trans (Nat.mul_le_mul_left _ h) h2⟩

theorem law_0 {g : GC} {X : CX} {L : Nat} {xs : Nat → Int32} {i : Int} {V : MM} {Z : ZT} (hx : LX g X L xs) (hL : L ≤ 3072) (hD : Dp X 40) (hi : 0 ≤ i ∧ i + 6 ≤ L) (hC : CA V Z) (hM : MA V Z) (K : ∀ (V2 : MM) (Z2 : ZT), CA V2 Z2 → MA V2 Z2 → SW g X RL cL_law 1384 (lsL i) [] V2) : SW g X RL cL_law 204 (lsL i) [] V := by
  refine S_al1 qL_law_204 ?_
  refine S_arg (k := 1) hx hL (by omega) qL_law_205 qL_law_206 qL_law_207 qL_law_208 qL_law_209 ?_
  refine S_arg (k := 2) hx hL (by omega) qL_law_210 qL_law_211 qL_law_212 qL_law_213 qL_law_214 ?_
  refine S_arg (k := 3) hx hL (by omega) qL_law_215 qL_law_216 qL_law_217 qL_law_218 qL_law_219 ?_
  refine S_callV (n := 3) hD qL_law_220 lL_13 vX6_dancer r0 (c_dancer hC (sc_r xs (i + 1)) (sc_r xs (i + 2)) (sc_r xs (i + 3))) (by decide) rfl rfl (by exact Nat.le_of_ble_eq_true rfl) (fun x1 V1 h1 => ?_)
  obtain ⟨rfl, c1, k1⟩ := h1
  show SW g X RL cL_law _ _ [_] _
  refine S_al2 qL_law_223 ?_
  refine S_arg (k := 1) hx hL (by omega) qL_law_224 qL_law_225 qL_law_226 qL_law_227 qL_law_228 ?_
  refine S_arg (k := 2) hx hL (by omega) qL_law_229 qL_law_230 qL_law_231 qL_law_232 qL_law_233 ?_
  refine S_arg (k := 3) hx hL (by omega) qL_law_234 qL_law_235 qL_law_236 qL_law_237 qL_law_238 ?_
  refine S_callV (n := 3) hD qL_law_239 lL_17 vX7_dancer r83 (m_dancer (hM.hi k1) (sc_r xs (i + 1)) (sc_r xs (i + 2)) (sc_r xs (i + 3))) (by decide) rfl rfl (by exact Nat.le_of_ble_eq_true rfl) (fun x2 V2 h2 => ?_)
  obtain ⟨rfl, c2, k2⟩ := h2
  show SW g X RL cL_law _ _ [_, _] _
  exact S_same qL_law_242 (K V2 _ (c1.lo k2) c2)
theorem law_1 {g : GC} {X : CX} {L : Nat} {xs : Nat → Int32} {i : Int} {V : MM} {Z : ZT} (hx : LX g X L xs) (hL : L ≤ 3072) (hD : Dp X 40) (hi : 0 ≤ i ∧ i + 6 ≤ L) (hC : CA V Z) (hM : MA V Z) (K : ∀ (V2 : MM) (Z2 : ZT), CA V2 Z2 → MA V2 Z2 → SW g X RL cL_law 1384 (lsL i) [] V2) : SW g X RL cL_law 247 (lsL i) [] V := by
  refine S_al1 qL_law_247 ?_
  refine S_arg (k := 1) hx hL (by omega) qL_law_248 qL_law_249 qL_law_250 qL_law_251 qL_law_252 ?_
  refine S_arg (k := 2) hx hL (by omega) qL_law_253 qL_law_254 qL_law_255 qL_law_256 qL_law_257 ?_
  refine S_callV (n := 2) hD qL_law_258 lL_18 vX6_of r0 (c_of hC (sc_r xs (i + 1)) (sc_r xs (i + 2))) (by decide) rfl rfl (by exact Nat.le_of_ble_eq_true rfl) (fun x1 V1 h1 => ?_)
  obtain ⟨rfl, c1, k1⟩ := h1
  show SW g X RL cL_law _ _ [_] _
  refine S_al2 qL_law_261 ?_
  refine S_arg (k := 1) hx hL (by omega) qL_law_262 qL_law_263 qL_law_264 qL_law_265 qL_law_266 ?_
  refine S_arg (k := 2) hx hL (by omega) qL_law_267 qL_law_268 qL_law_269 qL_law_270 qL_law_271 ?_
  refine S_callV (n := 2) hD qL_law_272 lL_22 vX7_of r83 (m_of (hM.hi k1) (sc_r xs (i + 1)) (sc_r xs (i + 2))) (by decide) rfl rfl (by exact Nat.le_of_ble_eq_true rfl) (fun x2 V2 h2 => ?_)
  obtain ⟨rfl, c2, k2⟩ := h2
  show SW g X RL cL_law _ _ [_, _] _
  exact S_same qL_law_275 (K V2 _ (c1.lo k2) c2)
theorem law_2 {g : GC} {X : CX} {L : Nat} {xs : Nat → Int32} {i : Int} {V : MM} {Z : ZT} (hx : LX g X L xs) (hL : L ≤ 3072) (hD : Dp X 40) (hi : 0 ≤ i ∧ i + 6 ≤ L) (hC : CA V Z) (hM : MA V Z) (K : ∀ (V2 : MM) (Z2 : ZT), CA V2 Z2 → MA V2 Z2 → SW g X RL cL_law 1384 (lsL i) [] V2) : SW g X RL cL_law 280 (lsL i) [] V := by
  refine S_al1 qL_law_280 ?_
  refine S_arg (k := 1) hx hL (by omega) qL_law_281 qL_law_282 qL_law_283 qL_law_284 qL_law_285 ?_
  refine S_arg (k := 2) hx hL (by omega) qL_law_286 qL_law_287 qL_law_288 qL_law_289 qL_law_290 ?_
  refine S_callV (n := 2) hD qL_law_291 lL_23 vX6_after r0 (c_after hC (sc_r xs (i + 1)) (sc_r xs (i + 2))) (by decide) rfl rfl (by exact Nat.le_of_ble_eq_true rfl) (fun x1 V1 h1 => ?_)
  obtain ⟨rfl, c1, k1⟩ := h1
  show SW g X RL cL_law _ _ [_] _
  refine S_al2 qL_law_294 ?_
  refine S_arg (k := 1) hx hL (by omega) qL_law_295 qL_law_296 qL_law_297 qL_law_298 qL_law_299 ?_
  refine S_arg (k := 2) hx hL (by omega) qL_law_300 qL_law_301 qL_law_302 qL_law_303 qL_law_304 ?_
  refine S_callV (n := 2) hD qL_law_305 lL_26 vX7_after r83 (m_after (hM.hi k1) (sc_r xs (i + 1)) (sc_r xs (i + 2))) (by decide) rfl rfl (by exact Nat.le_of_ble_eq_true rfl) (fun x2 V2 h2 => ?_)
  obtain ⟨rfl, c2, k2⟩ := h2
  show SW g X RL cL_law _ _ [_, _] _
  exact S_same qL_law_308 (K V2 _ (c1.lo k2) c2)
theorem law_3 {g : GC} {X : CX} {L : Nat} {xs : Nat → Int32} {i : Int} {V : MM} {Z : ZT} (hx : LX g X L xs) (hL : L ≤ 3072) (hD : Dp X 40) (hi : 0 ≤ i ∧ i + 6 ≤ L) (hC : CA V Z) (hM : MA V Z) (K : ∀ (V2 : MM) (Z2 : ZT), CA V2 Z2 → MA V2 Z2 → SW g X RL cL_law 1384 (lsL i) [] V2) : SW g X RL cL_law 313 (lsL i) [] V := by
  refine S_al1 qL_law_313 ?_
  refine S_arg (k := 1) hx hL (by omega) qL_law_314 qL_law_315 qL_law_316 qL_law_317 qL_law_318 ?_
  refine S_arg (k := 2) hx hL (by omega) qL_law_319 qL_law_320 qL_law_321 qL_law_322 qL_law_323 ?_
  refine S_callV (n := 2) hD qL_law_324 lL_27 vX6_begin r0 (c_begin hC (sc_r xs (i + 1)) (sc_r xs (i + 2))) (by decide) rfl rfl (by exact Nat.le_of_ble_eq_true rfl) (fun x1 V1 h1 => ?_)
  obtain ⟨rfl, c1, k1⟩ := h1
  show SW g X RL cL_law _ _ [_] _
  refine S_al2 qL_law_327 ?_
  refine S_arg (k := 1) hx hL (by omega) qL_law_328 qL_law_329 qL_law_330 qL_law_331 qL_law_332 ?_
  refine S_arg (k := 2) hx hL (by omega) qL_law_333 qL_law_334 qL_law_335 qL_law_336 qL_law_337 ?_
  refine S_callV (n := 2) hD qL_law_338 lL_30 vX7_begin r83 (m_begin (hM.hi k1) (sc_r xs (i + 1)) (sc_r xs (i + 2))) (by decide) rfl rfl (by exact Nat.le_of_ble_eq_true rfl) (fun x2 V2 h2 => ?_)
  obtain ⟨rfl, c2, k2⟩ := h2
  show SW g X RL cL_law _ _ [_, _] _
  exact S_same qL_law_341 (K V2 _ (c1.lo k2) c2)
theorem law_4 {g : GC} {X : CX} {L : Nat} {xs : Nat → Int32} {i : Int} {V : MM} {Z : ZT} (hx : LX g X L xs) (hL : L ≤ 3072) (hD : Dp X 40) (hi : 0 ≤ i ∧ i + 6 ≤ L) (hC : CA V Z) (hM : MA V Z) (K : ∀ (V2 : MM) (Z2 : ZT), CA V2 Z2 → MA V2 Z2 → SW g X RL cL_law 1384 (lsL i) [] V2) : SW g X RL cL_law 346 (lsL i) [] V := by
  refine S_al1 qL_law_346 ?_
  refine S_arg (k := 1) hx hL (by omega) qL_law_347 qL_law_348 qL_law_349 qL_law_350 qL_law_351 ?_
  refine S_arg (k := 2) hx hL (by omega) qL_law_352 qL_law_353 qL_law_354 qL_law_355 qL_law_356 ?_
  refine S_arg (k := 3) hx hL (by omega) qL_law_357 qL_law_358 qL_law_359 qL_law_360 qL_law_361 ?_
  refine S_callV (n := 3) hD qL_law_362 lL_31 vX6_row r0 (c_row hC (sc_r xs (i + 1)) (sc_r xs (i + 2)) (sc_r xs (i + 3))) (by decide) rfl rfl (by exact Nat.le_of_ble_eq_true rfl) (fun x1 V1 h1 => ?_)
  obtain ⟨rfl, c1, k1⟩ := h1
  show SW g X RL cL_law _ _ [_] _
  refine S_al2 qL_law_365 ?_
  refine S_arg (k := 1) hx hL (by omega) qL_law_366 qL_law_367 qL_law_368 qL_law_369 qL_law_370 ?_
  refine S_arg (k := 2) hx hL (by omega) qL_law_371 qL_law_372 qL_law_373 qL_law_374 qL_law_375 ?_
  refine S_arg (k := 3) hx hL (by omega) qL_law_376 qL_law_377 qL_law_378 qL_law_379 qL_law_380 ?_
  refine S_callV (n := 3) hD qL_law_381 lL_34 vX7_row r83 (m_row (hM.hi k1) (sc_r xs (i + 1)) (sc_r xs (i + 2)) (sc_r xs (i + 3))) (by decide) rfl rfl (by exact Nat.le_of_ble_eq_true rfl) (fun x2 V2 h2 => ?_)
  obtain ⟨rfl, c2, k2⟩ := h2
  show SW g X RL cL_law _ _ [_, _] _
  exact S_same qL_law_384 (K V2 _ (c1.lo k2) c2)
theorem law_5 {g : GC} {X : CX} {L : Nat} {xs : Nat → Int32} {i : Int} {V : MM} {Z : ZT} (hx : LX g X L xs) (hL : L ≤ 3072) (hD : Dp X 40) (hi : 0 ≤ i ∧ i + 6 ≤ L) (hC : CA V Z) (hM : MA V Z) (K : ∀ (V2 : MM) (Z2 : ZT), CA V2 Z2 → MA V2 Z2 → SW g X RL cL_law 1384 (lsL i) [] V2) : SW g X RL cL_law 389 (lsL i) [] V := by
  refine S_al1 qL_law_389 ?_
  refine S_arg (k := 1) hx hL (by omega) qL_law_390 qL_law_391 qL_law_392 qL_law_393 qL_law_394 ?_
  refine S_callV (n := 1) hD qL_law_395 lL_35 vX6_feed r0 (c_feed hC (sc_r xs (i + 1))) (by decide) rfl rfl (by exact Nat.le_of_ble_eq_true rfl) (fun x1 V1 h1 => ?_)
  obtain ⟨rfl, c1, k1⟩ := h1
  show SW g X RL cL_law _ _ [_] _
  refine S_al2 qL_law_398 ?_
  refine S_arg (k := 1) hx hL (by omega) qL_law_399 qL_law_400 qL_law_401 qL_law_402 qL_law_403 ?_
  refine S_callV (n := 1) hD qL_law_404 lL_39 vX7_feed r83 (m_feed (hM.hi k1) (sc_r xs (i + 1))) (by decide) rfl rfl (by exact Nat.le_of_ble_eq_true rfl) (fun x2 V2 h2 => ?_)
  obtain ⟨rfl, c2, k2⟩ := h2
  show SW g X RL cL_law _ _ [_, _] _
  exact S_same qL_law_407 (K V2 _ (c1.lo k2) c2)
theorem law_6 {g : GC} {X : CX} {L : Nat} {xs : Nat → Int32} {i : Int} {V : MM} {Z : ZT} (hx : LX g X L xs) (hL : L ≤ 3072) (hD : Dp X 40) (hi : 0 ≤ i ∧ i + 6 ≤ L) (hC : CA V Z) (hM : MA V Z) (K : ∀ (V2 : MM) (Z2 : ZT), CA V2 Z2 → MA V2 Z2 → SW g X RL cL_law 1384 (lsL i) [] V2) : SW g X RL cL_law 412 (lsL i) [] V := by
  refine S_al1 qL_law_412 ?_
  refine S_callV (n := 0) hD qL_law_413 lL_40 vX6_hall r0 (c_hall hC) (by decide) rfl rfl (by exact Nat.le_of_ble_eq_true rfl) (fun x1 V1 h1 => ?_)
  obtain ⟨rfl, c1, k1⟩ := h1
  show SW g X RL cL_law _ _ [_] _
  refine S_al2 qL_law_416 ?_
  refine S_callV (n := 0) hD qL_law_417 lL_44 vX7_hall r83 (m_hall (hM.hi k1)) (by decide) rfl rfl (by exact Nat.le_of_ble_eq_true rfl) (fun x2 V2 h2 => ?_)
  obtain ⟨rfl, c2, k2⟩ := h2
  show SW g X RL cL_law _ _ [_, _] _
  exact S_same qL_law_420 (K V2 _ (c1.lo k2) c2)
theorem law_7 {g : GC} {X : CX} {L : Nat} {xs : Nat → Int32} {i : Int} {V : MM} {Z : ZT} (hx : LX g X L xs) (hL : L ≤ 3072) (hD : Dp X 40) (hi : 0 ≤ i ∧ i + 6 ≤ L) (hC : CA V Z) (hM : MA V Z) (K : ∀ (V2 : MM) (Z2 : ZT), CA V2 Z2 → MA V2 Z2 → SW g X RL cL_law 1384 (lsL i) [] V2) : SW g X RL cL_law 425 (lsL i) [] V := by
  refine S_al1 qL_law_425 ?_
  refine S_arg (k := 1) hx hL (by omega) qL_law_426 qL_law_427 qL_law_428 qL_law_429 qL_law_430 ?_
  refine S_callV (n := 1) hD qL_law_431 lL_45 vX6_told r0 (c_told hC (sc_r xs (i + 1))) (by decide) rfl rfl (by exact Nat.le_of_ble_eq_true rfl) (fun x1 V1 h1 => ?_)
  obtain ⟨rfl, c1, k1⟩ := h1
  show SW g X RL cL_law _ _ [_] _
  refine S_al2 qL_law_434 ?_
  refine S_arg (k := 1) hx hL (by omega) qL_law_435 qL_law_436 qL_law_437 qL_law_438 qL_law_439 ?_
  refine S_callV (n := 1) hD qL_law_440 lL_48 vX7_told r83 (m_told (hM.hi k1) (sc_r xs (i + 1))) (by decide) rfl rfl (by exact Nat.le_of_ble_eq_true rfl) (fun x2 V2 h2 => ?_)
  obtain ⟨rfl, c2, k2⟩ := h2
  show SW g X RL cL_law _ _ [_, _] _
  exact S_same qL_law_443 (K V2 _ (c1.lo k2) c2)
theorem law_8 {g : GC} {X : CX} {L : Nat} {xs : Nat → Int32} {i : Int} {V : MM} {Z : ZT} (hx : LX g X L xs) (hL : L ≤ 3072) (hD : Dp X 40) (hi : 0 ≤ i ∧ i + 6 ≤ L) (hC : CA V Z) (hM : MA V Z) (K : ∀ (V2 : MM) (Z2 : ZT), CA V2 Z2 → MA V2 Z2 → SW g X RL cL_law 1384 (lsL i) [] V2) : SW g X RL cL_law 448 (lsL i) [] V := by
  refine S_al1 qL_law_448 ?_
  refine S_arg (k := 1) hx hL (by omega) qL_law_449 qL_law_450 qL_law_451 qL_law_452 qL_law_453 ?_
  refine S_callV (n := 1) hD qL_law_454 lL_49 vX6_pass r0 (c_pass hC (sc_r xs (i + 1))) (by decide) rfl rfl (by exact Nat.le_of_ble_eq_true rfl) (fun x1 V1 h1 => ?_)
  obtain ⟨rfl, c1, k1⟩ := h1
  show SW g X RL cL_law _ _ [_] _
  refine S_al2 qL_law_457 ?_
  refine S_arg (k := 1) hx hL (by omega) qL_law_458 qL_law_459 qL_law_460 qL_law_461 qL_law_462 ?_
  refine S_callV (n := 1) hD qL_law_463 lL_52 vX7_pass r83 (m_pass (hM.hi k1) (sc_r xs (i + 1))) (by decide) rfl rfl (by exact Nat.le_of_ble_eq_true rfl) (fun x2 V2 h2 => ?_)
  obtain ⟨rfl, c2, k2⟩ := h2
  show SW g X RL cL_law _ _ [_, _] _
  exact S_same qL_law_466 (K V2 _ (c1.lo k2) c2)
theorem law_9 {g : GC} {X : CX} {L : Nat} {xs : Nat → Int32} {i : Int} {V : MM} {Z : ZT} (hx : LX g X L xs) (hL : L ≤ 3072) (hD : Dp X 40) (hi : 0 ≤ i ∧ i + 6 ≤ L) (hC : CA V Z) (hM : MA V Z) (K : ∀ (V2 : MM) (Z2 : ZT), CA V2 Z2 → MA V2 Z2 → SW g X RL cL_law 1384 (lsL i) [] V2) : SW g X RL cL_law 471 (lsL i) [] V := by
  refine S_al1 qL_law_471 ?_
  refine S_arg (k := 1) hx hL (by omega) qL_law_472 qL_law_473 qL_law_474 qL_law_475 qL_law_476 ?_
  refine S_arg (k := 2) hx hL (by omega) qL_law_477 qL_law_478 qL_law_479 qL_law_480 qL_law_481 ?_
  refine S_callV (n := 2) hD qL_law_482 lL_53 vX6_on r0 (c_on hC (sc_r xs (i + 1)) (sc_r xs (i + 2))) (by decide) rfl rfl (by exact Nat.le_of_ble_eq_true rfl) (fun x1 V1 h1 => ?_)
  obtain ⟨rfl, c1, k1⟩ := h1
  show SW g X RL cL_law _ _ [_] _
  refine S_al2 qL_law_485 ?_
  refine S_arg (k := 1) hx hL (by omega) qL_law_486 qL_law_487 qL_law_488 qL_law_489 qL_law_490 ?_
  refine S_arg (k := 2) hx hL (by omega) qL_law_491 qL_law_492 qL_law_493 qL_law_494 qL_law_495 ?_
  refine S_callV (n := 2) hD qL_law_496 lL_56 vX7_on r83 (m_on (hM.hi k1) (sc_r xs (i + 1)) (sc_r xs (i + 2))) (by decide) rfl rfl (by exact Nat.le_of_ble_eq_true rfl) (fun x2 V2 h2 => ?_)
  obtain ⟨rfl, c2, k2⟩ := h2
  show SW g X RL cL_law _ _ [_, _] _
  exact S_same qL_law_499 (K V2 _ (c1.lo k2) c2)
theorem law_10 {g : GC} {X : CX} {L : Nat} {xs : Nat → Int32} {i : Int} {V : MM} {Z : ZT} (hx : LX g X L xs) (hL : L ≤ 3072) (hD : Dp X 40) (hi : 0 ≤ i ∧ i + 6 ≤ L) (hC : CA V Z) (hM : MA V Z) (K : ∀ (V2 : MM) (Z2 : ZT), CA V2 Z2 → MA V2 Z2 → SW g X RL cL_law 1384 (lsL i) [] V2) : SW g X RL cL_law 504 (lsL i) [] V := by
  refine S_al1 qL_law_504 ?_
  refine S_callV (n := 0) hD qL_law_505 lL_57 vX6_again r0 (c_again hC) (by decide) rfl rfl (by exact Nat.le_of_ble_eq_true rfl) (fun x1 V1 h1 => ?_)
  obtain ⟨rfl, c1, k1⟩ := h1
  show SW g X RL cL_law _ _ [_] _
  refine S_al2 qL_law_508 ?_
  refine S_callV (n := 0) hD qL_law_509 lL_60 vX7_again r83 (m_again (hM.hi k1)) (by decide) rfl rfl (by exact Nat.le_of_ble_eq_true rfl) (fun x2 V2 h2 => ?_)
  obtain ⟨rfl, c2, k2⟩ := h2
  show SW g X RL cL_law _ _ [_, _] _
  exact S_same qL_law_512 (K V2 _ (c1.lo k2) c2)
theorem law_11 {g : GC} {X : CX} {L : Nat} {xs : Nat → Int32} {i : Int} {V : MM} {Z : ZT} (hx : LX g X L xs) (hL : L ≤ 3072) (hD : Dp X 40) (hi : 0 ≤ i ∧ i + 6 ≤ L) (hC : CA V Z) (hM : MA V Z) (K : ∀ (V2 : MM) (Z2 : ZT), CA V2 Z2 → MA V2 Z2 → SW g X RL cL_law 1384 (lsL i) [] V2) : SW g X RL cL_law 517 (lsL i) [] V := by
  refine S_al1 qL_law_517 ?_
  refine S_callV (n := 0) hD qL_law_518 lL_61 vX6_together r0 (c_together hC) (by decide) rfl rfl (by exact Nat.le_of_ble_eq_true rfl) (fun x1 V1 h1 => ?_)
  obtain ⟨rfl, c1, k1⟩ := h1
  show SW g X RL cL_law _ _ [_] _
  refine S_al2 qL_law_521 ?_
  refine S_callV (n := 0) hD qL_law_522 lL_64 vX7_together r83 (m_together (hM.hi k1)) (by decide) rfl rfl (by exact Nat.le_of_ble_eq_true rfl) (fun x2 V2 h2 => ?_)
  obtain ⟨rfl, c2, k2⟩ := h2
  show SW g X RL cL_law _ _ [_, _] _
  exact S_same qL_law_525 (K V2 _ (c1.lo k2) c2)
theorem law_12 {g : GC} {X : CX} {L : Nat} {xs : Nat → Int32} {i : Int} {V : MM} {Z : ZT} (hx : LX g X L xs) (hL : L ≤ 3072) (hD : Dp X 40) (hi : 0 ≤ i ∧ i + 6 ≤ L) (hC : CA V Z) (hM : MA V Z) (K : ∀ (V2 : MM) (Z2 : ZT), CA V2 Z2 → MA V2 Z2 → SW g X RL cL_law 1384 (lsL i) [] V2) : SW g X RL cL_law 530 (lsL i) [] V := by
  refine S_al1 qL_law_530 ?_
  refine S_callV (n := 0) hD qL_law_531 lL_65 vX6_still r0 (c_still hC) (by decide) rfl rfl (by exact Nat.le_of_ble_eq_true rfl) (fun x1 V1 h1 => ?_)
  obtain ⟨rfl, c1, k1⟩ := h1
  show SW g X RL cL_law _ _ [_] _
  refine S_al2 qL_law_534 ?_
  refine S_callV (n := 0) hD qL_law_535 lL_68 vX7_still r83 (m_still (hM.hi k1)) (by decide) rfl rfl (by exact Nat.le_of_ble_eq_true rfl) (fun x2 V2 h2 => ?_)
  obtain ⟨rfl, c2, k2⟩ := h2
  show SW g X RL cL_law _ _ [_, _] _
  exact S_same qL_law_538 (K V2 _ (c1.lo k2) c2)
theorem law_13 {g : GC} {X : CX} {L : Nat} {xs : Nat → Int32} {i : Int} {V : MM} {Z : ZT} (hx : LX g X L xs) (hL : L ≤ 3072) (hD : Dp X 40) (hi : 0 ≤ i ∧ i + 6 ≤ L) (hC : CA V Z) (hM : MA V Z) (K : ∀ (V2 : MM) (Z2 : ZT), CA V2 Z2 → MA V2 Z2 → SW g X RL cL_law 1384 (lsL i) [] V2) : SW g X RL cL_law 543 (lsL i) [] V := by
  refine S_al1 qL_law_543 ?_
  refine S_arg (k := 1) hx hL (by omega) qL_law_544 qL_law_545 qL_law_546 qL_law_547 qL_law_548 ?_
  refine S_arg (k := 2) hx hL (by omega) qL_law_549 qL_law_550 qL_law_551 qL_law_552 qL_law_553 ?_
  refine S_callV (n := 2) hD qL_law_554 lL_69 vX6_meet r0 (c_meet hC (sc_r xs (i + 1)) (sc_r xs (i + 2))) (by decide) rfl rfl (by exact Nat.le_of_ble_eq_true rfl) (fun x1 V1 h1 => ?_)
  obtain ⟨rfl, c1, k1⟩ := h1
  show SW g X RL cL_law _ _ [_] _
  refine S_al2 qL_law_557 ?_
  refine S_arg (k := 1) hx hL (by omega) qL_law_558 qL_law_559 qL_law_560 qL_law_561 qL_law_562 ?_
  refine S_arg (k := 2) hx hL (by omega) qL_law_563 qL_law_564 qL_law_565 qL_law_566 qL_law_567 ?_
  refine S_callV (n := 2) hD qL_law_568 lL_72 vX7_meet r83 (m_meet (hM.hi k1) (sc_r xs (i + 1)) (sc_r xs (i + 2))) (by decide) rfl rfl (by exact Nat.le_of_ble_eq_true rfl) (fun x2 V2 h2 => ?_)
  obtain ⟨rfl, c2, k2⟩ := h2
  show SW g X RL cL_law _ _ [_, _] _
  exact S_same qL_law_571 (K V2 _ (c1.lo k2) c2)
theorem law_14 {g : GC} {X : CX} {L : Nat} {xs : Nat → Int32} {i : Int} {V : MM} {Z : ZT} (hx : LX g X L xs) (hL : L ≤ 3072) (hD : Dp X 40) (hi : 0 ≤ i ∧ i + 6 ≤ L) (hC : CA V Z) (hM : MA V Z) (K : ∀ (V2 : MM) (Z2 : ZT), CA V2 Z2 → MA V2 Z2 → SW g X RL cL_law 1384 (lsL i) [] V2) : SW g X RL cL_law 576 (lsL i) [] V := by
  refine S_al1 qL_law_576 ?_
  refine S_arg (k := 1) hx hL (by omega) qL_law_577 qL_law_578 qL_law_579 qL_law_580 qL_law_581 ?_
  refine S_arg (k := 2) hx hL (by omega) qL_law_582 qL_law_583 qL_law_584 qL_law_585 qL_law_586 ?_
  refine S_arg (k := 3) hx hL (by omega) qL_law_587 qL_law_588 qL_law_589 qL_law_590 qL_law_591 ?_
  refine S_callV (n := 3) hD qL_law_592 lL_73 vX6_far r0 (c_far hC (sc_r xs (i + 1)) (sc_r xs (i + 2)) (sc_r xs (i + 3))) (by decide) rfl rfl (by exact Nat.le_of_ble_eq_true rfl) (fun x1 V1 h1 => ?_)
  obtain ⟨rfl, c1, k1⟩ := h1
  show SW g X RL cL_law _ _ [_] _
  refine S_al2 qL_law_595 ?_
  refine S_arg (k := 1) hx hL (by omega) qL_law_596 qL_law_597 qL_law_598 qL_law_599 qL_law_600 ?_
  refine S_arg (k := 2) hx hL (by omega) qL_law_601 qL_law_602 qL_law_603 qL_law_604 qL_law_605 ?_
  refine S_arg (k := 3) hx hL (by omega) qL_law_606 qL_law_607 qL_law_608 qL_law_609 qL_law_610 ?_
  refine S_callV (n := 3) hD qL_law_611 lL_76 vX7_far r83 (m_far (hM.hi k1) (sc_r xs (i + 1)) (sc_r xs (i + 2)) (sc_r xs (i + 3))) (by decide) rfl rfl (by exact Nat.le_of_ble_eq_true rfl) (fun x2 V2 h2 => ?_)
  obtain ⟨rfl, c2, k2⟩ := h2
  show SW g X RL cL_law _ _ [_, _] _
  exact S_same qL_law_614 (K V2 _ (c1.lo k2) c2)
theorem law_15 {g : GC} {X : CX} {L : Nat} {xs : Nat → Int32} {i : Int} {V : MM} {Z : ZT} (hx : LX g X L xs) (hL : L ≤ 3072) (hD : Dp X 40) (hi : 0 ≤ i ∧ i + 6 ≤ L) (hC : CA V Z) (hM : MA V Z) (K : ∀ (V2 : MM) (Z2 : ZT), CA V2 Z2 → MA V2 Z2 → SW g X RL cL_law 1384 (lsL i) [] V2) : SW g X RL cL_law 619 (lsL i) [] V := by
  refine S_al1 qL_law_619 ?_
  refine S_arg (k := 1) hx hL (by omega) qL_law_620 qL_law_621 qL_law_622 qL_law_623 qL_law_624 ?_
  refine S_callV (n := 1) hD qL_law_625 lL_77 vX6_whom r0 (c_whom hC (sc_r xs (i + 1))) (by decide) rfl rfl (by exact Nat.le_of_ble_eq_true rfl) (fun x1 V1 h1 => ?_)
  obtain ⟨rfl, c1, k1⟩ := h1
  show SW g X RL cL_law _ _ [_] _
  refine S_al2 qL_law_628 ?_
  refine S_arg (k := 1) hx hL (by omega) qL_law_629 qL_law_630 qL_law_631 qL_law_632 qL_law_633 ?_
  refine S_callV (n := 1) hD qL_law_634 lL_80 vX7_whom r83 (m_whom (hM.hi k1) (sc_r xs (i + 1))) (by decide) rfl rfl (by exact Nat.le_of_ble_eq_true rfl) (fun x2 V2 h2 => ?_)
  obtain ⟨rfl, c2, k2⟩ := h2
  show SW g X RL cL_law _ _ [_, _] _
  exact S_same qL_law_637 (K V2 _ (c1.lo k2) c2)
theorem law_16 {g : GC} {X : CX} {L : Nat} {xs : Nat → Int32} {i : Int} {V : MM} {Z : ZT} (hx : LX g X L xs) (hL : L ≤ 3072) (hD : Dp X 40) (hi : 0 ≤ i ∧ i + 6 ≤ L) (hC : CA V Z) (hM : MA V Z) (K : ∀ (V2 : MM) (Z2 : ZT), CA V2 Z2 → MA V2 Z2 → SW g X RL cL_law 1384 (lsL i) [] V2) : SW g X RL cL_law 642 (lsL i) [] V := by
  refine S_al1 qL_law_642 ?_
  refine S_arg (k := 1) hx hL (by omega) qL_law_643 qL_law_644 qL_law_645 qL_law_646 qL_law_647 ?_
  refine S_arg (k := 2) hx hL (by omega) qL_law_648 qL_law_649 qL_law_650 qL_law_651 qL_law_652 ?_
  refine S_arg (k := 3) hx hL (by omega) qL_law_653 qL_law_654 qL_law_655 qL_law_656 qL_law_657 ?_
  refine S_callV (n := 3) hD qL_law_658 lL_81 vX6_alone r0 (c_alone hC (sc_r xs (i + 1)) (sc_r xs (i + 2)) (sc_r xs (i + 3))) (by decide) rfl rfl (by exact Nat.le_of_ble_eq_true rfl) (fun x1 V1 h1 => ?_)
  obtain ⟨rfl, c1, k1⟩ := h1
  show SW g X RL cL_law _ _ [_] _
  refine S_al2 qL_law_661 ?_
  refine S_arg (k := 1) hx hL (by omega) qL_law_662 qL_law_663 qL_law_664 qL_law_665 qL_law_666 ?_
  refine S_arg (k := 2) hx hL (by omega) qL_law_667 qL_law_668 qL_law_669 qL_law_670 qL_law_671 ?_
  refine S_arg (k := 3) hx hL (by omega) qL_law_672 qL_law_673 qL_law_674 qL_law_675 qL_law_676 ?_
  refine S_callV (n := 3) hD qL_law_677 lL_84 vX7_alone r83 (m_alone (hM.hi k1) (sc_r xs (i + 1)) (sc_r xs (i + 2)) (sc_r xs (i + 3))) (by decide) rfl rfl (by exact Nat.le_of_ble_eq_true rfl) (fun x2 V2 h2 => ?_)
  obtain ⟨rfl, c2, k2⟩ := h2
  show SW g X RL cL_law _ _ [_, _] _
  exact S_same qL_law_680 (K V2 _ (c1.lo k2) c2)
theorem law_17 {g : GC} {X : CX} {L : Nat} {xs : Nat → Int32} {i : Int} {V : MM} {Z : ZT} (hx : LX g X L xs) (hL : L ≤ 3072) (hD : Dp X 40) (hi : 0 ≤ i ∧ i + 6 ≤ L) (hC : CA V Z) (hM : MA V Z) (K : ∀ (V2 : MM) (Z2 : ZT), CA V2 Z2 → MA V2 Z2 → SW g X RL cL_law 1384 (lsL i) [] V2) : SW g X RL cL_law 685 (lsL i) [] V := by
  refine S_al1 qL_law_685 ?_
  refine S_callV (n := 0) hD qL_law_686 lL_85 vX6_stop r0 (c_stop hC) (by decide) rfl rfl (by exact Nat.le_of_ble_eq_true rfl) (fun x1 V1 h1 => ?_)
  obtain ⟨rfl, c1, k1⟩ := h1
  show SW g X RL cL_law _ _ [_] _
  refine S_al2 qL_law_689 ?_
  refine S_callV (n := 0) hD qL_law_690 lL_88 vX7_stop r83 (m_stop (hM.hi k1)) (by decide) rfl rfl (by exact Nat.le_of_ble_eq_true rfl) (fun x2 V2 h2 => ?_)
  obtain ⟨rfl, c2, k2⟩ := h2
  show SW g X RL cL_law _ _ [_, _] _
  exact S_same qL_law_693 (K V2 _ (c1.lo k2) c2)
theorem law_18 {g : GC} {X : CX} {L : Nat} {xs : Nat → Int32} {i : Int} {V : MM} {Z : ZT} (hx : LX g X L xs) (hL : L ≤ 3072) (hD : Dp X 40) (hi : 0 ≤ i ∧ i + 6 ≤ L) (hC : CA V Z) (hM : MA V Z) (K : ∀ (V2 : MM) (Z2 : ZT), CA V2 Z2 → MA V2 Z2 → SW g X RL cL_law 1384 (lsL i) [] V2) : SW g X RL cL_law 698 (lsL i) [] V := by
  refine S_al1 qL_law_698 ?_
  refine S_arg (k := 1) hx hL (by omega) qL_law_699 qL_law_700 qL_law_701 qL_law_702 qL_law_703 ?_
  refine S_arg (k := 2) hx hL (by omega) qL_law_704 qL_law_705 qL_law_706 qL_law_707 qL_law_708 ?_
  refine S_arg (k := 3) hx hL (by omega) qL_law_709 qL_law_710 qL_law_711 qL_law_712 qL_law_713 ?_
  refine S_callV (n := 3) hD qL_law_714 lL_89 vX6_begins r0 (c_begins hC (sc_r xs (i + 1)) (sc_r xs (i + 2)) (sc_r xs (i + 3))) (by decide) rfl rfl (by exact Nat.le_of_ble_eq_true rfl) (fun x1 V1 h1 => ?_)
  obtain ⟨rfl, c1, k1⟩ := h1
  show SW g X RL cL_law _ _ [_] _
  refine S_al2 qL_law_717 ?_
  refine S_arg (k := 1) hx hL (by omega) qL_law_718 qL_law_719 qL_law_720 qL_law_721 qL_law_722 ?_
  refine S_arg (k := 2) hx hL (by omega) qL_law_723 qL_law_724 qL_law_725 qL_law_726 qL_law_727 ?_
  refine S_arg (k := 3) hx hL (by omega) qL_law_728 qL_law_729 qL_law_730 qL_law_731 qL_law_732 ?_
  refine S_callV (n := 3) hD qL_law_733 lL_92 vX7_begins r83 (m_begins (hM.hi k1) (sc_r xs (i + 1)) (sc_r xs (i + 2)) (sc_r xs (i + 3))) (by decide) rfl rfl (by exact Nat.le_of_ble_eq_true rfl) (fun x2 V2 h2 => ?_)
  obtain ⟨rfl, c2, k2⟩ := h2
  show SW g X RL cL_law _ _ [_, _] _
  exact S_same qL_law_736 (K V2 _ (c1.lo k2) c2)
theorem law_19 {g : GC} {X : CX} {L : Nat} {xs : Nat → Int32} {i : Int} {V : MM} {Z : ZT} (hx : LX g X L xs) (hL : L ≤ 3072) (hD : Dp X 40) (hi : 0 ≤ i ∧ i + 6 ≤ L) (hC : CA V Z) (hM : MA V Z) (K : ∀ (V2 : MM) (Z2 : ZT), CA V2 Z2 → MA V2 Z2 → SW g X RL cL_law 1384 (lsL i) [] V2) : SW g X RL cL_law 741 (lsL i) [] V := by
  refine S_al1 qL_law_741 ?_
  refine S_arg (k := 1) hx hL (by omega) qL_law_742 qL_law_743 qL_law_744 qL_law_745 qL_law_746 ?_
  refine S_callV (n := 1) hD qL_law_747 lL_93 vX6_crowd r0 (c_crowd hC (sc_r xs (i + 1))) (by decide) rfl rfl (by exact Nat.le_of_ble_eq_true rfl) (fun x1 V1 h1 => ?_)
  obtain ⟨rfl, c1, k1⟩ := h1
  show SW g X RL cL_law _ _ [_] _
  refine S_al2 qL_law_750 ?_
  refine S_arg (k := 1) hx hL (by omega) qL_law_751 qL_law_752 qL_law_753 qL_law_754 qL_law_755 ?_
  refine S_callV (n := 1) hD qL_law_756 lL_96 vX7_crowd r83 (m_crowd (hM.hi k1) (sc_r xs (i + 1))) (by decide) rfl rfl (by exact Nat.le_of_ble_eq_true rfl) (fun x2 V2 h2 => ?_)
  obtain ⟨rfl, c2, k2⟩ := h2
  show SW g X RL cL_law _ _ [_, _] _
  exact S_same qL_law_759 (K V2 _ (c1.lo k2) c2)
theorem law_20 {g : GC} {X : CX} {L : Nat} {xs : Nat → Int32} {i : Int} {V : MM} {Z : ZT} (hx : LX g X L xs) (hL : L ≤ 3072) (hD : Dp X 40) (hi : 0 ≤ i ∧ i + 6 ≤ L) (hC : CA V Z) (hM : MA V Z) (K : ∀ (V2 : MM) (Z2 : ZT), CA V2 Z2 → MA V2 Z2 → SW g X RL cL_law 1384 (lsL i) [] V2) : SW g X RL cL_law 764 (lsL i) [] V := by
  refine S_al1 qL_law_764 ?_
  refine S_arg (k := 1) hx hL (by omega) qL_law_765 qL_law_766 qL_law_767 qL_law_768 qL_law_769 ?_
  refine S_arg (k := 2) hx hL (by omega) qL_law_770 qL_law_771 qL_law_772 qL_law_773 qL_law_774 ?_
  refine S_arg (k := 3) hx hL (by omega) qL_law_775 qL_law_776 qL_law_777 qL_law_778 qL_law_779 ?_
  refine S_callV (n := 3) hD qL_law_780 lL_97 vX6_see r0 (c_see hC (sc_r xs (i + 1)) (sc_r xs (i + 2)) (sc_r xs (i + 3))) (by decide) rfl rfl (by exact Nat.le_of_ble_eq_true rfl) (fun x1 V1 h1 => ?_)
  obtain ⟨rfl, c1, k1⟩ := h1
  show SW g X RL cL_law _ _ [_] _
  refine S_al2 qL_law_783 ?_
  refine S_arg (k := 1) hx hL (by omega) qL_law_784 qL_law_785 qL_law_786 qL_law_787 qL_law_788 ?_
  refine S_arg (k := 2) hx hL (by omega) qL_law_789 qL_law_790 qL_law_791 qL_law_792 qL_law_793 ?_
  refine S_arg (k := 3) hx hL (by omega) qL_law_794 qL_law_795 qL_law_796 qL_law_797 qL_law_798 ?_
  refine S_callV (n := 3) hD qL_law_799 lL_100 vX7_see r83 (m_see (hM.hi k1) (sc_r xs (i + 1)) (sc_r xs (i + 2)) (sc_r xs (i + 3))) (by decide) rfl rfl (by exact Nat.le_of_ble_eq_true rfl) (fun x2 V2 h2 => ?_)
  obtain ⟨rfl, c2, k2⟩ := h2
  show SW g X RL cL_law _ _ [_, _] _
  exact S_same qL_law_802 (K V2 _ (c1.lo k2) c2)
theorem law_21 {g : GC} {X : CX} {L : Nat} {xs : Nat → Int32} {i : Int} {V : MM} {Z : ZT} (hx : LX g X L xs) (hL : L ≤ 3072) (hD : Dp X 40) (hi : 0 ≤ i ∧ i + 6 ≤ L) (hC : CA V Z) (hM : MA V Z) (K : ∀ (V2 : MM) (Z2 : ZT), CA V2 Z2 → MA V2 Z2 → SW g X RL cL_law 1384 (lsL i) [] V2) : SW g X RL cL_law 807 (lsL i) [] V := by
  refine S_al1 qL_law_807 ?_
  refine S_arg (k := 1) hx hL (by omega) qL_law_808 qL_law_809 qL_law_810 qL_law_811 qL_law_812 ?_
  refine S_callV (n := 1) hD qL_law_813 lL_101 vX6_can r0 (c_can hC (sc_r xs (i + 1))) (by decide) rfl rfl (by exact Nat.le_of_ble_eq_true rfl) (fun x1 V1 h1 => ?_)
  obtain ⟨rfl, c1, k1⟩ := h1
  show SW g X RL cL_law _ _ [_] _
  refine S_al2 qL_law_816 ?_
  refine S_arg (k := 1) hx hL (by omega) qL_law_817 qL_law_818 qL_law_819 qL_law_820 qL_law_821 ?_
  refine S_callV (n := 1) hD qL_law_822 lL_104 vX7_can r83 (m_can (hM.hi k1) (sc_r xs (i + 1))) (by decide) rfl rfl (by exact Nat.le_of_ble_eq_true rfl) (fun x2 V2 h2 => ?_)
  obtain ⟨rfl, c2, k2⟩ := h2
  show SW g X RL cL_law _ _ [_, _] _
  exact S_same qL_law_825 (K V2 _ (c1.lo k2) c2)
theorem law_22 {g : GC} {X : CX} {L : Nat} {xs : Nat → Int32} {i : Int} {V : MM} {Z : ZT} (hx : LX g X L xs) (hL : L ≤ 3072) (hD : Dp X 40) (hi : 0 ≤ i ∧ i + 6 ≤ L) (hC : CA V Z) (hM : MA V Z) (K : ∀ (V2 : MM) (Z2 : ZT), CA V2 Z2 → MA V2 Z2 → SW g X RL cL_law 1384 (lsL i) [] V2) : SW g X RL cL_law 830 (lsL i) [] V := by
  refine S_al1 qL_law_830 ?_
  refine S_arg (k := 1) hx hL (by omega) qL_law_831 qL_law_832 qL_law_833 qL_law_834 qL_law_835 ?_
  refine S_arg (k := 2) hx hL (by omega) qL_law_836 qL_law_837 qL_law_838 qL_law_839 qL_law_840 ?_
  refine S_callV (n := 2) hD qL_law_841 lL_105 vX6_odds r0 (c_odds hC (sc_r xs (i + 1)) (sc_r xs (i + 2))) (by decide) rfl rfl (by exact Nat.le_of_ble_eq_true rfl) (fun x1 V1 h1 => ?_)
  obtain ⟨rfl, c1, k1⟩ := h1
  show SW g X RL cL_law _ _ [_] _
  refine S_al2 qL_law_844 ?_
  refine S_arg (k := 1) hx hL (by omega) qL_law_845 qL_law_846 qL_law_847 qL_law_848 qL_law_849 ?_
  refine S_arg (k := 2) hx hL (by omega) qL_law_850 qL_law_851 qL_law_852 qL_law_853 qL_law_854 ?_
  refine S_callV (n := 2) hD qL_law_855 lL_109 vX7_odds r83 (m_odds (hM.hi k1) (sc_r xs (i + 1)) (sc_r xs (i + 2))) (by decide) rfl rfl (by exact Nat.le_of_ble_eq_true rfl) (fun x2 V2 h2 => ?_)
  obtain ⟨rfl, c2, k2⟩ := h2
  show SW g X RL cL_law _ _ [_, _] _
  exact S_sameL qL_law_858 qL_law_859 (K V2 _ (c1.lo k2) c2)
theorem law_23 {g : GC} {X : CX} {L : Nat} {xs : Nat → Int32} {i : Int} {V : MM} {Z : ZT} (hx : LX g X L xs) (hL : L ≤ 3072) (hD : Dp X 40) (hi : 0 ≤ i ∧ i + 6 ≤ L) (hC : CA V Z) (hM : MA V Z) (K : ∀ (V2 : MM) (Z2 : ZT), CA V2 Z2 → MA V2 Z2 → SW g X RL cL_law 1384 (lsL i) [] V2) : SW g X RL cL_law 864 (lsL i) [] V := by
  refine S_al1 qL_law_864 ?_
  refine S_arg (k := 1) hx hL (by omega) qL_law_865 qL_law_866 qL_law_867 qL_law_868 qL_law_869 ?_
  refine S_arg (k := 2) hx hL (by omega) qL_law_870 qL_law_871 qL_law_872 qL_law_873 qL_law_874 ?_
  refine S_callV (n := 2) hD qL_law_875 lL_110 vX6_mean r0 (c_mean hC (sc_r xs (i + 1)) (sc_r xs (i + 2))) (by decide) rfl rfl (by exact Nat.le_of_ble_eq_true rfl) (fun x1 V1 h1 => ?_)
  obtain ⟨rfl, c1, k1⟩ := h1
  show SW g X RL cL_law _ _ [_] _
  refine S_al2 qL_law_878 ?_
  refine S_arg (k := 1) hx hL (by omega) qL_law_879 qL_law_880 qL_law_881 qL_law_882 qL_law_883 ?_
  refine S_arg (k := 2) hx hL (by omega) qL_law_884 qL_law_885 qL_law_886 qL_law_887 qL_law_888 ?_
  refine S_callV (n := 2) hD qL_law_889 lL_113 vX7_mean r83 (m_mean (hM.hi k1) (sc_r xs (i + 1)) (sc_r xs (i + 2))) (by decide) rfl rfl (by exact Nat.le_of_ble_eq_true rfl) (fun x2 V2 h2 => ?_)
  obtain ⟨rfl, c2, k2⟩ := h2
  show SW g X RL cL_law _ _ [_, _] _
  exact S_sameL qL_law_892 qL_law_893 (K V2 _ (c1.lo k2) c2)
theorem law_24 {g : GC} {X : CX} {L : Nat} {xs : Nat → Int32} {i : Int} {V : MM} {Z : ZT} (hx : LX g X L xs) (hL : L ≤ 3072) (hD : Dp X 40) (hi : 0 ≤ i ∧ i + 6 ≤ L) (hC : CA V Z) (hM : MA V Z) (K : ∀ (V2 : MM) (Z2 : ZT), CA V2 Z2 → MA V2 Z2 → SW g X RL cL_law 1384 (lsL i) [] V2) : SW g X RL cL_law 898 (lsL i) [] V := by
  refine S_al1 qL_law_898 ?_
  refine S_arg (k := 1) hx hL (by omega) qL_law_899 qL_law_900 qL_law_901 qL_law_902 qL_law_903 ?_
  refine S_callV (n := 1) hD qL_law_904 lL_114 vX6_dance r0 (c_dance hC (sc_r xs (i + 1))) (by decide) rfl rfl (by exact Nat.le_of_ble_eq_true rfl) (fun x1 V1 h1 => ?_)
  obtain ⟨rfl, c1, k1⟩ := h1
  show SW g X RL cL_law _ _ [_] _
  refine S_al2 qL_law_907 ?_
  refine S_arg (k := 1) hx hL (by omega) qL_law_908 qL_law_909 qL_law_910 qL_law_911 qL_law_912 ?_
  refine S_callV (n := 1) hD qL_law_913 lL_117 vX7_dance r83 (m_dance (hM.hi k1) (sc_r xs (i + 1))) (by decide) rfl rfl (by exact Nat.le_of_ble_eq_true rfl) (fun x2 V2 h2 => ?_)
  obtain ⟨rfl, c2, k2⟩ := h2
  show SW g X RL cL_law _ _ [_, _] _
  exact S_same qL_law_916 (K V2 _ (c1.lo k2) c2)
theorem law_25 {g : GC} {X : CX} {L : Nat} {xs : Nat → Int32} {i : Int} {V : MM} {Z : ZT} (hx : LX g X L xs) (hL : L ≤ 3072) (hD : Dp X 40) (hi : 0 ≤ i ∧ i + 6 ≤ L) (hC : CA V Z) (hM : MA V Z) (K : ∀ (V2 : MM) (Z2 : ZT), CA V2 Z2 → MA V2 Z2 → SW g X RL cL_law 1384 (lsL i) [] V2) : SW g X RL cL_law 921 (lsL i) [] V := by
  refine S_al1 qL_law_921 ?_
  refine S_arg (k := 1) hx hL (by omega) qL_law_922 qL_law_923 qL_law_924 qL_law_925 qL_law_926 ?_
  refine S_callV (n := 1) hD qL_law_927 lL_118 vX6_danced r0 (c_danced hC (sc_r xs (i + 1))) (by decide) rfl rfl (by exact Nat.le_of_ble_eq_true rfl) (fun x1 V1 h1 => ?_)
  obtain ⟨rfl, c1, k1⟩ := h1
  show SW g X RL cL_law _ _ [_] _
  refine S_al2 qL_law_930 ?_
  refine S_arg (k := 1) hx hL (by omega) qL_law_931 qL_law_932 qL_law_933 qL_law_934 qL_law_935 ?_
  refine S_callV (n := 1) hD qL_law_936 lL_121 vX7_danced r83 (m_danced (hM.hi k1) (sc_r xs (i + 1))) (by decide) rfl rfl (by exact Nat.le_of_ble_eq_true rfl) (fun x2 V2 h2 => ?_)
  obtain ⟨rfl, c2, k2⟩ := h2
  show SW g X RL cL_law _ _ [_, _] _
  exact S_same qL_law_939 (K V2 _ (c1.lo k2) c2)
theorem law_26 {g : GC} {X : CX} {L : Nat} {xs : Nat → Int32} {i : Int} {V : MM} {Z : ZT} (hx : LX g X L xs) (hL : L ≤ 3072) (hD : Dp X 40) (hi : 0 ≤ i ∧ i + 6 ≤ L) (hC : CA V Z) (hM : MA V Z) (K : ∀ (V2 : MM) (Z2 : ZT), CA V2 Z2 → MA V2 Z2 → SW g X RL cL_law 1384 (lsL i) [] V2) : SW g X RL cL_law 944 (lsL i) [] V := by
  refine S_al1 qL_law_944 ?_
  refine S_arg (k := 1) hx hL (by omega) qL_law_945 qL_law_946 qL_law_947 qL_law_948 qL_law_949 ?_
  refine S_arg (k := 2) hx hL (by omega) qL_law_950 qL_law_951 qL_law_952 qL_law_953 qL_law_954 ?_
  refine S_callV (n := 2) hD qL_law_955 lL_122 vX6_book r0 (c_book hC (sc_r xs (i + 1)) (sc_r xs (i + 2))) (by decide) rfl rfl (by exact Nat.le_of_ble_eq_true rfl) (fun x1 V1 h1 => ?_)
  obtain ⟨rfl, c1, k1⟩ := h1
  show SW g X RL cL_law _ _ [_] _
  refine S_al2 qL_law_958 ?_
  refine S_arg (k := 1) hx hL (by omega) qL_law_959 qL_law_960 qL_law_961 qL_law_962 qL_law_963 ?_
  refine S_arg (k := 2) hx hL (by omega) qL_law_964 qL_law_965 qL_law_966 qL_law_967 qL_law_968 ?_
  refine S_callV (n := 2) hD qL_law_969 lL_125 vX7_book r83 (m_book (hM.hi k1) (sc_r xs (i + 1)) (sc_r xs (i + 2))) (by decide) rfl rfl (by exact Nat.le_of_ble_eq_true rfl) (fun x2 V2 h2 => ?_)
  obtain ⟨rfl, c2, k2⟩ := h2
  show SW g X RL cL_law _ _ [_, _] _
  exact S_same qL_law_972 (K V2 _ (c1.lo k2) c2)
theorem law_27 {g : GC} {X : CX} {L : Nat} {xs : Nat → Int32} {i : Int} {V : MM} {Z : ZT} (hx : LX g X L xs) (hL : L ≤ 3072) (hD : Dp X 40) (hi : 0 ≤ i ∧ i + 6 ≤ L) (hC : CA V Z) (hM : MA V Z) (K : ∀ (V2 : MM) (Z2 : ZT), CA V2 Z2 → MA V2 Z2 → SW g X RL cL_law 1384 (lsL i) [] V2) : SW g X RL cL_law 977 (lsL i) [] V := by
  refine S_al1 qL_law_977 ?_
  refine S_callV (n := 0) hD qL_law_978 lL_126 vX6_looked r0 (c_looked hC) (by decide) rfl rfl (by exact Nat.le_of_ble_eq_true rfl) (fun x1 V1 h1 => ?_)
  obtain ⟨rfl, c1, k1⟩ := h1
  show SW g X RL cL_law _ _ [_] _
  refine S_al2 qL_law_981 ?_
  refine S_callV (n := 0) hD qL_law_982 lL_129 vX7_looked r83 (m_looked (hM.hi k1)) (by decide) rfl rfl (by exact Nat.le_of_ble_eq_true rfl) (fun x2 V2 h2 => ?_)
  obtain ⟨rfl, c2, k2⟩ := h2
  show SW g X RL cL_law _ _ [_, _] _
  exact S_same qL_law_985 (K V2 _ (c1.lo k2) c2)
theorem law_28 {g : GC} {X : CX} {L : Nat} {xs : Nat → Int32} {i : Int} {V : MM} {Z : ZT} (hx : LX g X L xs) (hL : L ≤ 3072) (hD : Dp X 40) (hi : 0 ≤ i ∧ i + 6 ≤ L) (hC : CA V Z) (hM : MA V Z) (K : ∀ (V2 : MM) (Z2 : ZT), CA V2 Z2 → MA V2 Z2 → SW g X RL cL_law 1384 (lsL i) [] V2) : SW g X RL cL_law 990 (lsL i) [] V := by
  refine S_al1 qL_law_990 ?_
  refine S_arg (k := 1) hx hL (by omega) qL_law_991 qL_law_992 qL_law_993 qL_law_994 qL_law_995 ?_
  refine S_arg (k := 2) hx hL (by omega) qL_law_996 qL_law_997 qL_law_998 qL_law_999 qL_law_1000 ?_
  refine S_callV (n := 2) hD qL_law_1001 lL_130 vX6_judge r0 (c_judge hC (sc_r xs (i + 1)) (sc_r xs (i + 2))) (by decide) rfl rfl (by exact Nat.le_of_ble_eq_true rfl) (fun x1 V1 h1 => ?_)
  obtain ⟨rfl, c1, k1⟩ := h1
  show SW g X RL cL_law _ _ [_] _
  refine S_al2 qL_law_1004 ?_
  refine S_arg (k := 1) hx hL (by omega) qL_law_1005 qL_law_1006 qL_law_1007 qL_law_1008 qL_law_1009 ?_
  refine S_arg (k := 2) hx hL (by omega) qL_law_1010 qL_law_1011 qL_law_1012 qL_law_1013 qL_law_1014 ?_
  refine S_callV (n := 2) hD qL_law_1015 lL_133 vX7_judge r83 (m_judge (hM.hi k1) (sc_r xs (i + 1)) (sc_r xs (i + 2))) (by decide) rfl rfl (by exact Nat.le_of_ble_eq_true rfl) (fun x2 V2 h2 => ?_)
  obtain ⟨rfl, c2, k2⟩ := h2
  show SW g X RL cL_law _ _ [_, _] _
  exact S_same qL_law_1018 (K V2 _ (c1.lo k2) c2)
theorem law_29 {g : GC} {X : CX} {L : Nat} {xs : Nat → Int32} {i : Int} {V : MM} {Z : ZT} (hx : LX g X L xs) (hL : L ≤ 3072) (hD : Dp X 40) (hi : 0 ≤ i ∧ i + 6 ≤ L) (hC : CA V Z) (hM : MA V Z) (K : ∀ (V2 : MM) (Z2 : ZT), CA V2 Z2 → MA V2 Z2 → SW g X RL cL_law 1384 (lsL i) [] V2) : SW g X RL cL_law 1023 (lsL i) [] V := by
  refine S_al1 qL_law_1023 ?_
  refine S_callV (n := 0) hD qL_law_1024 lL_134 vX6_image r0 (c_image hC) (by decide) rfl rfl (by exact Nat.le_of_ble_eq_true rfl) (fun x1 V1 h1 => ?_)
  obtain ⟨rfl, c1, k1⟩ := h1
  show SW g X RL cL_law _ _ [_] _
  refine S_al2 qL_law_1027 ?_
  refine S_callV (n := 0) hD qL_law_1028 lL_137 vX7_image r83 (m_image (hM.hi k1)) (by decide) rfl rfl (by exact Nat.le_of_ble_eq_true rfl) (fun x2 V2 h2 => ?_)
  obtain ⟨rfl, c2, k2⟩ := h2
  show SW g X RL cL_law _ _ [_, _] _
  exact S_same qL_law_1031 (K V2 _ (c1.lo k2) c2)
theorem law_30 {g : GC} {X : CX} {L : Nat} {xs : Nat → Int32} {i : Int} {V : MM} {Z : ZT} (hx : LX g X L xs) (hL : L ≤ 3072) (hD : Dp X 40) (hi : 0 ≤ i ∧ i + 6 ≤ L) (hC : CA V Z) (hM : MA V Z) (K : ∀ (V2 : MM) (Z2 : ZT), CA V2 Z2 → MA V2 Z2 → SW g X RL cL_law 1384 (lsL i) [] V2) : SW g X RL cL_law 1036 (lsL i) [] V := by
  refine S_al1 qL_law_1036 ?_
  refine S_callV (n := 0) hD qL_law_1037 lL_138 vX6_undo r0 (c_undo hC) (by decide) rfl rfl (by exact Nat.le_of_ble_eq_true rfl) (fun x1 V1 h1 => ?_)
  obtain ⟨rfl, c1, k1⟩ := h1
  show SW g X RL cL_law _ _ [_] _
  refine S_al2 qL_law_1040 ?_
  refine S_callV (n := 0) hD qL_law_1041 lL_141 vX7_undo r83 (m_undo (hM.hi k1)) (by decide) rfl rfl (by exact Nat.le_of_ble_eq_true rfl) (fun x2 V2 h2 => ?_)
  obtain ⟨rfl, c2, k2⟩ := h2
  show SW g X RL cL_law _ _ [_, _] _
  exact S_same qL_law_1044 (K V2 _ (c1.lo k2) c2)
theorem law_31 {g : GC} {X : CX} {L : Nat} {xs : Nat → Int32} {i : Int} {V : MM} {Z : ZT} (hx : LX g X L xs) (hL : L ≤ 3072) (hD : Dp X 40) (hi : 0 ≤ i ∧ i + 6 ≤ L) (hC : CA V Z) (hM : MA V Z) (K : ∀ (V2 : MM) (Z2 : ZT), CA V2 Z2 → MA V2 Z2 → SW g X RL cL_law 1384 (lsL i) [] V2) : SW g X RL cL_law 1049 (lsL i) [] V := by
  refine S_al1 qL_law_1049 ?_
  refine S_arg (k := 1) hx hL (by omega) qL_law_1050 qL_law_1051 qL_law_1052 qL_law_1053 qL_law_1054 ?_
  refine S_arg (k := 2) hx hL (by omega) qL_law_1055 qL_law_1056 qL_law_1057 qL_law_1058 qL_law_1059 ?_
  refine S_arg (k := 3) hx hL (by omega) qL_law_1060 qL_law_1061 qL_law_1062 qL_law_1063 qL_law_1064 ?_
  refine S_callV (n := 3) hD qL_law_1065 lL_142 vX6_act r0 (c_act hC (sc_r xs (i + 1)) (sc_r xs (i + 2))) (by decide) rfl rfl (by exact Nat.le_of_ble_eq_true rfl) (fun x1 V1 h1 => ?_)
  obtain ⟨rfl, c1, k1⟩ := h1
  show SW g X RL cL_law _ _ [_] _
  refine S_al2 qL_law_1068 ?_
  refine S_arg (k := 1) hx hL (by omega) qL_law_1069 qL_law_1070 qL_law_1071 qL_law_1072 qL_law_1073 ?_
  refine S_arg (k := 2) hx hL (by omega) qL_law_1074 qL_law_1075 qL_law_1076 qL_law_1077 qL_law_1078 ?_
  refine S_arg (k := 3) hx hL (by omega) qL_law_1079 qL_law_1080 qL_law_1081 qL_law_1082 qL_law_1083 ?_
  refine S_callV (n := 3) hD qL_law_1084 lL_145 vX7_act r83 (m_act (hM.hi k1) (sc_r xs (i + 1)) (sc_r xs (i + 2))) (by decide) rfl rfl (by exact Nat.le_of_ble_eq_true rfl) (fun x2 V2 h2 => ?_)
  obtain ⟨rfl, c2, k2⟩ := h2
  show SW g X RL cL_law _ _ [_, _] _
  exact S_same qL_law_1087 (K V2 _ (c1.lo k2) c2)
theorem law_32 {g : GC} {X : CX} {L : Nat} {xs : Nat → Int32} {i : Int} {V : MM} {Z : ZT} (hx : LX g X L xs) (hL : L ≤ 3072) (hD : Dp X 40) (hi : 0 ≤ i ∧ i + 6 ≤ L) (hC : CA V Z) (hM : MA V Z) (K : ∀ (V2 : MM) (Z2 : ZT), CA V2 Z2 → MA V2 Z2 → SW g X RL cL_law 1384 (lsL i) [] V2) : SW g X RL cL_law 1092 (lsL i) [] V := by
  refine S_al1 qL_law_1092 ?_
  refine S_arg (k := 1) hx hL (by omega) qL_law_1093 qL_law_1094 qL_law_1095 qL_law_1096 qL_law_1097 ?_
  refine S_callV (n := 1) hD qL_law_1098 lL_146 vX6_trace r0 (c_trace hC (sc_r xs (i + 1))) (by decide) rfl rfl (by exact Nat.le_of_ble_eq_true rfl) (fun x1 V1 h1 => ?_)
  obtain ⟨rfl, c1, k1⟩ := h1
  show SW g X RL cL_law _ _ [_] _
  refine S_al2 qL_law_1101 ?_
  refine S_arg (k := 1) hx hL (by omega) qL_law_1102 qL_law_1103 qL_law_1104 qL_law_1105 qL_law_1106 ?_
  refine S_callV (n := 1) hD qL_law_1107 lL_149 vX7_trace r83 (m_trace (hM.hi k1) (sc_r xs (i + 1))) (by decide) rfl rfl (by exact Nat.le_of_ble_eq_true rfl) (fun x2 V2 h2 => ?_)
  obtain ⟨rfl, c2, k2⟩ := h2
  show SW g X RL cL_law _ _ [_, _] _
  exact S_same qL_law_1110 (K V2 _ (c1.lo k2) c2)
theorem law_33 {g : GC} {X : CX} {L : Nat} {xs : Nat → Int32} {i : Int} {V : MM} {Z : ZT} (hx : LX g X L xs) (hL : L ≤ 3072) (hD : Dp X 40) (hi : 0 ≤ i ∧ i + 6 ≤ L) (hC : CA V Z) (hM : MA V Z) (K : ∀ (V2 : MM) (Z2 : ZT), CA V2 Z2 → MA V2 Z2 → SW g X RL cL_law 1384 (lsL i) [] V2) : SW g X RL cL_law 1115 (lsL i) [] V := by
  refine S_al1 qL_law_1115 ?_
  refine S_arg (k := 1) hx hL (by omega) qL_law_1116 qL_law_1117 qL_law_1118 qL_law_1119 qL_law_1120 ?_
  refine S_arg (k := 2) hx hL (by omega) qL_law_1121 qL_law_1122 qL_law_1123 qL_law_1124 qL_law_1125 ?_
  refine S_callV (n := 2) hD qL_law_1126 lL_150 vX6_taken r0 (c_taken hC (sc_r xs (i + 1)) (sc_r xs (i + 2))) (by decide) rfl rfl (by exact Nat.le_of_ble_eq_true rfl) (fun x1 V1 h1 => ?_)
  obtain ⟨rfl, c1, k1⟩ := h1
  show SW g X RL cL_law _ _ [_] _
  refine S_al2 qL_law_1129 ?_
  refine S_arg (k := 1) hx hL (by omega) qL_law_1130 qL_law_1131 qL_law_1132 qL_law_1133 qL_law_1134 ?_
  refine S_arg (k := 2) hx hL (by omega) qL_law_1135 qL_law_1136 qL_law_1137 qL_law_1138 qL_law_1139 ?_
  refine S_callV (n := 2) hD qL_law_1140 lL_153 vX7_taken r83 (m_taken (hM.hi k1) (sc_r xs (i + 1)) (sc_r xs (i + 2))) (by decide) rfl rfl (by exact Nat.le_of_ble_eq_true rfl) (fun x2 V2 h2 => ?_)
  obtain ⟨rfl, c2, k2⟩ := h2
  show SW g X RL cL_law _ _ [_, _] _
  exact S_same qL_law_1143 (K V2 _ (c1.lo k2) c2)
theorem law_34 {g : GC} {X : CX} {L : Nat} {xs : Nat → Int32} {i : Int} {V : MM} {Z : ZT} (hx : LX g X L xs) (hL : L ≤ 3072) (hD : Dp X 40) (hi : 0 ≤ i ∧ i + 6 ≤ L) (hC : CA V Z) (hM : MA V Z) (K : ∀ (V2 : MM) (Z2 : ZT), CA V2 Z2 → MA V2 Z2 → SW g X RL cL_law 1384 (lsL i) [] V2) : SW g X RL cL_law 1148 (lsL i) [] V := by
  refine S_al1 qL_law_1148 ?_
  refine S_arg (k := 1) hx hL (by omega) qL_law_1149 qL_law_1150 qL_law_1151 qL_law_1152 qL_law_1153 ?_
  refine S_callV (n := 1) hD qL_law_1154 lL_154 vX6_count r0 (c_count hC (sc_r xs (i + 1))) (by decide) rfl rfl (by exact Nat.le_of_ble_eq_true rfl) (fun x1 V1 h1 => ?_)
  obtain ⟨rfl, c1, k1⟩ := h1
  show SW g X RL cL_law _ _ [_] _
  refine S_al2 qL_law_1157 ?_
  refine S_arg (k := 1) hx hL (by omega) qL_law_1158 qL_law_1159 qL_law_1160 qL_law_1161 qL_law_1162 ?_
  refine S_callV (n := 1) hD qL_law_1163 lL_157 vX7_count r83 (m_count (hM.hi k1) (sc_r xs (i + 1))) (by decide) rfl rfl (by exact Nat.le_of_ble_eq_true rfl) (fun x2 V2 h2 => ?_)
  obtain ⟨rfl, c2, k2⟩ := h2
  show SW g X RL cL_law _ _ [_, _] _
  exact S_same qL_law_1166 (K V2 _ (c1.lo k2) c2)
theorem law_35 {g : GC} {X : CX} {L : Nat} {xs : Nat → Int32} {i : Int} {V : MM} {Z : ZT} (hx : LX g X L xs) (hL : L ≤ 3072) (hD : Dp X 40) (hi : 0 ≤ i ∧ i + 6 ≤ L) (hC : CA V Z) (hM : MA V Z) (K : ∀ (V2 : MM) (Z2 : ZT), CA V2 Z2 → MA V2 Z2 → SW g X RL cL_law 1384 (lsL i) [] V2) : SW g X RL cL_law 1171 (lsL i) [] V := by
  refine S_al1 qL_law_1171 ?_
  refine S_arg (k := 1) hx hL (by omega) qL_law_1172 qL_law_1173 qL_law_1174 qL_law_1175 qL_law_1176 ?_
  refine S_arg (k := 2) hx hL (by omega) qL_law_1177 qL_law_1178 qL_law_1179 qL_law_1180 qL_law_1181 ?_
  refine S_arg (k := 3) hx hL (by omega) qL_law_1182 qL_law_1183 qL_law_1184 qL_law_1185 qL_law_1186 ?_
  refine S_callV (n := 3) hD qL_law_1187 lL_158 vX6_tape r0 (c_tape hC (sc_r xs (i + 1)) (sc_r xs (i + 2)) (sc_r xs (i + 3))) (by decide) rfl rfl (by exact Nat.le_of_ble_eq_true rfl) (fun x1 V1 h1 => ?_)
  obtain ⟨rfl, c1, k1⟩ := h1
  show SW g X RL cL_law _ _ [_] _
  refine S_al2 qL_law_1190 ?_
  refine S_arg (k := 1) hx hL (by omega) qL_law_1191 qL_law_1192 qL_law_1193 qL_law_1194 qL_law_1195 ?_
  refine S_arg (k := 2) hx hL (by omega) qL_law_1196 qL_law_1197 qL_law_1198 qL_law_1199 qL_law_1200 ?_
  refine S_arg (k := 3) hx hL (by omega) qL_law_1201 qL_law_1202 qL_law_1203 qL_law_1204 qL_law_1205 ?_
  refine S_callV (n := 3) hD qL_law_1206 lL_161 vX7_tape r83 (m_tape (hM.hi k1) (sc_r xs (i + 1)) (sc_r xs (i + 2)) (sc_r xs (i + 3))) (by decide) rfl rfl (by exact Nat.le_of_ble_eq_true rfl) (fun x2 V2 h2 => ?_)
  obtain ⟨rfl, c2, k2⟩ := h2
  show SW g X RL cL_law _ _ [_, _] _
  exact S_same qL_law_1209 (K V2 _ (c1.lo k2) c2)
theorem law_36 {g : GC} {X : CX} {L : Nat} {xs : Nat → Int32} {i : Int} {V : MM} {Z : ZT} (hx : LX g X L xs) (hL : L ≤ 3072) (hD : Dp X 40) (hi : 0 ≤ i ∧ i + 6 ≤ L) (hC : CA V Z) (hM : MA V Z) (K : ∀ (V2 : MM) (Z2 : ZT), CA V2 Z2 → MA V2 Z2 → SW g X RL cL_law 1384 (lsL i) [] V2) : SW g X RL cL_law 1214 (lsL i) [] V := by
  refine S_al1 qL_law_1214 ?_
  refine S_arg (k := 1) hx hL (by omega) qL_law_1215 qL_law_1216 qL_law_1217 qL_law_1218 qL_law_1219 ?_
  refine S_arg (k := 2) hx hL (by omega) qL_law_1220 qL_law_1221 qL_law_1222 qL_law_1223 qL_law_1224 ?_
  refine S_arg (k := 3) hx hL (by omega) qL_law_1225 qL_law_1226 qL_law_1227 qL_law_1228 qL_law_1229 ?_
  refine S_i2l (h := sc_r xs _) (d := qL_law_1230) (k := ?_)
  refine S_bipush (d := qL_law_1231) (k := ?_)
  refine S_lshl qL_law_1233 ?_
  refine S_arg (k := 4) hx hL (by omega) qL_law_1234 qL_law_1235 qL_law_1236 qL_law_1237 qL_law_1238 ?_
  refine S_i2l (h := sc_r xs _) (d := qL_law_1239) (k := ?_)
  refine S_ldc2 qL_law_1240 kL_162 ?_
  refine S_land qL_law_1243 ?_
  refine S_lor qL_law_1244 ?_
  refine S_callV (n := 3) hD qL_law_1245 lL_164 vX6_item r0 (c_item hC (sc_r xs (i + 1)) (sc_r xs (i + 2))) (by decide) rfl rfl (by exact Nat.le_of_ble_eq_true rfl) (fun x1 V1 h1 => ?_)
  obtain ⟨rfl, c1, k1⟩ := h1
  show SW g X RL cL_law _ _ [_] _
  refine S_al2 qL_law_1248 ?_
  refine S_arg (k := 1) hx hL (by omega) qL_law_1249 qL_law_1250 qL_law_1251 qL_law_1252 qL_law_1253 ?_
  refine S_arg (k := 2) hx hL (by omega) qL_law_1254 qL_law_1255 qL_law_1256 qL_law_1257 qL_law_1258 ?_
  refine S_arg (k := 3) hx hL (by omega) qL_law_1259 qL_law_1260 qL_law_1261 qL_law_1262 qL_law_1263 ?_
  refine S_i2l (h := sc_r xs _) (d := qL_law_1264) (k := ?_)
  refine S_bipush (d := qL_law_1265) (k := ?_)
  refine S_lshl qL_law_1267 ?_
  refine S_arg (k := 4) hx hL (by omega) qL_law_1268 qL_law_1269 qL_law_1270 qL_law_1271 qL_law_1272 ?_
  refine S_i2l (h := sc_r xs _) (d := qL_law_1273) (k := ?_)
  refine S_ldc2 qL_law_1274 kL_162 ?_
  refine S_land qL_law_1277 ?_
  refine S_lor qL_law_1278 ?_
  refine S_callV (n := 3) hD qL_law_1279 lL_168 vX7_item r83 (m_item (hM.hi k1) (sc_r xs (i + 1)) (sc_r xs (i + 2))) (by decide) rfl rfl (by exact Nat.le_of_ble_eq_true rfl) (fun x2 V2 h2 => ?_)
  obtain ⟨rfl, c2, k2⟩ := h2
  show SW g X RL cL_law _ _ [_, _] _
  exact S_same qL_law_1282 (K V2 _ (c1.lo k2) c2)
theorem law_37 {g : GC} {X : CX} {L : Nat} {xs : Nat → Int32} {i : Int} {V : MM} {Z : ZT} (hx : LX g X L xs) (hL : L ≤ 3072) (hD : Dp X 40) (hi : 0 ≤ i ∧ i + 6 ≤ L) (hC : CA V Z) (hM : MA V Z) (K : ∀ (V2 : MM) (Z2 : ZT), CA V2 Z2 → MA V2 Z2 → SW g X RL cL_law 1384 (lsL i) [] V2) : SW g X RL cL_law 1287 (lsL i) [] V := by
  refine S_al1 qL_law_1287 ?_
  refine S_arg (k := 1) hx hL (by omega) qL_law_1288 qL_law_1289 qL_law_1290 qL_law_1291 qL_law_1292 ?_
  refine S_arg (k := 2) hx hL (by omega) qL_law_1293 qL_law_1294 qL_law_1295 qL_law_1296 qL_law_1297 ?_
  refine S_callV (n := 2) hD qL_law_1298 lL_169 vX6_read r0 (c_read hC (sc_r xs (i + 1)) (sc_r xs (i + 2))) (by decide) rfl rfl (by exact Nat.le_of_ble_eq_true rfl) (fun x1 V1 h1 => ?_)
  obtain ⟨rfl, c1, k1⟩ := h1
  show SW g X RL cL_law _ _ [_] _
  refine S_al2 qL_law_1301 ?_
  refine S_arg (k := 1) hx hL (by omega) qL_law_1302 qL_law_1303 qL_law_1304 qL_law_1305 qL_law_1306 ?_
  refine S_arg (k := 2) hx hL (by omega) qL_law_1307 qL_law_1308 qL_law_1309 qL_law_1310 qL_law_1311 ?_
  refine S_callV (n := 2) hD qL_law_1312 lL_172 vX7_read r83 (m_read (hM.hi k1) (sc_r xs (i + 1)) (sc_r xs (i + 2))) (by decide) rfl rfl (by exact Nat.le_of_ble_eq_true rfl) (fun x2 V2 h2 => ?_)
  obtain ⟨rfl, c2, k2⟩ := h2
  show SW g X RL cL_law _ _ [_, _] _
  exact S_sameL qL_law_1315 qL_law_1316 (K V2 _ (c1.lo k2) c2)
theorem law_38 {g : GC} {X : CX} {L : Nat} {xs : Nat → Int32} {i : Int} {V : MM} {Z : ZT} (hx : LX g X L xs) (hL : L ≤ 3072) (hD : Dp X 40) (hi : 0 ≤ i ∧ i + 6 ≤ L) (hC : CA V Z) (hM : MA V Z) (K : ∀ (V2 : MM) (Z2 : ZT), CA V2 Z2 → MA V2 Z2 → SW g X RL cL_law 1384 (lsL i) [] V2) : SW g X RL cL_law 1321 (lsL i) [] V := by
  refine S_al1 qL_law_1321 ?_
  refine S_arg (k := 1) hx hL (by omega) qL_law_1322 qL_law_1323 qL_law_1324 qL_law_1325 qL_law_1326 ?_
  refine S_arg (k := 2) hx hL (by omega) qL_law_1327 qL_law_1328 qL_law_1329 qL_law_1330 qL_law_1331 ?_
  refine S_arg (k := 3) hx hL (by omega) qL_law_1332 qL_law_1333 qL_law_1334 qL_law_1335 qL_law_1336 ?_
  refine S_arg (k := 4) hx hL (by omega) qL_law_1337 qL_law_1338 qL_law_1339 qL_law_1340 qL_law_1341 ?_
  refine S_arg (k := 5) hx hL (by omega) qL_law_1342 qL_law_1343 qL_law_1344 qL_law_1345 qL_law_1346 ?_
  refine S_callV (n := 5) hD qL_law_1347 lL_173 vX6_shift r0 (c_shift hC (sc_r xs (i + 1)) (sc_r xs (i + 2)) (sc_r xs (i + 3)) (sc_r xs (i + 4)) (sc_r xs (i + 5))) (by decide) rfl rfl (by exact Nat.le_of_ble_eq_true rfl) (fun x1 V1 h1 => ?_)
  obtain ⟨rfl, c1, k1⟩ := h1
  show SW g X RL cL_law _ _ [_] _
  refine S_al2 qL_law_1350 ?_
  refine S_arg (k := 1) hx hL (by omega) qL_law_1351 qL_law_1352 qL_law_1353 qL_law_1354 qL_law_1355 ?_
  refine S_arg (k := 2) hx hL (by omega) qL_law_1356 qL_law_1357 qL_law_1358 qL_law_1359 qL_law_1360 ?_
  refine S_arg (k := 3) hx hL (by omega) qL_law_1361 qL_law_1362 qL_law_1363 qL_law_1364 qL_law_1365 ?_
  refine S_arg (k := 4) hx hL (by omega) qL_law_1366 qL_law_1367 qL_law_1368 qL_law_1369 qL_law_1370 ?_
  refine S_arg (k := 5) hx hL (by omega) qL_law_1371 qL_law_1372 qL_law_1373 qL_law_1374 qL_law_1375 ?_
  refine S_callV (n := 5) hD qL_law_1376 lL_177 vX7_shift r83 (m_shift (hM.hi k1) (sc_r xs (i + 1)) (sc_r xs (i + 2)) (sc_r xs (i + 3)) (sc_r xs (i + 4)) (sc_r xs (i + 5))) (by decide) rfl rfl (by exact Nat.le_of_ble_eq_true rfl) (fun x2 V2 h2 => ?_)
  obtain ⟨rfl, c2, k2⟩ := h2
  show SW g X RL cL_law _ _ [_, _] _
  exact S_same qL_law_1379 (K V2 _ (c1.lo k2) c2)
theorem law_sw {g : GC} {X : CX} {L : Nat} {xs : Nat → Int32} {i w : Int} {V : MM} {Z : ZT} (hx : LX g X L xs) (hL : L ≤ 3072) (hD : Dp X 40) (hi : 0 ≤ i ∧ i + 6 ≤ L) (hw : -2147483648 ≤ w ∧ w ≤ 2147483647) (hC : CA V Z) (hM : MA V Z) (K : ∀ (V2 : MM) (Z2 : ZT), CA V2 Z2 → MA V2 Z2 → SW g X RL cL_law 1384 (lsL i) [] V2) : SW g X RL cL_law 33 (lsL i) [vi w] V := by
  by_cases s0 : w = 0
  · exact S_tabIn (tgt := 204) (off := 171) qL_law_33 (by omega) hw (by rw [s0]; rfl) (by decide) (law_0 hx hL hD hi hC hM K)
  by_cases s1 : w = 1
  · exact S_tabIn (tgt := 247) (off := 214) qL_law_33 (by omega) hw (by rw [s1]; rfl) (by decide) (law_1 hx hL hD hi hC hM K)
  by_cases s2 : w = 2
  · exact S_tabIn (tgt := 280) (off := 247) qL_law_33 (by omega) hw (by rw [s2]; rfl) (by decide) (law_2 hx hL hD hi hC hM K)
  by_cases s3 : w = 3
  · exact S_tabIn (tgt := 313) (off := 280) qL_law_33 (by omega) hw (by rw [s3]; rfl) (by decide) (law_3 hx hL hD hi hC hM K)
  by_cases s4 : w = 4
  · exact S_tabIn (tgt := 346) (off := 313) qL_law_33 (by omega) hw (by rw [s4]; rfl) (by decide) (law_4 hx hL hD hi hC hM K)
  by_cases s5 : w = 5
  · exact S_tabIn (tgt := 389) (off := 356) qL_law_33 (by omega) hw (by rw [s5]; rfl) (by decide) (law_5 hx hL hD hi hC hM K)
  by_cases s6 : w = 6
  · exact S_tabIn (tgt := 412) (off := 379) qL_law_33 (by omega) hw (by rw [s6]; rfl) (by decide) (law_6 hx hL hD hi hC hM K)
  by_cases s7 : w = 7
  · exact S_tabIn (tgt := 425) (off := 392) qL_law_33 (by omega) hw (by rw [s7]; rfl) (by decide) (law_7 hx hL hD hi hC hM K)
  by_cases s8 : w = 8
  · exact S_tabIn (tgt := 448) (off := 415) qL_law_33 (by omega) hw (by rw [s8]; rfl) (by decide) (law_8 hx hL hD hi hC hM K)
  by_cases s9 : w = 9
  · exact S_tabIn (tgt := 471) (off := 438) qL_law_33 (by omega) hw (by rw [s9]; rfl) (by decide) (law_9 hx hL hD hi hC hM K)
  by_cases s10 : w = 10
  · exact S_tabIn (tgt := 504) (off := 471) qL_law_33 (by omega) hw (by rw [s10]; rfl) (by decide) (law_10 hx hL hD hi hC hM K)
  by_cases s11 : w = 11
  · exact S_tabIn (tgt := 517) (off := 484) qL_law_33 (by omega) hw (by rw [s11]; rfl) (by decide) (law_11 hx hL hD hi hC hM K)
  by_cases s12 : w = 12
  · exact S_tabIn (tgt := 530) (off := 497) qL_law_33 (by omega) hw (by rw [s12]; rfl) (by decide) (law_12 hx hL hD hi hC hM K)
  by_cases s13 : w = 13
  · exact S_tabIn (tgt := 543) (off := 510) qL_law_33 (by omega) hw (by rw [s13]; rfl) (by decide) (law_13 hx hL hD hi hC hM K)
  by_cases s14 : w = 14
  · exact S_tabIn (tgt := 576) (off := 543) qL_law_33 (by omega) hw (by rw [s14]; rfl) (by decide) (law_14 hx hL hD hi hC hM K)
  by_cases s15 : w = 15
  · exact S_tabIn (tgt := 619) (off := 586) qL_law_33 (by omega) hw (by rw [s15]; rfl) (by decide) (law_15 hx hL hD hi hC hM K)
  by_cases s16 : w = 16
  · exact S_tabIn (tgt := 642) (off := 609) qL_law_33 (by omega) hw (by rw [s16]; rfl) (by decide) (law_16 hx hL hD hi hC hM K)
  by_cases s17 : w = 17
  · exact S_tabIn (tgt := 685) (off := 652) qL_law_33 (by omega) hw (by rw [s17]; rfl) (by decide) (law_17 hx hL hD hi hC hM K)
  by_cases s18 : w = 18
  · exact S_tabIn (tgt := 698) (off := 665) qL_law_33 (by omega) hw (by rw [s18]; rfl) (by decide) (law_18 hx hL hD hi hC hM K)
  by_cases s19 : w = 19
  · exact S_tabIn (tgt := 741) (off := 708) qL_law_33 (by omega) hw (by rw [s19]; rfl) (by decide) (law_19 hx hL hD hi hC hM K)
  by_cases s20 : w = 20
  · exact S_tabIn (tgt := 764) (off := 731) qL_law_33 (by omega) hw (by rw [s20]; rfl) (by decide) (law_20 hx hL hD hi hC hM K)
  by_cases s21 : w = 21
  · exact S_tabIn (tgt := 807) (off := 774) qL_law_33 (by omega) hw (by rw [s21]; rfl) (by decide) (law_21 hx hL hD hi hC hM K)
  by_cases s22 : w = 22
  · exact S_tabIn (tgt := 830) (off := 797) qL_law_33 (by omega) hw (by rw [s22]; rfl) (by decide) (law_22 hx hL hD hi hC hM K)
  by_cases s23 : w = 23
  · exact S_tabIn (tgt := 864) (off := 831) qL_law_33 (by omega) hw (by rw [s23]; rfl) (by decide) (law_23 hx hL hD hi hC hM K)
  by_cases s24 : w = 24
  · exact S_tabIn (tgt := 898) (off := 865) qL_law_33 (by omega) hw (by rw [s24]; rfl) (by decide) (law_24 hx hL hD hi hC hM K)
  by_cases s25 : w = 25
  · exact S_tabIn (tgt := 921) (off := 888) qL_law_33 (by omega) hw (by rw [s25]; rfl) (by decide) (law_25 hx hL hD hi hC hM K)
  by_cases s26 : w = 26
  · exact S_tabIn (tgt := 944) (off := 911) qL_law_33 (by omega) hw (by rw [s26]; rfl) (by decide) (law_26 hx hL hD hi hC hM K)
  by_cases s27 : w = 27
  · exact S_tabIn (tgt := 977) (off := 944) qL_law_33 (by omega) hw (by rw [s27]; rfl) (by decide) (law_27 hx hL hD hi hC hM K)
  by_cases s28 : w = 28
  · exact S_tabIn (tgt := 990) (off := 957) qL_law_33 (by omega) hw (by rw [s28]; rfl) (by decide) (law_28 hx hL hD hi hC hM K)
  by_cases s29 : w = 29
  · exact S_tabIn (tgt := 1023) (off := 990) qL_law_33 (by omega) hw (by rw [s29]; rfl) (by decide) (law_29 hx hL hD hi hC hM K)
  by_cases s30 : w = 30
  · exact S_tabIn (tgt := 1036) (off := 1003) qL_law_33 (by omega) hw (by rw [s30]; rfl) (by decide) (law_30 hx hL hD hi hC hM K)
  by_cases s31 : w = 31
  · exact S_tabIn (tgt := 1049) (off := 1016) qL_law_33 (by omega) hw (by rw [s31]; rfl) (by decide) (law_31 hx hL hD hi hC hM K)
  by_cases s32 : w = 32
  · exact S_tabIn (tgt := 1092) (off := 1059) qL_law_33 (by omega) hw (by rw [s32]; rfl) (by decide) (law_32 hx hL hD hi hC hM K)
  by_cases s33 : w = 33
  · exact S_tabIn (tgt := 1115) (off := 1082) qL_law_33 (by omega) hw (by rw [s33]; rfl) (by decide) (law_33 hx hL hD hi hC hM K)
  by_cases s34 : w = 34
  · exact S_tabIn (tgt := 1148) (off := 1115) qL_law_33 (by omega) hw (by rw [s34]; rfl) (by decide) (law_34 hx hL hD hi hC hM K)
  by_cases s35 : w = 35
  · exact S_tabIn (tgt := 1171) (off := 1138) qL_law_33 (by omega) hw (by rw [s35]; rfl) (by decide) (law_35 hx hL hD hi hC hM K)
  by_cases s36 : w = 36
  · exact S_tabIn (tgt := 1214) (off := 1181) qL_law_33 (by omega) hw (by rw [s36]; rfl) (by decide) (law_36 hx hL hD hi hC hM K)
  by_cases s37 : w = 37
  · exact S_tabIn (tgt := 1287) (off := 1254) qL_law_33 (by omega) hw (by rw [s37]; rfl) (by decide) (law_37 hx hL hD hi hC hM K)
  by_cases s38 : w = 38
  · exact S_tabIn (tgt := 1321) (off := 1288) qL_law_33 (by omega) hw (by rw [s38]; rfl) (by decide) (law_38 hx hL hD hi hC hM K)
  exact S_tabOut (tgt := 1384) qL_law_33 (by omega) hw (by decide) (K V Z hC hM)
theorem law_loop {g : GC} {X : CX} {L : Nat} {xs : Nat → Int32} (hx : LX g X L xs) (hL : L ≤ 3072) (hD : Dp X 40) (E : ∀ (i : Int) (V : MM), SW g X RL cL_law 1390 (lsL i) [] V) :
    ∀ (n : Nat) (i : Int), 0 ≤ i → i ≤ 4000 → (L : Int) - i < n → ∀ (V : MM) (Z : ZT), CA V Z → MA V Z → SW g X RL cL_law 18 (lsL i) [] V := by
  intro n
  induction n with
  | zero =>
    intro i h0 h1 hn V Z hC hM
    refine S_il3 qL_law_18 ?_
    refine S_al0 qL_law_19 ?_
    refine S_slen hx qL_law_20 ?_
    refine S_bipush (d := qL_law_21) (k := ?_)
    refine S_isub qL_law_23 ?_
    refine S_icmp_gt (d := qL_law_24) (kt := fun _ => ?_) (kf := fun q => ?_)
    · exact E i V
    · exact absurd q (by omega)
  | succ n ih =>
    intro i h0 h1 hn V Z hC hM
    refine S_il3 qL_law_18 ?_
    refine S_al0 qL_law_19 ?_
    refine S_slen hx qL_law_20 ?_
    refine S_bipush (d := qL_law_21) (k := ?_)
    refine S_isub qL_law_23 ?_
    refine S_icmp_gt (d := qL_law_24) (kt := fun _ => ?_) (kf := fun q => ?_)
    · exact E i V
    refine S_al0 qL_law_27 ?_
    refine S_il3 qL_law_28 ?_
    refine S_sld hx hL qL_law_29 (by omega) ?_
    refine S_bipush (d := qL_law_30) (k := ?_)
    refine S_iand qL_law_32 ?_
    refine law_sw hx hL hD (by omega) (io_rg _) hC hM (fun V2 Z2 h2 h3 => ?_)
    refine S_inc3 qL_law_1384 (K := ?_)
    refine S_goto qL_law_1387 ?_
    exact ih (i + 6) (by omega) (by omega) (by omega) V2 Z2 h2 h3
